theorem dX12_init_0 : decode cX12_init 0 = .ok (.aload_n 0, 1) := by decide +kernel
theorem dX12_init_1 : decode cX12_init 1 = .ok (.invokespecial 1, 3) := by decide +kernel
theorem dX12_init_4 : decode cX12_init 4 = .ok (.aload_n 0, 1) := by decide +kernel
theorem dX12_init_5 : decode cX12_init 5 = .ok (.sipush 2119, 3) := by decide +kernel
theorem dX12_init_8 : decode cX12_init 8 = .ok (.newarray .int, 2) := by decide +kernel
theorem dX12_init_10 : decode cX12_init 10 = .ok (.putfield 7, 3) := by decide +kernel
theorem dX12_init_13 : decode cX12_init 13 = .ok (.aload_n 0, 1) := by decide +kernel
theorem dX12_init_14 : decode cX12_init 14 = .ok (.sipush 2119, 3) := by decide +kernel
theorem dX12_init_17 : decode cX12_init 17 = .ok (.newarray .int, 2) := by decide +kernel
theorem dX12_init_19 : decode cX12_init 19 = .ok (.putfield 13, 3) := by decide +kernel
theorem dX12_init_22 : decode cX12_init 22 = .ok (.aload_n 0, 1) := by decide +kernel
theorem dX12_init_23 : decode cX12_init 23 = .ok (.sipush 2916, 3) := by decide +kernel
theorem dX12_init_26 : decode cX12_init 26 = .ok (.newarray .int, 2) := by decide +kernel
theorem dX12_init_28 : decode cX12_init 28 = .ok (.putfield 16, 3) := by decide +kernel
theorem dX12_init_31 : decode cX12_init 31 = .ok (.aload_n 0, 1) := by decide +kernel
theorem dX12_init_32 : decode cX12_init 32 = .ok (.sipush 300, 3) := by decide +kernel
theorem dX12_init_35 : decode cX12_init 35 = .ok (.newarray .int, 2) := by decide +kernel
theorem dX12_init_37 : decode cX12_init 37 = .ok (.putfield 19, 3) := by decide +kernel
theorem dX12_init_40 : decode cX12_init 40 = .ok (.aload_n 0, 1) := by decide +kernel
theorem dX12_init_41 : decode cX12_init 41 = .ok (.iconst (-1), 1) := by decide +kernel
theorem dX12_init_42 : decode cX12_init 42 = .ok (.putfield 22, 3) := by decide +kernel
theorem dX12_init_45 : decode cX12_init 45 = .ok (.aload_n 0, 1) := by decide +kernel
theorem dX12_init_46 : decode cX12_init 46 = .ok (.iconst (-1), 1) := by decide +kernel
theorem dX12_init_47 : decode cX12_init 47 = .ok (.putfield 26, 3) := by decide +kernel
theorem dX12_init_50 : decode cX12_init 50 = .ok (.aload_n 0, 1) := by decide +kernel
theorem dX12_init_51 : decode cX12_init 51 = .ok (.sipush 160, 3) := by decide +kernel
theorem dX12_init_54 : decode cX12_init 54 = .ok (.newarray .int, 2) := by decide +kernel
theorem dX12_init_56 : decode cX12_init 56 = .ok (.putfield 29, 3) := by decide +kernel
theorem dX12_init_59 : decode cX12_init 59 = .ok (.aload_n 0, 1) := by decide +kernel
theorem dX12_init_60 : decode cX12_init 60 = .ok (.bipush 9, 2) := by decide +kernel
theorem dX12_init_62 : decode cX12_init 62 = .ok (.newarray .int, 2) := by decide +kernel
theorem dX12_init_64 : decode cX12_init 64 = .ok (.putfield 32, 3) := by decide +kernel
theorem dX12_init_67 : decode cX12_init 67 = .ok (.aload_n 0, 1) := by decide +kernel
theorem dX12_init_68 : decode cX12_init 68 = .ok (.sipush 330, 3) := by decide +kernel
theorem dX12_init_71 : decode cX12_init 71 = .ok (.newarray .long, 2) := by decide +kernel
theorem dX12_init_73 : decode cX12_init 73 = .ok (.putfield 35, 3) := by decide +kernel
theorem dX12_init_76 : decode cX12_init 76 = .ok (.aload_n 0, 1) := by decide +kernel
theorem dX12_init_77 : decode cX12_init 77 = .ok (.sipush 330, 3) := by decide +kernel
theorem dX12_init_80 : decode cX12_init 80 = .ok (.newarray .boolean, 2) := by decide +kernel
theorem dX12_init_82 : decode cX12_init 82 = .ok (.putfield 39, 3) := by decide +kernel
theorem dX12_init_85 : decode cX12_init 85 = .ok (.aload_n 0, 1) := by decide +kernel
theorem dX12_init_86 : decode cX12_init 86 = .ok (.iconst 1, 1) := by decide +kernel
theorem dX12_init_87 : decode cX12_init 87 = .ok (.putfield 43, 3) := by decide +kernel
theorem dX12_init_90 : decode cX12_init 90 = .ok (.aload_n 0, 1) := by decide +kernel
theorem dX12_init_91 : decode cX12_init 91 = .ok (.bipush 39, 2) := by decide +kernel
theorem dX12_init_93 : decode cX12_init 93 = .ok (.newarray .int, 2) := by decide +kernel
theorem dX12_init_95 : decode cX12_init 95 = .ok (.putfield 47, 3) := by decide +kernel
theorem dX12_init_98 : decode cX12_init 98 = .ok (.aload_n 0, 1) := by decide +kernel
theorem dX12_init_99 : decode cX12_init 99 = .ok (.bipush 8, 2) := by decide +kernel
theorem dX12_init_101 : decode cX12_init 101 = .ok (.newarray .int, 2) := by decide +kernel
theorem dX12_init_103 : decode cX12_init 103 = .ok (.putfield 50, 3) := by decide +kernel
theorem dX12_init_106 : decode cX12_init 106 = .ok (.aload_n 0, 1) := by decide +kernel
theorem dX12_init_107 : decode cX12_init 107 = .ok (.sipush 256, 3) := by decide +kernel
theorem dX12_init_110 : decode cX12_init 110 = .ok (.newarray .int, 2) := by decide +kernel
theorem dX12_init_112 : decode cX12_init 112 = .ok (.putfield 53, 3) := by decide +kernel
theorem dX12_init_115 : decode cX12_init 115 = .ok (.aload_n 0, 1) := by decide +kernel
theorem dX12_init_116 : decode cX12_init 116 = .ok (.bipush 64, 2) := by decide +kernel
theorem dX12_init_118 : decode cX12_init 118 = .ok (.newarray .int, 2) := by decide +kernel
theorem dX12_init_120 : decode cX12_init 120 = .ok (.putfield 56, 3) := by decide +kernel
theorem dX12_init_123 : decode cX12_init 123 = .ok (.aload_n 0, 1) := by decide +kernel
theorem dX12_init_124 : decode cX12_init 124 = .ok (.sipush 256, 3) := by decide +kernel
theorem dX12_init_127 : decode cX12_init 127 = .ok (.newarray .int, 2) := by decide +kernel
theorem dX12_init_129 : decode cX12_init 129 = .ok (.putfield 59, 3) := by decide +kernel
theorem dX12_init_132 : decode cX12_init 132 = .ok (.aload_n 0, 1) := by decide +kernel
theorem dX12_init_133 : decode cX12_init 133 = .ok (.bipush 7, 2) := by decide +kernel
theorem dX12_init_135 : decode cX12_init 135 = .ok (.newarray .int, 2) := by decide +kernel
theorem dX12_init_137 : decode cX12_init 137 = .ok (.putfield 62, 3) := by decide +kernel
theorem dX12_init_140 : decode cX12_init 140 = .ok (.aload_n 0, 1) := by decide +kernel
theorem dX12_init_141 : decode cX12_init 141 = .ok (.bipush 6, 2) := by decide +kernel
theorem dX12_init_143 : decode cX12_init 143 = .ok (.newarray .int, 2) := by decide +kernel
theorem dX12_init_145 : decode cX12_init 145 = .ok (.putfield 65, 3) := by decide +kernel
theorem dX12_init_148 : decode cX12_init 148 = .ok (.aload_n 0, 1) := by decide +kernel
theorem dX12_init_149 : decode cX12_init 149 = .ok (.bipush 7, 2) := by decide +kernel
theorem dX12_init_151 : decode cX12_init 151 = .ok (.newarray .int, 2) := by decide +kernel
theorem dX12_init_153 : decode cX12_init 153 = .ok (.putfield 68, 3) := by decide +kernel
theorem dX12_init_156 : decode cX12_init 156 = .ok (.aload_n 0, 1) := by decide +kernel
theorem dX12_init_157 : decode cX12_init 157 = .ok (.bipush 8, 2) := by decide +kernel
theorem dX12_init_159 : decode cX12_init 159 = .ok (.newarray .long, 2) := by decide +kernel
theorem dX12_init_161 : decode cX12_init 161 = .ok (.putfield 71, 3) := by decide +kernel
theorem dX12_init_164 : decode cX12_init 164 = .ok (.aload_n 0, 1) := by decide +kernel
theorem dX12_init_165 : decode cX12_init 165 = .ok (.bipush 8, 2) := by decide +kernel
theorem dX12_init_167 : decode cX12_init 167 = .ok (.newarray .long, 2) := by decide +kernel
theorem dX12_init_169 : decode cX12_init 169 = .ok (.putfield 74, 3) := by decide +kernel
theorem dX12_init_172 : decode cX12_init 172 = .ok (.aload_n 0, 1) := by decide +kernel
theorem dX12_init_173 : decode cX12_init 173 = .ok (.getfield 7, 3) := by decide +kernel
theorem dX12_init_176 : decode cX12_init 176 = .ok (.bipush 7, 2) := by decide +kernel
theorem dX12_init_178 : decode cX12_init 178 = .ok (.sipush 283, 3) := by decide +kernel
theorem dX12_init_181 : decode cX12_init 181 = .ok (.iastore, 1) := by decide +kernel
theorem dX12_init_182 : decode cX12_init 182 = .ok (.aload_n 0, 1) := by decide +kernel
theorem dX12_init_183 : decode cX12_init 183 = .ok (.getfield 7, 3) := by decide +kernel
theorem dX12_init_186 : decode cX12_init 186 = .ok (.bipush 9, 2) := by decide +kernel
theorem dX12_init_188 : decode cX12_init 188 = .ok (.bipush 20, 2) := by decide +kernel
theorem dX12_init_190 : decode cX12_init 190 = .ok (.iastore, 1) := by decide +kernel
theorem dX12_init_191 : decode cX12_init 191 = .ok (.aload_n 0, 1) := by decide +kernel
theorem dX12_init_192 : decode cX12_init 192 = .ok (.getfield 7, 3) := by decide +kernel
theorem dX12_init_195 : decode cX12_init 195 = .ok (.iconst 3, 1) := by decide +kernel
theorem dX12_init_196 : decode cX12_init 196 = .ok (.iconst (-1), 1) := by decide +kernel
theorem dX12_init_197 : decode cX12_init 197 = .ok (.iastore, 1) := by decide +kernel
theorem dX12_init_198 : decode cX12_init 198 = .ok (.aload_n 0, 1) := by decide +kernel
theorem dX12_init_199 : decode cX12_init 199 = .ok (.getfield 7, 3) := by decide +kernel
theorem dX12_init_202 : decode cX12_init 202 = .ok (.aload_n 0, 1) := by decide +kernel
theorem dX12_init_203 : decode cX12_init 203 = .ok (.getfield 13, 3) := by decide +kernel
theorem dX12_init_206 : decode cX12_init 206 = .ok (.invokestatic 77, 3) := by decide +kernel
theorem dX12_init_209 : decode cX12_init 209 = .ok (.return_, 1) := by decide +kernel
theorem dX12_copy_0 : decode cX12_copy 0 = .ok (.iconst 0, 1) := by decide +kernel
theorem dX12_copy_1 : decode cX12_copy 1 = .ok (.istore_n 2, 1) := by decide +kernel
theorem dX12_copy_2 : decode cX12_copy 2 = .ok (.iload_n 2, 1) := by decide +kernel
theorem dX12_copy_3 : decode cX12_copy 3 = .ok (.sipush 2119, 3) := by decide +kernel
theorem dX12_copy_6 : decode cX12_copy 6 = .ok (.if_icmp .ge 15, 3) := by decide +kernel
theorem dX12_copy_9 : decode cX12_copy 9 = .ok (.aload_n 1, 1) := by decide +kernel
theorem dX12_copy_10 : decode cX12_copy 10 = .ok (.iload_n 2, 1) := by decide +kernel
theorem dX12_copy_11 : decode cX12_copy 11 = .ok (.aload_n 0, 1) := by decide +kernel
theorem dX12_copy_12 : decode cX12_copy 12 = .ok (.iload_n 2, 1) := by decide +kernel
theorem dX12_copy_13 : decode cX12_copy 13 = .ok (.iaload, 1) := by decide +kernel
theorem dX12_copy_14 : decode cX12_copy 14 = .ok (.iastore, 1) := by decide +kernel
theorem dX12_copy_15 : decode cX12_copy 15 = .ok (.iinc 2 1, 3) := by decide +kernel
theorem dX12_copy_18 : decode cX12_copy 18 = .ok (.goto (-16), 3) := by decide +kernel
theorem dX12_copy_21 : decode cX12_copy 21 = .ok (.return_, 1) := by decide +kernel
theorem dX12_isIn_0 : decode cX12_isIn 0 = .ok (.iload_n 0, 1) := by decide +kernel
theorem dX12_isIn_1 : decode cX12_isIn 1 = .ok (.iload_n 1, 1) := by decide +kernel
theorem dX12_isIn_2 : decode cX12_isIn 2 = .ok (.if_icmp .lt 12, 3) := by decide +kernel
theorem dX12_isIn_5 : decode cX12_isIn 5 = .ok (.iload_n 0, 1) := by decide +kernel
theorem dX12_isIn_6 : decode cX12_isIn 6 = .ok (.iload_n 2, 1) := by decide +kernel
theorem dX12_isIn_7 : decode cX12_isIn 7 = .ok (.if_icmp .gt 7, 3) := by decide +kernel
theorem dX12_isIn_10 : decode cX12_isIn 10 = .ok (.iconst 1, 1) := by decide +kernel
theorem dX12_isIn_11 : decode cX12_isIn 11 = .ok (.goto 4, 3) := by decide +kernel
theorem dX12_isIn_14 : decode cX12_isIn 14 = .ok (.iconst 0, 1) := by decide +kernel
theorem dX12_isIn_15 : decode cX12_isIn 15 = .ok (.ireturn, 1) := by decide +kernel
theorem dX12_held_0 : decode cX12_held 0 = .ok (.lload_n 0, 1) := by decide +kernel
theorem dX12_held_1 : decode cX12_held 1 = .ok (.iload_n 2, 1) := by decide +kernel
theorem dX12_held_2 : decode cX12_held 2 = .ok (.i2l, 1) := by decide +kernel
theorem dX12_held_3 : decode cX12_held 3 = .ok (.lcmp, 1) := by decide +kernel
theorem dX12_held_4 : decode cX12_held 4 = .ok (.ifCond .ge 7, 3) := by decide +kernel
theorem dX12_held_7 : decode cX12_held 7 = .ok (.iload_n 2, 1) := by decide +kernel
theorem dX12_held_8 : decode cX12_held 8 = .ok (.goto 16, 3) := by decide +kernel
theorem dX12_held_11 : decode cX12_held 11 = .ok (.lload_n 0, 1) := by decide +kernel
theorem dX12_held_12 : decode cX12_held 12 = .ok (.iload_n 3, 1) := by decide +kernel
theorem dX12_held_13 : decode cX12_held 13 = .ok (.i2l, 1) := by decide +kernel
theorem dX12_held_14 : decode cX12_held 14 = .ok (.lcmp, 1) := by decide +kernel
theorem dX12_held_15 : decode cX12_held 15 = .ok (.ifCond .le 7, 3) := by decide +kernel
theorem dX12_held_18 : decode cX12_held 18 = .ok (.iload_n 3, 1) := by decide +kernel
theorem dX12_held_19 : decode cX12_held 19 = .ok (.goto 5, 3) := by decide +kernel
theorem dX12_held_22 : decode cX12_held 22 = .ok (.lload_n 0, 1) := by decide +kernel
theorem dX12_held_23 : decode cX12_held 23 = .ok (.l2i, 1) := by decide +kernel
theorem dX12_held_24 : decode cX12_held 24 = .ok (.ireturn, 1) := by decide +kernel
theorem dX12_has_0 : decode cX12_has 0 = .ok (.iload_n 0, 1) := by decide +kernel
theorem dX12_has_1 : decode cX12_has 1 = .ok (.iload_n 1, 1) := by decide +kernel
theorem dX12_has_2 : decode cX12_has 2 = .ok (.ishr, 1) := by decide +kernel
theorem dX12_has_3 : decode cX12_has 3 = .ok (.iconst 1, 1) := by decide +kernel
theorem dX12_has_4 : decode cX12_has 4 = .ok (.iand, 1) := by decide +kernel
theorem dX12_has_5 : decode cX12_has 5 = .ok (.iconst 1, 1) := by decide +kernel
theorem dX12_has_6 : decode cX12_has 6 = .ok (.if_icmp .ne 7, 3) := by decide +kernel
theorem dX12_has_9 : decode cX12_has 9 = .ok (.iconst 1, 1) := by decide +kernel
theorem dX12_has_10 : decode cX12_has 10 = .ok (.goto 4, 3) := by decide +kernel
theorem dX12_has_13 : decode cX12_has 13 = .ok (.iconst 0, 1) := by decide +kernel
theorem dX12_has_14 : decode cX12_has 14 = .ok (.ireturn, 1) := by decide +kernel
theorem dX12_bits_0 : decode cX12_bits 0 = .ok (.iconst 0, 1) := by decide +kernel
theorem dX12_bits_1 : decode cX12_bits 1 = .ok (.istore_n 1, 1) := by decide +kernel
theorem dX12_bits_2 : decode cX12_bits 2 = .ok (.iload_n 0, 1) := by decide +kernel
theorem dX12_bits_3 : decode cX12_bits 3 = .ok (.istore_n 2, 1) := by decide +kernel
theorem dX12_bits_4 : decode cX12_bits 4 = .ok (.iload_n 2, 1) := by decide +kernel
theorem dX12_bits_5 : decode cX12_bits 5 = .ok (.ifCond .eq 15, 3) := by decide +kernel
theorem dX12_bits_8 : decode cX12_bits 8 = .ok (.iinc 1 1, 3) := by decide +kernel
theorem dX12_bits_11 : decode cX12_bits 11 = .ok (.iload_n 2, 1) := by decide +kernel
theorem dX12_bits_12 : decode cX12_bits 12 = .ok (.iload_n 2, 1) := by decide +kernel
theorem dX12_bits_13 : decode cX12_bits 13 = .ok (.iconst 1, 1) := by decide +kernel
theorem dX12_bits_14 : decode cX12_bits 14 = .ok (.isub, 1) := by decide +kernel
theorem dX12_bits_15 : decode cX12_bits 15 = .ok (.iand, 1) := by decide +kernel
theorem dX12_bits_16 : decode cX12_bits 16 = .ok (.istore_n 2, 1) := by decide +kernel
theorem dX12_bits_17 : decode cX12_bits 17 = .ok (.goto (-13), 3) := by decide +kernel
theorem dX12_bits_20 : decode cX12_bits 20 = .ok (.iload_n 1, 1) := by decide +kernel
theorem dX12_bits_21 : decode cX12_bits 21 = .ok (.ireturn, 1) := by decide +kernel
theorem dX12_isTown_0 : decode cX12_isTown 0 = .ok (.iload_n 0, 1) := by decide +kernel
theorem dX12_isTown_1 : decode cX12_isTown 1 = .ok (.iconst 0, 1) := by decide +kernel
theorem dX12_isTown_2 : decode cX12_isTown 2 = .ok (.bipush 7, 2) := by decide +kernel
theorem dX12_isTown_4 : decode cX12_isTown 4 = .ok (.invokestatic 81, 3) := by decide +kernel
theorem dX12_isTown_7 : decode cX12_isTown 7 = .ok (.ireturn, 1) := by decide +kernel
theorem dX12_isRoad_0 : decode cX12_isRoad 0 = .ok (.iload_n 1, 1) := by decide +kernel
theorem dX12_isRoad_1 : decode cX12_isRoad 1 = .ok (.iconst 0, 1) := by decide +kernel
theorem dX12_isRoad_2 : decode cX12_isRoad 2 = .ok (.aload_n 0, 1) := by decide +kernel
theorem dX12_isRoad_3 : decode cX12_isRoad 3 = .ok (.getfield 7, 3) := by decide +kernel
theorem dX12_isRoad_6 : decode cX12_isRoad 6 = .ok (.iconst 0, 1) := by decide +kernel
theorem dX12_isRoad_7 : decode cX12_isRoad 7 = .ok (.iaload, 1) := by decide +kernel
theorem dX12_isRoad_8 : decode cX12_isRoad 8 = .ok (.iconst 1, 1) := by decide +kernel
theorem dX12_isRoad_9 : decode cX12_isRoad 9 = .ok (.isub, 1) := by decide +kernel
theorem dX12_isRoad_10 : decode cX12_isRoad 10 = .ok (.invokestatic 81, 3) := by decide +kernel
theorem dX12_isRoad_13 : decode cX12_isRoad 13 = .ok (.ireturn, 1) := by decide +kernel
theorem dX12_isGoer_0 : decode cX12_isGoer 0 = .ok (.iload_n 1, 1) := by decide +kernel
theorem dX12_isGoer_1 : decode cX12_isGoer 1 = .ok (.iconst 0, 1) := by decide +kernel
theorem dX12_isGoer_2 : decode cX12_isGoer 2 = .ok (.aload_n 0, 1) := by decide +kernel
theorem dX12_isGoer_3 : decode cX12_isGoer 3 = .ok (.getfield 7, 3) := by decide +kernel
theorem dX12_isGoer_6 : decode cX12_isGoer 6 = .ok (.iconst 1, 1) := by decide +kernel
theorem dX12_isGoer_7 : decode cX12_isGoer 7 = .ok (.iaload, 1) := by decide +kernel
theorem dX12_isGoer_8 : decode cX12_isGoer 8 = .ok (.iconst 1, 1) := by decide +kernel
theorem dX12_isGoer_9 : decode cX12_isGoer 9 = .ok (.isub, 1) := by decide +kernel
theorem dX12_isGoer_10 : decode cX12_isGoer 10 = .ok (.invokestatic 81, 3) := by decide +kernel
theorem dX12_isGoer_13 : decode cX12_isGoer 13 = .ok (.ireturn, 1) := by decide +kernel
theorem dX12_told_0 : decode cX12_told 0 = .ok (.aload_n 0, 1) := by decide +kernel
theorem dX12_told_1 : decode cX12_told 1 = .ok (.getfield 7, 3) := by decide +kernel
theorem dX12_told_4 : decode cX12_told 4 = .ok (.bipush 39, 2) := by decide +kernel
theorem dX12_told_6 : decode cX12_told 6 = .ok (.iconst 4, 1) := by decide +kernel
theorem dX12_told_7 : decode cX12_told 7 = .ok (.iload_n 1, 1) := by decide +kernel
theorem dX12_told_8 : decode cX12_told 8 = .ok (.imul, 1) := by decide +kernel
theorem dX12_told_9 : decode cX12_told 9 = .ok (.iadd, 1) := by decide +kernel
theorem dX12_told_10 : decode cX12_told 10 = .ok (.iload_n 2, 1) := by decide +kernel
theorem dX12_told_11 : decode cX12_told 11 = .ok (.iadd, 1) := by decide +kernel
theorem dX12_told_12 : decode cX12_told 12 = .ok (.iaload, 1) := by decide +kernel
theorem dX12_told_13 : decode cX12_told 13 = .ok (.ireturn, 1) := by decide +kernel
theorem dX12_at0_0 : decode cX12_at0 0 = .ok (.aload_n 0, 1) := by decide +kernel
theorem dX12_at0_1 : decode cX12_at0 1 = .ok (.getfield 7, 3) := by decide +kernel
theorem dX12_at0_4 : decode cX12_at0 4 = .ok (.bipush 27, 2) := by decide +kernel
theorem dX12_at0_6 : decode cX12_at0 6 = .ok (.iconst 2, 1) := by decide +kernel
theorem dX12_at0_7 : decode cX12_at0 7 = .ok (.iload_n 1, 1) := by decide +kernel
theorem dX12_at0_8 : decode cX12_at0 8 = .ok (.imul, 1) := by decide +kernel
theorem dX12_at0_9 : decode cX12_at0 9 = .ok (.iadd, 1) := by decide +kernel
theorem dX12_at0_10 : decode cX12_at0 10 = .ok (.iaload, 1) := by decide +kernel
theorem dX12_at0_11 : decode cX12_at0 11 = .ok (.ireturn, 1) := by decide +kernel
theorem dX12_went_0 : decode cX12_went 0 = .ok (.aload_n 0, 1) := by decide +kernel
theorem dX12_went_1 : decode cX12_went 1 = .ok (.getfield 7, 3) := by decide +kernel
theorem dX12_went_4 : decode cX12_went 4 = .ok (.bipush 27, 2) := by decide +kernel
theorem dX12_went_6 : decode cX12_went 6 = .ok (.iconst 2, 1) := by decide +kernel
theorem dX12_went_7 : decode cX12_went 7 = .ok (.iload_n 1, 1) := by decide +kernel
theorem dX12_went_8 : decode cX12_went 8 = .ok (.imul, 1) := by decide +kernel
theorem dX12_went_9 : decode cX12_went 9 = .ok (.iadd, 1) := by decide +kernel
theorem dX12_went_10 : decode cX12_went 10 = .ok (.iconst 1, 1) := by decide +kernel
theorem dX12_went_11 : decode cX12_went 11 = .ok (.iadd, 1) := by decide +kernel
theorem dX12_went_12 : decode cX12_went 12 = .ok (.iaload, 1) := by decide +kernel
theorem dX12_went_13 : decode cX12_went 13 = .ok (.ireturn, 1) := by decide +kernel
theorem dX12_mouth_0 : decode cX12_mouth 0 = .ok (.aload_n 0, 1) := by decide +kernel
theorem dX12_mouth_1 : decode cX12_mouth 1 = .ok (.getfield 7, 3) := by decide +kernel
theorem dX12_mouth_4 : decode cX12_mouth 4 = .ok (.bipush 103, 2) := by decide +kernel
theorem dX12_mouth_6 : decode cX12_mouth 6 = .ok (.iconst 2, 1) := by decide +kernel
theorem dX12_mouth_7 : decode cX12_mouth 7 = .ok (.iload_n 1, 1) := by decide +kernel
theorem dX12_mouth_8 : decode cX12_mouth 8 = .ok (.imul, 1) := by decide +kernel
theorem dX12_mouth_9 : decode cX12_mouth 9 = .ok (.iadd, 1) := by decide +kernel
theorem dX12_mouth_10 : decode cX12_mouth 10 = .ok (.iconst 1, 1) := by decide +kernel
theorem dX12_mouth_11 : decode cX12_mouth 11 = .ok (.iadd, 1) := by decide +kernel
theorem dX12_mouth_12 : decode cX12_mouth 12 = .ok (.iaload, 1) := by decide +kernel
theorem dX12_mouth_13 : decode cX12_mouth 13 = .ok (.ireturn, 1) := by decide +kernel
theorem dX12_other_0 : decode cX12_other 0 = .ok (.aload_n 0, 1) := by decide +kernel
theorem dX12_other_1 : decode cX12_other 1 = .ok (.iload_n 1, 1) := by decide +kernel
theorem dX12_other_2 : decode cX12_other 2 = .ok (.iconst 0, 1) := by decide +kernel
theorem dX12_other_3 : decode cX12_other 3 = .ok (.invokevirtual 85, 3) := by decide +kernel
theorem dX12_other_6 : decode cX12_other 6 = .ok (.iload_n 2, 1) := by decide +kernel
theorem dX12_other_7 : decode cX12_other 7 = .ok (.if_icmp .ne 12, 3) := by decide +kernel
theorem dX12_other_10 : decode cX12_other 10 = .ok (.aload_n 0, 1) := by decide +kernel
theorem dX12_other_11 : decode cX12_other 11 = .ok (.iload_n 1, 1) := by decide +kernel
theorem dX12_other_12 : decode cX12_other 12 = .ok (.iconst 1, 1) := by decide +kernel
theorem dX12_other_13 : decode cX12_other 13 = .ok (.invokevirtual 85, 3) := by decide +kernel
theorem dX12_other_16 : decode cX12_other 16 = .ok (.goto 23, 3) := by decide +kernel
theorem dX12_other_19 : decode cX12_other 19 = .ok (.aload_n 0, 1) := by decide +kernel
theorem dX12_other_20 : decode cX12_other 20 = .ok (.iload_n 1, 1) := by decide +kernel
theorem dX12_other_21 : decode cX12_other 21 = .ok (.iconst 1, 1) := by decide +kernel
theorem dX12_other_22 : decode cX12_other 22 = .ok (.invokevirtual 85, 3) := by decide +kernel
theorem dX12_other_25 : decode cX12_other 25 = .ok (.iload_n 2, 1) := by decide +kernel
theorem dX12_other_26 : decode cX12_other 26 = .ok (.if_icmp .ne 12, 3) := by decide +kernel
theorem dX12_other_29 : decode cX12_other 29 = .ok (.aload_n 0, 1) := by decide +kernel
theorem dX12_other_30 : decode cX12_other 30 = .ok (.iload_n 1, 1) := by decide +kernel
theorem dX12_other_31 : decode cX12_other 31 = .ok (.iconst 0, 1) := by decide +kernel
theorem dX12_other_32 : decode cX12_other 32 = .ok (.invokevirtual 85, 3) := by decide +kernel
theorem dX12_other_35 : decode cX12_other 35 = .ok (.goto 4, 3) := by decide +kernel
theorem dX12_other_38 : decode cX12_other 38 = .ok (.iconst (-1), 1) := by decide +kernel
theorem dX12_other_39 : decode cX12_other 39 = .ok (.ireturn, 1) := by decide +kernel
theorem dX12_road_0 : decode cX12_road 0 = .ok (.iload_n 1, 1) := by decide +kernel
theorem dX12_road_1 : decode cX12_road 1 = .ok (.invokestatic 89, 3) := by decide +kernel
theorem dX12_road_4 : decode cX12_road 4 = .ok (.ifCond .eq 47, 3) := by decide +kernel
theorem dX12_road_7 : decode cX12_road 7 = .ok (.iload_n 2, 1) := by decide +kernel
theorem dX12_road_8 : decode cX12_road 8 = .ok (.invokestatic 89, 3) := by decide +kernel
theorem dX12_road_11 : decode cX12_road 11 = .ok (.ifCond .eq 40, 3) := by decide +kernel
theorem dX12_road_14 : decode cX12_road 14 = .ok (.iload_n 1, 1) := by decide +kernel
theorem dX12_road_15 : decode cX12_road 15 = .ok (.iload_n 2, 1) := by decide +kernel
theorem dX12_road_16 : decode cX12_road 16 = .ok (.if_icmp .eq 35, 3) := by decide +kernel
theorem dX12_road_19 : decode cX12_road 19 = .ok (.iload_n 3, 1) := by decide +kernel
theorem dX12_road_20 : decode cX12_road 20 = .ok (.iconst 1, 1) := by decide +kernel
theorem dX12_road_21 : decode cX12_road 21 = .ok (.bipush 9, 2) := by decide +kernel
theorem dX12_road_23 : decode cX12_road 23 = .ok (.invokestatic 81, 3) := by decide +kernel
theorem dX12_road_26 : decode cX12_road 26 = .ok (.ifCond .eq 25, 3) := by decide +kernel
theorem dX12_road_29 : decode cX12_road 29 = .ok (.iload 4, 2) := by decide +kernel
theorem dX12_road_31 : decode cX12_road 31 = .ok (.iconst 1, 1) := by decide +kernel
theorem dX12_road_32 : decode cX12_road 32 = .ok (.bipush 99, 2) := by decide +kernel
theorem dX12_road_34 : decode cX12_road 34 = .ok (.invokestatic 81, 3) := by decide +kernel
theorem dX12_road_37 : decode cX12_road 37 = .ok (.ifCond .eq 14, 3) := by decide +kernel
theorem dX12_road_40 : decode cX12_road 40 = .ok (.aload_n 0, 1) := by decide +kernel
theorem dX12_road_41 : decode cX12_road 41 = .ok (.getfield 7, 3) := by decide +kernel
theorem dX12_road_44 : decode cX12_road 44 = .ok (.iconst 0, 1) := by decide +kernel
theorem dX12_road_45 : decode cX12_road 45 = .ok (.iaload, 1) := by decide +kernel
theorem dX12_road_46 : decode cX12_road 46 = .ok (.bipush 16, 2) := by decide +kernel
theorem dX12_road_48 : decode cX12_road 48 = .ok (.if_icmp .ne 5, 3) := by decide +kernel
theorem dX12_road_51 : decode cX12_road 51 = .ok (.iconst (-1), 1) := by decide +kernel
theorem dX12_road_52 : decode cX12_road 52 = .ok (.ireturn, 1) := by decide +kernel
theorem dX12_road_53 : decode cX12_road 53 = .ok (.aload_n 0, 1) := by decide +kernel
theorem dX12_road_54 : decode cX12_road 54 = .ok (.getfield 7, 3) := by decide +kernel
theorem dX12_road_57 : decode cX12_road 57 = .ok (.iconst 0, 1) := by decide +kernel
theorem dX12_road_58 : decode cX12_road 58 = .ok (.iaload, 1) := by decide +kernel
theorem dX12_road_59 : decode cX12_road 59 = .ok (.istore 5, 2) := by decide +kernel
theorem dX12_road_61 : decode cX12_road 61 = .ok (.aload_n 0, 1) := by decide +kernel
theorem dX12_road_62 : decode cX12_road 62 = .ok (.getfield 7, 3) := by decide +kernel
theorem dX12_road_65 : decode cX12_road 65 = .ok (.bipush 39, 2) := by decide +kernel
theorem dX12_road_67 : decode cX12_road 67 = .ok (.iconst 4, 1) := by decide +kernel
theorem dX12_road_68 : decode cX12_road 68 = .ok (.iload 5, 2) := by decide +kernel
theorem dX12_road_70 : decode cX12_road 70 = .ok (.imul, 1) := by decide +kernel
theorem dX12_road_71 : decode cX12_road 71 = .ok (.iadd, 1) := by decide +kernel
theorem dX12_road_72 : decode cX12_road 72 = .ok (.iload_n 1, 1) := by decide +kernel
theorem dX12_road_73 : decode cX12_road 73 = .ok (.iastore, 1) := by decide +kernel
theorem dX12_road_74 : decode cX12_road 74 = .ok (.aload_n 0, 1) := by decide +kernel
theorem dX12_road_75 : decode cX12_road 75 = .ok (.getfield 7, 3) := by decide +kernel
theorem dX12_road_78 : decode cX12_road 78 = .ok (.bipush 39, 2) := by decide +kernel
theorem dX12_road_80 : decode cX12_road 80 = .ok (.iconst 4, 1) := by decide +kernel
theorem dX12_road_81 : decode cX12_road 81 = .ok (.iload 5, 2) := by decide +kernel
theorem dX12_road_83 : decode cX12_road 83 = .ok (.imul, 1) := by decide +kernel
theorem dX12_road_84 : decode cX12_road 84 = .ok (.iadd, 1) := by decide +kernel
theorem dX12_road_85 : decode cX12_road 85 = .ok (.iconst 1, 1) := by decide +kernel
theorem dX12_road_86 : decode cX12_road 86 = .ok (.iadd, 1) := by decide +kernel
theorem dX12_road_87 : decode cX12_road 87 = .ok (.iload_n 2, 1) := by decide +kernel
theorem dX12_road_88 : decode cX12_road 88 = .ok (.iastore, 1) := by decide +kernel
theorem dX12_road_89 : decode cX12_road 89 = .ok (.aload_n 0, 1) := by decide +kernel
theorem dX12_road_90 : decode cX12_road 90 = .ok (.getfield 7, 3) := by decide +kernel
theorem dX12_road_93 : decode cX12_road 93 = .ok (.bipush 39, 2) := by decide +kernel
theorem dX12_road_95 : decode cX12_road 95 = .ok (.iconst 4, 1) := by decide +kernel
theorem dX12_road_96 : decode cX12_road 96 = .ok (.iload 5, 2) := by decide +kernel
theorem dX12_road_98 : decode cX12_road 98 = .ok (.imul, 1) := by decide +kernel
theorem dX12_road_99 : decode cX12_road 99 = .ok (.iadd, 1) := by decide +kernel
theorem dX12_road_100 : decode cX12_road 100 = .ok (.iconst 2, 1) := by decide +kernel
theorem dX12_road_101 : decode cX12_road 101 = .ok (.iadd, 1) := by decide +kernel
theorem dX12_road_102 : decode cX12_road 102 = .ok (.iload_n 3, 1) := by decide +kernel
theorem dX12_road_103 : decode cX12_road 103 = .ok (.iastore, 1) := by decide +kernel
theorem dX12_road_104 : decode cX12_road 104 = .ok (.aload_n 0, 1) := by decide +kernel
theorem dX12_road_105 : decode cX12_road 105 = .ok (.getfield 7, 3) := by decide +kernel
theorem dX12_road_108 : decode cX12_road 108 = .ok (.bipush 39, 2) := by decide +kernel
theorem dX12_road_110 : decode cX12_road 110 = .ok (.iconst 4, 1) := by decide +kernel
theorem dX12_road_111 : decode cX12_road 111 = .ok (.iload 5, 2) := by decide +kernel
theorem dX12_road_113 : decode cX12_road 113 = .ok (.imul, 1) := by decide +kernel
theorem dX12_road_114 : decode cX12_road 114 = .ok (.iadd, 1) := by decide +kernel
theorem dX12_road_115 : decode cX12_road 115 = .ok (.iconst 3, 1) := by decide +kernel
theorem dX12_road_116 : decode cX12_road 116 = .ok (.iadd, 1) := by decide +kernel
theorem dX12_road_117 : decode cX12_road 117 = .ok (.iload 4, 2) := by decide +kernel
theorem dX12_road_119 : decode cX12_road 119 = .ok (.iastore, 1) := by decide +kernel
theorem dX12_road_120 : decode cX12_road 120 = .ok (.aload_n 0, 1) := by decide +kernel
theorem dX12_road_121 : decode cX12_road 121 = .ok (.getfield 7, 3) := by decide +kernel
theorem dX12_road_124 : decode cX12_road 124 = .ok (.bipush 11, 2) := by decide +kernel
theorem dX12_road_126 : decode cX12_road 126 = .ok (.iload 5, 2) := by decide +kernel
theorem dX12_road_128 : decode cX12_road 128 = .ok (.iadd, 1) := by decide +kernel
theorem dX12_road_129 : decode cX12_road 129 = .ok (.iload 4, 2) := by decide +kernel
theorem dX12_road_131 : decode cX12_road 131 = .ok (.iastore, 1) := by decide +kernel
theorem dX12_road_132 : decode cX12_road 132 = .ok (.aload_n 0, 1) := by decide +kernel
theorem dX12_road_133 : decode cX12_road 133 = .ok (.getfield 7, 3) := by decide +kernel
theorem dX12_road_136 : decode cX12_road 136 = .ok (.iconst 0, 1) := by decide +kernel
theorem dX12_road_137 : decode cX12_road 137 = .ok (.dup2, 1) := by decide +kernel
theorem dX12_road_138 : decode cX12_road 138 = .ok (.iaload, 1) := by decide +kernel
theorem dX12_road_139 : decode cX12_road 139 = .ok (.iconst 1, 1) := by decide +kernel
theorem dX12_road_140 : decode cX12_road 140 = .ok (.iadd, 1) := by decide +kernel
theorem dX12_road_141 : decode cX12_road 141 = .ok (.iastore, 1) := by decide +kernel
theorem dX12_road_142 : decode cX12_road 142 = .ok (.iload 5, 2) := by decide +kernel
theorem dX12_road_144 : decode cX12_road 144 = .ok (.ireturn, 1) := by decide +kernel
theorem dX12_goer_0 : decode cX12_goer 0 = .ok (.iload_n 1, 1) := by decide +kernel
theorem dX12_goer_1 : decode cX12_goer 1 = .ok (.invokestatic 89, 3) := by decide +kernel
theorem dX12_goer_4 : decode cX12_goer 4 = .ok (.ifCond .eq 24, 3) := by decide +kernel
theorem dX12_goer_7 : decode cX12_goer 7 = .ok (.iload_n 2, 1) := by decide +kernel
theorem dX12_goer_8 : decode cX12_goer 8 = .ok (.iconst 1, 1) := by decide +kernel
theorem dX12_goer_9 : decode cX12_goer 9 = .ok (.bipush 9, 2) := by decide +kernel
theorem dX12_goer_11 : decode cX12_goer 11 = .ok (.invokestatic 81, 3) := by decide +kernel
theorem dX12_goer_14 : decode cX12_goer 14 = .ok (.ifCond .eq 14, 3) := by decide +kernel
theorem dX12_goer_17 : decode cX12_goer 17 = .ok (.aload_n 0, 1) := by decide +kernel
theorem dX12_goer_18 : decode cX12_goer 18 = .ok (.getfield 7, 3) := by decide +kernel
theorem dX12_goer_21 : decode cX12_goer 21 = .ok (.iconst 1, 1) := by decide +kernel
theorem dX12_goer_22 : decode cX12_goer 22 = .ok (.iaload, 1) := by decide +kernel
theorem dX12_goer_23 : decode cX12_goer 23 = .ok (.bipush 6, 2) := by decide +kernel
theorem dX12_goer_25 : decode cX12_goer 25 = .ok (.if_icmp .ne 5, 3) := by decide +kernel
theorem dX12_goer_28 : decode cX12_goer 28 = .ok (.iconst (-1), 1) := by decide +kernel
theorem dX12_goer_29 : decode cX12_goer 29 = .ok (.ireturn, 1) := by decide +kernel
theorem dX12_goer_30 : decode cX12_goer 30 = .ok (.aload_n 0, 1) := by decide +kernel
theorem dX12_goer_31 : decode cX12_goer 31 = .ok (.getfield 7, 3) := by decide +kernel
theorem dX12_goer_34 : decode cX12_goer 34 = .ok (.iconst 1, 1) := by decide +kernel
theorem dX12_goer_35 : decode cX12_goer 35 = .ok (.iaload, 1) := by decide +kernel
theorem dX12_goer_36 : decode cX12_goer 36 = .ok (.istore_n 3, 1) := by decide +kernel
theorem dX12_goer_37 : decode cX12_goer 37 = .ok (.aload_n 0, 1) := by decide +kernel
theorem dX12_goer_38 : decode cX12_goer 38 = .ok (.getfield 7, 3) := by decide +kernel
theorem dX12_goer_41 : decode cX12_goer 41 = .ok (.bipush 103, 2) := by decide +kernel
theorem dX12_goer_43 : decode cX12_goer 43 = .ok (.iconst 2, 1) := by decide +kernel
theorem dX12_goer_44 : decode cX12_goer 44 = .ok (.iload_n 3, 1) := by decide +kernel
theorem dX12_goer_45 : decode cX12_goer 45 = .ok (.imul, 1) := by decide +kernel
theorem dX12_goer_46 : decode cX12_goer 46 = .ok (.iadd, 1) := by decide +kernel
theorem dX12_goer_47 : decode cX12_goer 47 = .ok (.iload_n 1, 1) := by decide +kernel
theorem dX12_goer_48 : decode cX12_goer 48 = .ok (.iastore, 1) := by decide +kernel
theorem dX12_goer_49 : decode cX12_goer 49 = .ok (.aload_n 0, 1) := by decide +kernel
theorem dX12_goer_50 : decode cX12_goer 50 = .ok (.getfield 7, 3) := by decide +kernel
theorem dX12_goer_53 : decode cX12_goer 53 = .ok (.bipush 103, 2) := by decide +kernel
theorem dX12_goer_55 : decode cX12_goer 55 = .ok (.iconst 2, 1) := by decide +kernel
theorem dX12_goer_56 : decode cX12_goer 56 = .ok (.iload_n 3, 1) := by decide +kernel
theorem dX12_goer_57 : decode cX12_goer 57 = .ok (.imul, 1) := by decide +kernel
theorem dX12_goer_58 : decode cX12_goer 58 = .ok (.iadd, 1) := by decide +kernel
theorem dX12_goer_59 : decode cX12_goer 59 = .ok (.iconst 1, 1) := by decide +kernel
theorem dX12_goer_60 : decode cX12_goer 60 = .ok (.iadd, 1) := by decide +kernel
theorem dX12_goer_61 : decode cX12_goer 61 = .ok (.iload_n 2, 1) := by decide +kernel
theorem dX12_goer_62 : decode cX12_goer 62 = .ok (.iastore, 1) := by decide +kernel
theorem dX12_goer_63 : decode cX12_goer 63 = .ok (.aload_n 0, 1) := by decide +kernel
theorem dX12_goer_64 : decode cX12_goer 64 = .ok (.iload_n 3, 1) := by decide +kernel
theorem dX12_goer_65 : decode cX12_goer 65 = .ok (.invokevirtual 93, 3) := by decide +kernel
theorem dX12_goer_68 : decode cX12_goer 68 = .ok (.aload_n 0, 1) := by decide +kernel
theorem dX12_goer_69 : decode cX12_goer 69 = .ok (.getfield 7, 3) := by decide +kernel
theorem dX12_goer_72 : decode cX12_goer 72 = .ok (.iconst 1, 1) := by decide +kernel
theorem dX12_goer_73 : decode cX12_goer 73 = .ok (.dup2, 1) := by decide +kernel
theorem dX12_goer_74 : decode cX12_goer 74 = .ok (.iaload, 1) := by decide +kernel
theorem dX12_goer_75 : decode cX12_goer 75 = .ok (.iconst 1, 1) := by decide +kernel
theorem dX12_goer_76 : decode cX12_goer 76 = .ok (.iadd, 1) := by decide +kernel
theorem dX12_goer_77 : decode cX12_goer 77 = .ok (.iastore, 1) := by decide +kernel
theorem dX12_goer_78 : decode cX12_goer 78 = .ok (.iload_n 3, 1) := by decide +kernel
theorem dX12_goer_79 : decode cX12_goer 79 = .ok (.ireturn, 1) := by decide +kernel
theorem dX12_begin_0 : decode cX12_begin 0 = .ok (.aload_n 0, 1) := by decide +kernel
theorem dX12_begin_1 : decode cX12_begin 1 = .ok (.getfield 7, 3) := by decide +kernel
theorem dX12_begin_4 : decode cX12_begin 4 = .ok (.bipush 27, 2) := by decide +kernel
theorem dX12_begin_6 : decode cX12_begin 6 = .ok (.iconst 2, 1) := by decide +kernel
theorem dX12_begin_7 : decode cX12_begin 7 = .ok (.iload_n 1, 1) := by decide +kernel
theorem dX12_begin_8 : decode cX12_begin 8 = .ok (.imul, 1) := by decide +kernel
theorem dX12_begin_9 : decode cX12_begin 9 = .ok (.iadd, 1) := by decide +kernel
theorem dX12_begin_10 : decode cX12_begin 10 = .ok (.aload_n 0, 1) := by decide +kernel
theorem dX12_begin_11 : decode cX12_begin 11 = .ok (.getfield 7, 3) := by decide +kernel
theorem dX12_begin_14 : decode cX12_begin 14 = .ok (.bipush 103, 2) := by decide +kernel
theorem dX12_begin_16 : decode cX12_begin 16 = .ok (.iconst 2, 1) := by decide +kernel
theorem dX12_begin_17 : decode cX12_begin 17 = .ok (.iload_n 1, 1) := by decide +kernel
theorem dX12_begin_18 : decode cX12_begin 18 = .ok (.imul, 1) := by decide +kernel
theorem dX12_begin_19 : decode cX12_begin 19 = .ok (.iadd, 1) := by decide +kernel
theorem dX12_begin_20 : decode cX12_begin 20 = .ok (.iaload, 1) := by decide +kernel
theorem dX12_begin_21 : decode cX12_begin 21 = .ok (.iastore, 1) := by decide +kernel
theorem dX12_begin_22 : decode cX12_begin 22 = .ok (.aload_n 0, 1) := by decide +kernel
theorem dX12_begin_23 : decode cX12_begin 23 = .ok (.getfield 7, 3) := by decide +kernel
theorem dX12_begin_26 : decode cX12_begin 26 = .ok (.bipush 27, 2) := by decide +kernel
theorem dX12_begin_28 : decode cX12_begin 28 = .ok (.iconst 2, 1) := by decide +kernel
theorem dX12_begin_29 : decode cX12_begin 29 = .ok (.iload_n 1, 1) := by decide +kernel
theorem dX12_begin_30 : decode cX12_begin 30 = .ok (.imul, 1) := by decide +kernel
theorem dX12_begin_31 : decode cX12_begin 31 = .ok (.iadd, 1) := by decide +kernel
theorem dX12_begin_32 : decode cX12_begin 32 = .ok (.iconst 1, 1) := by decide +kernel
theorem dX12_begin_33 : decode cX12_begin 33 = .ok (.iadd, 1) := by decide +kernel
theorem dX12_begin_34 : decode cX12_begin 34 = .ok (.iconst 0, 1) := by decide +kernel
theorem dX12_begin_35 : decode cX12_begin 35 = .ok (.iastore, 1) := by decide +kernel
theorem dX12_begin_36 : decode cX12_begin 36 = .ok (.return_, 1) := by decide +kernel
theorem dX12_four_0 : decode cX12_four 0 = .ok (.bipush 24, 2) := by decide +kernel
theorem dX12_four_2 : decode cX12_four 2 = .ok (.istore_n 2, 1) := by decide +kernel
theorem dX12_four_3 : decode cX12_four 3 = .ok (.iload_n 2, 1) := by decide +kernel
theorem dX12_four_4 : decode cX12_four 4 = .ok (.ifCond .lt 35, 3) := by decide +kernel
theorem dX12_four_7 : decode cX12_four 7 = .ok (.aload_n 0, 1) := by decide +kernel
theorem dX12_four_8 : decode cX12_four 8 = .ok (.getfield 19, 3) := by decide +kernel
theorem dX12_four_11 : decode cX12_four 11 = .ok (.aload_n 0, 1) := by decide +kernel
theorem dX12_four_12 : decode cX12_four 12 = .ok (.getfield 97, 3) := by decide +kernel
theorem dX12_four_15 : decode cX12_four 15 = .ok (.iload_n 1, 1) := by decide +kernel
theorem dX12_four_16 : decode cX12_four 16 = .ok (.iload_n 2, 1) := by decide +kernel
theorem dX12_four_17 : decode cX12_four 17 = .ok (.ishr, 1) := by decide +kernel
theorem dX12_four_18 : decode cX12_four 18 = .ok (.sipush 255, 3) := by decide +kernel
theorem dX12_four_21 : decode cX12_four 21 = .ok (.iand, 1) := by decide +kernel
theorem dX12_four_22 : decode cX12_four 22 = .ok (.iastore, 1) := by decide +kernel
theorem dX12_four_23 : decode cX12_four 23 = .ok (.aload_n 0, 1) := by decide +kernel
theorem dX12_four_24 : decode cX12_four 24 = .ok (.dup, 1) := by decide +kernel
theorem dX12_four_25 : decode cX12_four 25 = .ok (.getfield 97, 3) := by decide +kernel
theorem dX12_four_28 : decode cX12_four 28 = .ok (.iconst 1, 1) := by decide +kernel
theorem dX12_four_29 : decode cX12_four 29 = .ok (.iadd, 1) := by decide +kernel
theorem dX12_four_30 : decode cX12_four 30 = .ok (.putfield 97, 3) := by decide +kernel
theorem dX12_four_33 : decode cX12_four 33 = .ok (.iinc 2 (-8), 3) := by decide +kernel
theorem dX12_four_36 : decode cX12_four 36 = .ok (.goto (-33), 3) := by decide +kernel
theorem dX12_four_39 : decode cX12_four 39 = .ok (.return_, 1) := by decide +kernel
theorem dX12_feed_0 : decode cX12_feed 0 = .ok (.aload_n 0, 1) := by decide +kernel
theorem dX12_feed_1 : decode cX12_feed 1 = .ok (.getfield 97, 3) := by decide +kernel
theorem dX12_feed_4 : decode cX12_feed 4 = .ok (.bipush 20, 2) := by decide +kernel
theorem dX12_feed_6 : decode cX12_feed 6 = .ok (.iadd, 1) := by decide +kernel
theorem dX12_feed_7 : decode cX12_feed 7 = .ok (.sipush 300, 3) := by decide +kernel
theorem dX12_feed_10 : decode cX12_feed 10 = .ok (.if_icmp .le 5, 3) := by decide +kernel
theorem dX12_feed_13 : decode cX12_feed 13 = .ok (.iconst (-1), 1) := by decide +kernel
theorem dX12_feed_14 : decode cX12_feed 14 = .ok (.ireturn, 1) := by decide +kernel
theorem dX12_feed_15 : decode cX12_feed 15 = .ok (.aload_n 0, 1) := by decide +kernel
theorem dX12_feed_16 : decode cX12_feed 16 = .ok (.iload_n 1, 1) := by decide +kernel
theorem dX12_feed_17 : decode cX12_feed 17 = .ok (.invokevirtual 100, 3) := by decide +kernel
theorem dX12_feed_20 : decode cX12_feed 20 = .ok (.aload_n 0, 1) := by decide +kernel
theorem dX12_feed_21 : decode cX12_feed 21 = .ok (.iload_n 2, 1) := by decide +kernel
theorem dX12_feed_22 : decode cX12_feed 22 = .ok (.invokevirtual 100, 3) := by decide +kernel
theorem dX12_feed_25 : decode cX12_feed 25 = .ok (.aload_n 0, 1) := by decide +kernel
theorem dX12_feed_26 : decode cX12_feed 26 = .ok (.iload_n 3, 1) := by decide +kernel
theorem dX12_feed_27 : decode cX12_feed 27 = .ok (.invokevirtual 100, 3) := by decide +kernel
theorem dX12_feed_30 : decode cX12_feed 30 = .ok (.aload_n 0, 1) := by decide +kernel
theorem dX12_feed_31 : decode cX12_feed 31 = .ok (.iload 4, 2) := by decide +kernel
theorem dX12_feed_33 : decode cX12_feed 33 = .ok (.invokevirtual 100, 3) := by decide +kernel
theorem dX12_feed_36 : decode cX12_feed 36 = .ok (.aload_n 0, 1) := by decide +kernel
theorem dX12_feed_37 : decode cX12_feed 37 = .ok (.iload 5, 2) := by decide +kernel
theorem dX12_feed_39 : decode cX12_feed 39 = .ok (.invokevirtual 100, 3) := by decide +kernel
theorem dX12_feed_42 : decode cX12_feed 42 = .ok (.aload_n 0, 1) := by decide +kernel
theorem dX12_feed_43 : decode cX12_feed 43 = .ok (.getfield 97, 3) := by decide +kernel
theorem dX12_feed_46 : decode cX12_feed 46 = .ok (.ireturn, 1) := by decide +kernel
theorem dX12_end_0 : decode cX12_end 0 = .ok (.iload_n 1, 1) := by decide +kernel
theorem dX12_end_1 : decode cX12_end 1 = .ok (.iconst 0, 1) := by decide +kernel
theorem dX12_end_2 : decode cX12_end 2 = .ok (.aload_n 0, 1) := by decide +kernel
theorem dX12_end_3 : decode cX12_end 3 = .ok (.getfield 97, 3) := by decide +kernel
theorem dX12_end_6 : decode cX12_end 6 = .ok (.invokestatic 81, 3) := by decide +kernel
theorem dX12_end_9 : decode cX12_end 9 = .ok (.ifCond .ne 5, 3) := by decide +kernel
theorem dX12_end_12 : decode cX12_end 12 = .ok (.iconst (-1), 1) := by decide +kernel
theorem dX12_end_13 : decode cX12_end 13 = .ok (.ireturn, 1) := by decide +kernel
theorem dX12_end_14 : decode cX12_end 14 = .ok (.aload_n 0, 1) := by decide +kernel
theorem dX12_end_15 : decode cX12_end 15 = .ok (.iload_n 1, 1) := by decide +kernel
theorem dX12_end_16 : decode cX12_end 16 = .ok (.putfield 97, 3) := by decide +kernel
theorem dX12_end_19 : decode cX12_end 19 = .ok (.iload_n 1, 1) := by decide +kernel
theorem dX12_end_20 : decode cX12_end 20 = .ok (.ireturn, 1) := by decide +kernel
theorem dX12_byteAt_0 : decode cX12_byteAt 0 = .ok (.iload_n 1, 1) := by decide +kernel
theorem dX12_byteAt_1 : decode cX12_byteAt 1 = .ok (.aload_n 0, 1) := by decide +kernel
theorem dX12_byteAt_2 : decode cX12_byteAt 2 = .ok (.getfield 97, 3) := by decide +kernel
theorem dX12_byteAt_5 : decode cX12_byteAt 5 = .ok (.if_icmp .ge 12, 3) := by decide +kernel
theorem dX12_byteAt_8 : decode cX12_byteAt 8 = .ok (.aload_n 0, 1) := by decide +kernel
theorem dX12_byteAt_9 : decode cX12_byteAt 9 = .ok (.getfield 19, 3) := by decide +kernel
theorem dX12_byteAt_12 : decode cX12_byteAt 12 = .ok (.iload_n 1, 1) := by decide +kernel
theorem dX12_byteAt_13 : decode cX12_byteAt 13 = .ok (.iaload, 1) := by decide +kernel
theorem dX12_byteAt_14 : decode cX12_byteAt 14 = .ok (.goto 4, 3) := by decide +kernel
theorem dX12_byteAt_17 : decode cX12_byteAt 17 = .ok (.iconst (-1), 1) := by decide +kernel
theorem dX12_byteAt_18 : decode cX12_byteAt 18 = .ok (.ireturn, 1) := by decide +kernel
theorem dX12_isLetterByte_0 : decode cX12_isLetterByte 0 = .ok (.iload_n 0, 1) := by decide +kernel
theorem dX12_isLetterByte_1 : decode cX12_isLetterByte 1 = .ok (.bipush 97, 2) := by decide +kernel
theorem dX12_isLetterByte_3 : decode cX12_isLetterByte 3 = .ok (.if_icmp .lt 9, 3) := by decide +kernel
theorem dX12_isLetterByte_6 : decode cX12_isLetterByte 6 = .ok (.iload_n 0, 1) := by decide +kernel
theorem dX12_isLetterByte_7 : decode cX12_isLetterByte 7 = .ok (.bipush 122, 2) := by decide +kernel
theorem dX12_isLetterByte_9 : decode cX12_isLetterByte 9 = .ok (.if_icmp .le 15, 3) := by decide +kernel
theorem dX12_isLetterByte_12 : decode cX12_isLetterByte 12 = .ok (.iload_n 0, 1) := by decide +kernel
theorem dX12_isLetterByte_13 : decode cX12_isLetterByte 13 = .ok (.bipush 65, 2) := by decide +kernel
theorem dX12_isLetterByte_15 : decode cX12_isLetterByte 15 = .ok (.if_icmp .lt 13, 3) := by decide +kernel
theorem dX12_isLetterByte_18 : decode cX12_isLetterByte 18 = .ok (.iload_n 0, 1) := by decide +kernel
theorem dX12_isLetterByte_19 : decode cX12_isLetterByte 19 = .ok (.bipush 90, 2) := by decide +kernel
theorem dX12_isLetterByte_21 : decode cX12_isLetterByte 21 = .ok (.if_icmp .gt 7, 3) := by decide +kernel
theorem dX12_isLetterByte_24 : decode cX12_isLetterByte 24 = .ok (.iconst 1, 1) := by decide +kernel
theorem dX12_isLetterByte_25 : decode cX12_isLetterByte 25 = .ok (.goto 4, 3) := by decide +kernel
theorem dX12_isLetterByte_28 : decode cX12_isLetterByte 28 = .ok (.iconst 0, 1) := by decide +kernel
theorem dX12_isLetterByte_29 : decode cX12_isLetterByte 29 = .ok (.ireturn, 1) := by decide +kernel
theorem dX12_isFigure_0 : decode cX12_isFigure 0 = .ok (.iload_n 0, 1) := by decide +kernel
theorem dX12_isFigure_1 : decode cX12_isFigure 1 = .ok (.bipush 48, 2) := by decide +kernel
theorem dX12_isFigure_3 : decode cX12_isFigure 3 = .ok (.if_icmp .lt 13, 3) := by decide +kernel
theorem dX12_isFigure_6 : decode cX12_isFigure 6 = .ok (.iload_n 0, 1) := by decide +kernel
theorem dX12_isFigure_7 : decode cX12_isFigure 7 = .ok (.bipush 57, 2) := by decide +kernel
theorem dX12_isFigure_9 : decode cX12_isFigure 9 = .ok (.if_icmp .gt 7, 3) := by decide +kernel
theorem dX12_isFigure_12 : decode cX12_isFigure 12 = .ok (.iconst 1, 1) := by decide +kernel
theorem dX12_isFigure_13 : decode cX12_isFigure 13 = .ok (.goto 4, 3) := by decide +kernel
theorem dX12_isFigure_16 : decode cX12_isFigure 16 = .ok (.iconst 0, 1) := by decide +kernel
theorem dX12_isFigure_17 : decode cX12_isFigure 17 = .ok (.ireturn, 1) := by decide +kernel
theorem dX12_isSign_0 : decode cX12_isSign 0 = .ok (.iload_n 0, 1) := by decide +kernel
theorem dX12_isSign_1 : decode cX12_isSign 1 = .ok (.tableswitch 129 35 62 #[127, 129, 129, 129, 129, 127, 127, 127, 127, 129, 127, 129, 127, 129, 129, 129, 129, 129, 129, 129, 129, 129, 129, 127, 127, 127, 127, 127], 127) := by decide +kernel
theorem dX12_isSign_128 : decode cX12_isSign 128 = .ok (.iconst 1, 1) := by decide +kernel
theorem dX12_isSign_129 : decode cX12_isSign 129 = .ok (.ireturn, 1) := by decide +kernel
theorem dX12_isSign_130 : decode cX12_isSign 130 = .ok (.iconst 0, 1) := by decide +kernel
theorem dX12_isSign_131 : decode cX12_isSign 131 = .ok (.ireturn, 1) := by decide +kernel
theorem dX12_nextToken_0 : decode cX12_nextToken 0 = .ok (.aload_n 0, 1) := by decide +kernel
theorem dX12_nextToken_1 : decode cX12_nextToken 1 = .ok (.aload_n 0, 1) := by decide +kernel
theorem dX12_nextToken_2 : decode cX12_nextToken 2 = .ok (.getfield 103, 3) := by decide +kernel
theorem dX12_nextToken_5 : decode cX12_nextToken 5 = .ok (.invokevirtual 106, 3) := by decide +kernel
theorem dX12_nextToken_8 : decode cX12_nextToken 8 = .ok (.bipush 32, 2) := by decide +kernel
theorem dX12_nextToken_10 : decode cX12_nextToken 10 = .ok (.if_icmp .eq 16, 3) := by decide +kernel
theorem dX12_nextToken_13 : decode cX12_nextToken 13 = .ok (.aload_n 0, 1) := by decide +kernel
theorem dX12_nextToken_14 : decode cX12_nextToken 14 = .ok (.aload_n 0, 1) := by decide +kernel
theorem dX12_nextToken_15 : decode cX12_nextToken 15 = .ok (.getfield 103, 3) := by decide +kernel
theorem dX12_nextToken_18 : decode cX12_nextToken 18 = .ok (.invokevirtual 106, 3) := by decide +kernel
theorem dX12_nextToken_21 : decode cX12_nextToken 21 = .ok (.bipush 10, 2) := by decide +kernel
theorem dX12_nextToken_23 : decode cX12_nextToken 23 = .ok (.if_icmp .ne 16, 3) := by decide +kernel
theorem dX12_nextToken_26 : decode cX12_nextToken 26 = .ok (.aload_n 0, 1) := by decide +kernel
theorem dX12_nextToken_27 : decode cX12_nextToken 27 = .ok (.dup, 1) := by decide +kernel
theorem dX12_nextToken_28 : decode cX12_nextToken 28 = .ok (.getfield 103, 3) := by decide +kernel
theorem dX12_nextToken_31 : decode cX12_nextToken 31 = .ok (.iconst 1, 1) := by decide +kernel
theorem dX12_nextToken_32 : decode cX12_nextToken 32 = .ok (.iadd, 1) := by decide +kernel
theorem dX12_nextToken_33 : decode cX12_nextToken 33 = .ok (.putfield 103, 3) := by decide +kernel
theorem dX12_nextToken_36 : decode cX12_nextToken 36 = .ok (.goto (-36), 3) := by decide +kernel
theorem dX12_nextToken_39 : decode cX12_nextToken 39 = .ok (.aload_n 0, 1) := by decide +kernel
theorem dX12_nextToken_40 : decode cX12_nextToken 40 = .ok (.aload_n 0, 1) := by decide +kernel
theorem dX12_nextToken_41 : decode cX12_nextToken 41 = .ok (.getfield 103, 3) := by decide +kernel
theorem dX12_nextToken_44 : decode cX12_nextToken 44 = .ok (.putfield 110, 3) := by decide +kernel
theorem dX12_nextToken_47 : decode cX12_nextToken 47 = .ok (.aload_n 0, 1) := by decide +kernel
theorem dX12_nextToken_48 : decode cX12_nextToken 48 = .ok (.aload_n 0, 1) := by decide +kernel
theorem dX12_nextToken_49 : decode cX12_nextToken 49 = .ok (.getfield 103, 3) := by decide +kernel
theorem dX12_nextToken_52 : decode cX12_nextToken 52 = .ok (.invokevirtual 106, 3) := by decide +kernel
theorem dX12_nextToken_55 : decode cX12_nextToken 55 = .ok (.istore_n 1, 1) := by decide +kernel
theorem dX12_nextToken_56 : decode cX12_nextToken 56 = .ok (.iload_n 1, 1) := by decide +kernel
theorem dX12_nextToken_57 : decode cX12_nextToken 57 = .ok (.ifCond .ge 11, 3) := by decide +kernel
theorem dX12_nextToken_60 : decode cX12_nextToken 60 = .ok (.aload_n 0, 1) := by decide +kernel
theorem dX12_nextToken_61 : decode cX12_nextToken 61 = .ok (.iconst 0, 1) := by decide +kernel
theorem dX12_nextToken_62 : decode cX12_nextToken 62 = .ok (.putfield 113, 3) := by decide +kernel
theorem dX12_nextToken_65 : decode cX12_nextToken 65 = .ok (.goto 245, 3) := by decide +kernel
theorem dX12_nextToken_68 : decode cX12_nextToken 68 = .ok (.iload_n 1, 1) := by decide +kernel
theorem dX12_nextToken_69 : decode cX12_nextToken 69 = .ok (.invokestatic 116, 3) := by decide +kernel
theorem dX12_nextToken_72 : decode cX12_nextToken 72 = .ok (.ifCond .eq 79, 3) := by decide +kernel
theorem dX12_nextToken_75 : decode cX12_nextToken 75 = .ok (.aload_n 0, 1) := by decide +kernel
theorem dX12_nextToken_76 : decode cX12_nextToken 76 = .ok (.iconst 1, 1) := by decide +kernel
theorem dX12_nextToken_77 : decode cX12_nextToken 77 = .ok (.putfield 113, 3) := by decide +kernel
theorem dX12_nextToken_80 : decode cX12_nextToken 80 = .ok (.aload_n 0, 1) := by decide +kernel
theorem dX12_nextToken_81 : decode cX12_nextToken 81 = .ok (.iconst 0, 1) := by decide +kernel
theorem dX12_nextToken_82 : decode cX12_nextToken 82 = .ok (.putfield 119, 3) := by decide +kernel
theorem dX12_nextToken_85 : decode cX12_nextToken 85 = .ok (.aload_n 0, 1) := by decide +kernel
theorem dX12_nextToken_86 : decode cX12_nextToken 86 = .ok (.aload_n 0, 1) := by decide +kernel
theorem dX12_nextToken_87 : decode cX12_nextToken 87 = .ok (.getfield 103, 3) := by decide +kernel
theorem dX12_nextToken_90 : decode cX12_nextToken 90 = .ok (.invokevirtual 106, 3) := by decide +kernel
theorem dX12_nextToken_93 : decode cX12_nextToken 93 = .ok (.invokestatic 116, 3) := by decide +kernel
theorem dX12_nextToken_96 : decode cX12_nextToken 96 = .ok (.ifCond .eq 214, 3) := by decide +kernel
theorem dX12_nextToken_99 : decode cX12_nextToken 99 = .ok (.aload_n 0, 1) := by decide +kernel
theorem dX12_nextToken_100 : decode cX12_nextToken 100 = .ok (.aload_n 0, 1) := by decide +kernel
theorem dX12_nextToken_101 : decode cX12_nextToken 101 = .ok (.getfield 119, 3) := by decide +kernel
theorem dX12_nextToken_104 : decode cX12_nextToken 104 = .ok (.ldc 122, 2) := by decide +kernel
theorem dX12_nextToken_106 : decode cX12_nextToken 106 = .ok (.if_icmp .le 10, 3) := by decide +kernel
theorem dX12_nextToken_109 : decode cX12_nextToken 109 = .ok (.aload_n 0, 1) := by decide +kernel
theorem dX12_nextToken_110 : decode cX12_nextToken 110 = .ok (.getfield 119, 3) := by decide +kernel
theorem dX12_nextToken_113 : decode cX12_nextToken 113 = .ok (.goto 22, 3) := by decide +kernel
theorem dX12_nextToken_116 : decode cX12_nextToken 116 = .ok (.bipush 10, 2) := by decide +kernel
theorem dX12_nextToken_118 : decode cX12_nextToken 118 = .ok (.aload_n 0, 1) := by decide +kernel
theorem dX12_nextToken_119 : decode cX12_nextToken 119 = .ok (.getfield 119, 3) := by decide +kernel
theorem dX12_nextToken_122 : decode cX12_nextToken 122 = .ok (.imul, 1) := by decide +kernel
theorem dX12_nextToken_123 : decode cX12_nextToken 123 = .ok (.aload_n 0, 1) := by decide +kernel
theorem dX12_nextToken_124 : decode cX12_nextToken 124 = .ok (.aload_n 0, 1) := by decide +kernel
theorem dX12_nextToken_125 : decode cX12_nextToken 125 = .ok (.getfield 103, 3) := by decide +kernel
theorem dX12_nextToken_128 : decode cX12_nextToken 128 = .ok (.invokevirtual 106, 3) := by decide +kernel
theorem dX12_nextToken_131 : decode cX12_nextToken 131 = .ok (.iadd, 1) := by decide +kernel
theorem dX12_nextToken_132 : decode cX12_nextToken 132 = .ok (.bipush 48, 2) := by decide +kernel
theorem dX12_nextToken_134 : decode cX12_nextToken 134 = .ok (.isub, 1) := by decide +kernel
theorem dX12_nextToken_135 : decode cX12_nextToken 135 = .ok (.putfield 119, 3) := by decide +kernel
theorem dX12_nextToken_138 : decode cX12_nextToken 138 = .ok (.aload_n 0, 1) := by decide +kernel
theorem dX12_nextToken_139 : decode cX12_nextToken 139 = .ok (.dup, 1) := by decide +kernel
theorem dX12_nextToken_140 : decode cX12_nextToken 140 = .ok (.getfield 103, 3) := by decide +kernel
theorem dX12_nextToken_143 : decode cX12_nextToken 143 = .ok (.iconst 1, 1) := by decide +kernel
theorem dX12_nextToken_144 : decode cX12_nextToken 144 = .ok (.iadd, 1) := by decide +kernel
theorem dX12_nextToken_145 : decode cX12_nextToken 145 = .ok (.putfield 103, 3) := by decide +kernel
theorem dX12_nextToken_148 : decode cX12_nextToken 148 = .ok (.goto (-63), 3) := by decide +kernel
theorem dX12_nextToken_151 : decode cX12_nextToken 151 = .ok (.iload_n 1, 1) := by decide +kernel
theorem dX12_nextToken_152 : decode cX12_nextToken 152 = .ok (.invokestatic 123, 3) := by decide +kernel
theorem dX12_nextToken_155 : decode cX12_nextToken 155 = .ok (.ifCond .eq 79, 3) := by decide +kernel
theorem dX12_nextToken_158 : decode cX12_nextToken 158 = .ok (.aload_n 0, 1) := by decide +kernel
theorem dX12_nextToken_159 : decode cX12_nextToken 159 = .ok (.iconst 2, 1) := by decide +kernel
theorem dX12_nextToken_160 : decode cX12_nextToken 160 = .ok (.putfield 113, 3) := by decide +kernel
theorem dX12_nextToken_163 : decode cX12_nextToken 163 = .ok (.aload_n 0, 1) := by decide +kernel
theorem dX12_nextToken_164 : decode cX12_nextToken 164 = .ok (.lconst 0, 1) := by decide +kernel
theorem dX12_nextToken_165 : decode cX12_nextToken 165 = .ok (.putfield 126, 3) := by decide +kernel
theorem dX12_nextToken_168 : decode cX12_nextToken 168 = .ok (.aload_n 0, 1) := by decide +kernel
theorem dX12_nextToken_169 : decode cX12_nextToken 169 = .ok (.aload_n 0, 1) := by decide +kernel
theorem dX12_nextToken_170 : decode cX12_nextToken 170 = .ok (.getfield 103, 3) := by decide +kernel
theorem dX12_nextToken_173 : decode cX12_nextToken 173 = .ok (.invokevirtual 106, 3) := by decide +kernel
theorem dX12_nextToken_176 : decode cX12_nextToken 176 = .ok (.invokestatic 123, 3) := by decide +kernel
theorem dX12_nextToken_179 : decode cX12_nextToken 179 = .ok (.ifCond .eq 131, 3) := by decide +kernel
theorem dX12_nextToken_182 : decode cX12_nextToken 182 = .ok (.aload_n 0, 1) := by decide +kernel
theorem dX12_nextToken_183 : decode cX12_nextToken 183 = .ok (.aload_n 0, 1) := by decide +kernel
theorem dX12_nextToken_184 : decode cX12_nextToken 184 = .ok (.getfield 126, 3) := by decide +kernel
theorem dX12_nextToken_187 : decode cX12_nextToken 187 = .ok (.bipush 48, 2) := by decide +kernel
theorem dX12_nextToken_189 : decode cX12_nextToken 189 = .ok (.lshr, 1) := by decide +kernel
theorem dX12_nextToken_190 : decode cX12_nextToken 190 = .ok (.lconst 0, 1) := by decide +kernel
theorem dX12_nextToken_191 : decode cX12_nextToken 191 = .ok (.lcmp, 1) := by decide +kernel
theorem dX12_nextToken_192 : decode cX12_nextToken 192 = .ok (.ifCond .eq 9, 3) := by decide +kernel
theorem dX12_nextToken_195 : decode cX12_nextToken 195 = .ok (.ldc2_w 130, 3) := by decide +kernel
theorem dX12_nextToken_198 : decode cX12_nextToken 198 = .ok (.goto 20, 3) := by decide +kernel
theorem dX12_nextToken_201 : decode cX12_nextToken 201 = .ok (.aload_n 0, 1) := by decide +kernel
theorem dX12_nextToken_202 : decode cX12_nextToken 202 = .ok (.getfield 126, 3) := by decide +kernel
theorem dX12_nextToken_205 : decode cX12_nextToken 205 = .ok (.bipush 8, 2) := by decide +kernel
theorem dX12_nextToken_207 : decode cX12_nextToken 207 = .ok (.lshl, 1) := by decide +kernel
theorem dX12_nextToken_208 : decode cX12_nextToken 208 = .ok (.aload_n 0, 1) := by decide +kernel
theorem dX12_nextToken_209 : decode cX12_nextToken 209 = .ok (.aload_n 0, 1) := by decide +kernel
theorem dX12_nextToken_210 : decode cX12_nextToken 210 = .ok (.getfield 103, 3) := by decide +kernel
theorem dX12_nextToken_213 : decode cX12_nextToken 213 = .ok (.invokevirtual 106, 3) := by decide +kernel
theorem dX12_nextToken_216 : decode cX12_nextToken 216 = .ok (.i2l, 1) := by decide +kernel
theorem dX12_nextToken_217 : decode cX12_nextToken 217 = .ok (.lor, 1) := by decide +kernel
theorem dX12_nextToken_218 : decode cX12_nextToken 218 = .ok (.putfield 126, 3) := by decide +kernel
theorem dX12_nextToken_221 : decode cX12_nextToken 221 = .ok (.aload_n 0, 1) := by decide +kernel
theorem dX12_nextToken_222 : decode cX12_nextToken 222 = .ok (.dup, 1) := by decide +kernel
theorem dX12_nextToken_223 : decode cX12_nextToken 223 = .ok (.getfield 103, 3) := by decide +kernel
theorem dX12_nextToken_226 : decode cX12_nextToken 226 = .ok (.iconst 1, 1) := by decide +kernel
theorem dX12_nextToken_227 : decode cX12_nextToken 227 = .ok (.iadd, 1) := by decide +kernel
theorem dX12_nextToken_228 : decode cX12_nextToken 228 = .ok (.putfield 103, 3) := by decide +kernel
theorem dX12_nextToken_231 : decode cX12_nextToken 231 = .ok (.goto (-63), 3) := by decide +kernel
theorem dX12_nextToken_234 : decode cX12_nextToken 234 = .ok (.aload_n 0, 1) := by decide +kernel
theorem dX12_nextToken_235 : decode cX12_nextToken 235 = .ok (.iload_n 1, 1) := by decide +kernel
theorem dX12_nextToken_236 : decode cX12_nextToken 236 = .ok (.invokestatic 132, 3) := by decide +kernel
theorem dX12_nextToken_239 : decode cX12_nextToken 239 = .ok (.ifCond .eq 7, 3) := by decide +kernel
theorem dX12_nextToken_242 : decode cX12_nextToken 242 = .ok (.iload_n 1, 1) := by decide +kernel
theorem dX12_nextToken_243 : decode cX12_nextToken 243 = .ok (.goto 4, 3) := by decide +kernel
theorem dX12_nextToken_246 : decode cX12_nextToken 246 = .ok (.iconst 3, 1) := by decide +kernel
theorem dX12_nextToken_247 : decode cX12_nextToken 247 = .ok (.putfield 113, 3) := by decide +kernel
theorem dX12_nextToken_250 : decode cX12_nextToken 250 = .ok (.aload_n 0, 1) := by decide +kernel
theorem dX12_nextToken_251 : decode cX12_nextToken 251 = .ok (.dup, 1) := by decide +kernel
theorem dX12_nextToken_252 : decode cX12_nextToken 252 = .ok (.getfield 103, 3) := by decide +kernel
theorem dX12_nextToken_255 : decode cX12_nextToken 255 = .ok (.iconst 1, 1) := by decide +kernel
theorem dX12_nextToken_256 : decode cX12_nextToken 256 = .ok (.iadd, 1) := by decide +kernel
theorem dX12_nextToken_257 : decode cX12_nextToken 257 = .ok (.putfield 103, 3) := by decide +kernel
theorem dX12_nextToken_260 : decode cX12_nextToken 260 = .ok (.iload_n 1, 1) := by decide +kernel
theorem dX12_nextToken_261 : decode cX12_nextToken 261 = .ok (.bipush 60, 2) := by decide +kernel
theorem dX12_nextToken_263 : decode cX12_nextToken 263 = .ok (.if_icmp .eq 9, 3) := by decide +kernel
theorem dX12_nextToken_266 : decode cX12_nextToken 266 = .ok (.iload_n 1, 1) := by decide +kernel
theorem dX12_nextToken_267 : decode cX12_nextToken 267 = .ok (.bipush 62, 2) := by decide +kernel
theorem dX12_nextToken_269 : decode cX12_nextToken 269 = .ok (.if_icmp .ne 41, 3) := by decide +kernel
theorem dX12_nextToken_272 : decode cX12_nextToken 272 = .ok (.aload_n 0, 1) := by decide +kernel
theorem dX12_nextToken_273 : decode cX12_nextToken 273 = .ok (.aload_n 0, 1) := by decide +kernel
theorem dX12_nextToken_274 : decode cX12_nextToken 274 = .ok (.getfield 103, 3) := by decide +kernel
theorem dX12_nextToken_277 : decode cX12_nextToken 277 = .ok (.invokevirtual 106, 3) := by decide +kernel
theorem dX12_nextToken_280 : decode cX12_nextToken 280 = .ok (.bipush 61, 2) := by decide +kernel
theorem dX12_nextToken_282 : decode cX12_nextToken 282 = .ok (.if_icmp .ne 28, 3) := by decide +kernel
theorem dX12_nextToken_285 : decode cX12_nextToken 285 = .ok (.aload_n 0, 1) := by decide +kernel
theorem dX12_nextToken_286 : decode cX12_nextToken 286 = .ok (.iload_n 1, 1) := by decide +kernel
theorem dX12_nextToken_287 : decode cX12_nextToken 287 = .ok (.bipush 60, 2) := by decide +kernel
theorem dX12_nextToken_289 : decode cX12_nextToken 289 = .ok (.if_icmp .ne 7, 3) := by decide +kernel
theorem dX12_nextToken_292 : decode cX12_nextToken 292 = .ok (.iconst 4, 1) := by decide +kernel
theorem dX12_nextToken_293 : decode cX12_nextToken 293 = .ok (.goto 4, 3) := by decide +kernel
theorem dX12_nextToken_296 : decode cX12_nextToken 296 = .ok (.iconst 5, 1) := by decide +kernel
theorem dX12_nextToken_297 : decode cX12_nextToken 297 = .ok (.putfield 113, 3) := by decide +kernel
theorem dX12_nextToken_300 : decode cX12_nextToken 300 = .ok (.aload_n 0, 1) := by decide +kernel
theorem dX12_nextToken_301 : decode cX12_nextToken 301 = .ok (.dup, 1) := by decide +kernel
theorem dX12_nextToken_302 : decode cX12_nextToken 302 = .ok (.getfield 103, 3) := by decide +kernel
theorem dX12_nextToken_305 : decode cX12_nextToken 305 = .ok (.iconst 1, 1) := by decide +kernel
theorem dX12_nextToken_306 : decode cX12_nextToken 306 = .ok (.iadd, 1) := by decide +kernel
theorem dX12_nextToken_307 : decode cX12_nextToken 307 = .ok (.putfield 103, 3) := by decide +kernel
theorem dX12_nextToken_310 : decode cX12_nextToken 310 = .ok (.return_, 1) := by decide +kernel
theorem dX12_w2_0 : decode cX12_w2 0 = .ok (.iload_n 0, 1) := by decide +kernel
theorem dX12_w2_1 : decode cX12_w2 1 = .ok (.i2l, 1) := by decide +kernel
theorem dX12_w2_2 : decode cX12_w2 2 = .ok (.bipush 8, 2) := by decide +kernel
theorem dX12_w2_4 : decode cX12_w2 4 = .ok (.lshl, 1) := by decide +kernel
theorem dX12_w2_5 : decode cX12_w2 5 = .ok (.iload_n 1, 1) := by decide +kernel
theorem dX12_w2_6 : decode cX12_w2 6 = .ok (.i2l, 1) := by decide +kernel
theorem dX12_w2_7 : decode cX12_w2 7 = .ok (.lor, 1) := by decide +kernel
theorem dX12_w2_8 : decode cX12_w2 8 = .ok (.lreturn, 1) := by decide +kernel
theorem dX12_w3_0 : decode cX12_w3 0 = .ok (.iload_n 0, 1) := by decide +kernel
theorem dX12_w3_1 : decode cX12_w3 1 = .ok (.iload_n 1, 1) := by decide +kernel
theorem dX12_w3_2 : decode cX12_w3 2 = .ok (.invokestatic 135, 3) := by decide +kernel
theorem dX12_w3_5 : decode cX12_w3 5 = .ok (.bipush 8, 2) := by decide +kernel
theorem dX12_w3_7 : decode cX12_w3 7 = .ok (.lshl, 1) := by decide +kernel
theorem dX12_w3_8 : decode cX12_w3 8 = .ok (.iload_n 2, 1) := by decide +kernel
theorem dX12_w3_9 : decode cX12_w3 9 = .ok (.i2l, 1) := by decide +kernel
theorem dX12_w3_10 : decode cX12_w3 10 = .ok (.lor, 1) := by decide +kernel
theorem dX12_w3_11 : decode cX12_w3 11 = .ok (.lreturn, 1) := by decide +kernel
theorem dX12_w4_0 : decode cX12_w4 0 = .ok (.iload_n 0, 1) := by decide +kernel
theorem dX12_w4_1 : decode cX12_w4 1 = .ok (.iload_n 1, 1) := by decide +kernel
theorem dX12_w4_2 : decode cX12_w4 2 = .ok (.iload_n 2, 1) := by decide +kernel
theorem dX12_w4_3 : decode cX12_w4 3 = .ok (.invokestatic 139, 3) := by decide +kernel
theorem dX12_w4_6 : decode cX12_w4 6 = .ok (.bipush 8, 2) := by decide +kernel
theorem dX12_w4_8 : decode cX12_w4 8 = .ok (.lshl, 1) := by decide +kernel
theorem dX12_w4_9 : decode cX12_w4 9 = .ok (.iload_n 3, 1) := by decide +kernel
theorem dX12_w4_10 : decode cX12_w4 10 = .ok (.i2l, 1) := by decide +kernel
theorem dX12_w4_11 : decode cX12_w4 11 = .ok (.lor, 1) := by decide +kernel
theorem dX12_w4_12 : decode cX12_w4 12 = .ok (.lreturn, 1) := by decide +kernel
theorem dX12_w5_0 : decode cX12_w5 0 = .ok (.iload_n 0, 1) := by decide +kernel
theorem dX12_w5_1 : decode cX12_w5 1 = .ok (.iload_n 1, 1) := by decide +kernel
theorem dX12_w5_2 : decode cX12_w5 2 = .ok (.iload_n 2, 1) := by decide +kernel
theorem dX12_w5_3 : decode cX12_w5 3 = .ok (.iload_n 3, 1) := by decide +kernel
theorem dX12_w5_4 : decode cX12_w5 4 = .ok (.invokestatic 143, 3) := by decide +kernel
theorem dX12_w5_7 : decode cX12_w5 7 = .ok (.bipush 8, 2) := by decide +kernel
theorem dX12_w5_9 : decode cX12_w5 9 = .ok (.lshl, 1) := by decide +kernel
theorem dX12_w5_10 : decode cX12_w5 10 = .ok (.iload 4, 2) := by decide +kernel
theorem dX12_w5_12 : decode cX12_w5 12 = .ok (.i2l, 1) := by decide +kernel
theorem dX12_w5_13 : decode cX12_w5 13 = .ok (.lor, 1) := by decide +kernel
theorem dX12_w5_14 : decode cX12_w5 14 = .ok (.lreturn, 1) := by decide +kernel
theorem dX12_w6_0 : decode cX12_w6 0 = .ok (.iload_n 0, 1) := by decide +kernel
theorem dX12_w6_1 : decode cX12_w6 1 = .ok (.iload_n 1, 1) := by decide +kernel
theorem dX12_w6_2 : decode cX12_w6 2 = .ok (.iload_n 2, 1) := by decide +kernel
theorem dX12_w6_3 : decode cX12_w6 3 = .ok (.iload_n 3, 1) := by decide +kernel
theorem dX12_w6_4 : decode cX12_w6 4 = .ok (.iload 4, 2) := by decide +kernel
theorem dX12_w6_6 : decode cX12_w6 6 = .ok (.invokestatic 147, 3) := by decide +kernel
theorem dX12_w6_9 : decode cX12_w6 9 = .ok (.bipush 8, 2) := by decide +kernel
theorem dX12_w6_11 : decode cX12_w6 11 = .ok (.lshl, 1) := by decide +kernel
theorem dX12_w6_12 : decode cX12_w6 12 = .ok (.iload 5, 2) := by decide +kernel
theorem dX12_w6_14 : decode cX12_w6 14 = .ok (.i2l, 1) := by decide +kernel
theorem dX12_w6_15 : decode cX12_w6 15 = .ok (.lor, 1) := by decide +kernel
theorem dX12_w6_16 : decode cX12_w6 16 = .ok (.lreturn, 1) := by decide +kernel
theorem dX12_isWord_0 : decode cX12_isWord 0 = .ok (.aload_n 0, 1) := by decide +kernel
theorem dX12_isWord_1 : decode cX12_isWord 1 = .ok (.getfield 113, 3) := by decide +kernel
theorem dX12_isWord_4 : decode cX12_isWord 4 = .ok (.iconst 2, 1) := by decide +kernel
theorem dX12_isWord_5 : decode cX12_isWord 5 = .ok (.if_icmp .ne 16, 3) := by decide +kernel
theorem dX12_isWord_8 : decode cX12_isWord 8 = .ok (.aload_n 0, 1) := by decide +kernel
theorem dX12_isWord_9 : decode cX12_isWord 9 = .ok (.getfield 126, 3) := by decide +kernel
theorem dX12_isWord_12 : decode cX12_isWord 12 = .ok (.lload_n 1, 1) := by decide +kernel
theorem dX12_isWord_13 : decode cX12_isWord 13 = .ok (.lcmp, 1) := by decide +kernel
theorem dX12_isWord_14 : decode cX12_isWord 14 = .ok (.ifCond .ne 7, 3) := by decide +kernel
theorem dX12_isWord_17 : decode cX12_isWord 17 = .ok (.iconst 1, 1) := by decide +kernel
theorem dX12_isWord_18 : decode cX12_isWord 18 = .ok (.goto 4, 3) := by decide +kernel
theorem dX12_isWord_21 : decode cX12_isWord 21 = .ok (.iconst 0, 1) := by decide +kernel
theorem dX12_isWord_22 : decode cX12_isWord 22 = .ok (.ireturn, 1) := by decide +kernel
theorem dX12_emit_0 : decode cX12_emit 0 = .ok (.aload_n 0, 1) := by decide +kernel
theorem dX12_emit_1 : decode cX12_emit 1 = .ok (.getfield 16, 3) := by decide +kernel
theorem dX12_emit_4 : decode cX12_emit 4 = .ok (.aload_n 0, 1) := by decide +kernel
theorem dX12_emit_5 : decode cX12_emit 5 = .ok (.getfield 151, 3) := by decide +kernel
theorem dX12_emit_8 : decode cX12_emit 8 = .ok (.bipush 121, 2) := by decide +kernel
theorem dX12_emit_10 : decode cX12_emit 10 = .ok (.iadd, 1) := by decide +kernel
theorem dX12_emit_11 : decode cX12_emit 11 = .ok (.iconst 2, 1) := by decide +kernel
theorem dX12_emit_12 : decode cX12_emit 12 = .ok (.aload_n 0, 1) := by decide +kernel
theorem dX12_emit_13 : decode cX12_emit 13 = .ok (.getfield 154, 3) := by decide +kernel
theorem dX12_emit_16 : decode cX12_emit 16 = .ok (.imul, 1) := by decide +kernel
theorem dX12_emit_17 : decode cX12_emit 17 = .ok (.iadd, 1) := by decide +kernel
theorem dX12_emit_18 : decode cX12_emit 18 = .ok (.iload_n 1, 1) := by decide +kernel
theorem dX12_emit_19 : decode cX12_emit 19 = .ok (.iastore, 1) := by decide +kernel
theorem dX12_emit_20 : decode cX12_emit 20 = .ok (.aload_n 0, 1) := by decide +kernel
theorem dX12_emit_21 : decode cX12_emit 21 = .ok (.getfield 16, 3) := by decide +kernel
theorem dX12_emit_24 : decode cX12_emit 24 = .ok (.aload_n 0, 1) := by decide +kernel
theorem dX12_emit_25 : decode cX12_emit 25 = .ok (.getfield 151, 3) := by decide +kernel
theorem dX12_emit_28 : decode cX12_emit 28 = .ok (.bipush 121, 2) := by decide +kernel
theorem dX12_emit_30 : decode cX12_emit 30 = .ok (.iadd, 1) := by decide +kernel
theorem dX12_emit_31 : decode cX12_emit 31 = .ok (.iconst 2, 1) := by decide +kernel
theorem dX12_emit_32 : decode cX12_emit 32 = .ok (.aload_n 0, 1) := by decide +kernel
theorem dX12_emit_33 : decode cX12_emit 33 = .ok (.getfield 154, 3) := by decide +kernel
theorem dX12_emit_36 : decode cX12_emit 36 = .ok (.imul, 1) := by decide +kernel
theorem dX12_emit_37 : decode cX12_emit 37 = .ok (.iadd, 1) := by decide +kernel
theorem dX12_emit_38 : decode cX12_emit 38 = .ok (.iconst 1, 1) := by decide +kernel
theorem dX12_emit_39 : decode cX12_emit 39 = .ok (.iadd, 1) := by decide +kernel
theorem dX12_emit_40 : decode cX12_emit 40 = .ok (.iload_n 2, 1) := by decide +kernel
theorem dX12_emit_41 : decode cX12_emit 41 = .ok (.iastore, 1) := by decide +kernel
theorem dX12_emit_42 : decode cX12_emit 42 = .ok (.aload_n 0, 1) := by decide +kernel
theorem dX12_emit_43 : decode cX12_emit 43 = .ok (.dup, 1) := by decide +kernel
theorem dX12_emit_44 : decode cX12_emit 44 = .ok (.getfield 154, 3) := by decide +kernel
theorem dX12_emit_47 : decode cX12_emit 47 = .ok (.iconst 1, 1) := by decide +kernel
theorem dX12_emit_48 : decode cX12_emit 48 = .ok (.iadd, 1) := by decide +kernel
theorem dX12_emit_49 : decode cX12_emit 49 = .ok (.putfield 154, 3) := by decide +kernel
theorem dX12_emit_52 : decode cX12_emit 52 = .ok (.return_, 1) := by decide +kernel
theorem dX12_nameOf_0 : decode cX12_nameOf 0 = .ok (.aload_n 0, 1) := by decide +kernel
theorem dX12_nameOf_1 : decode cX12_nameOf 1 = .ok (.getfield 113, 3) := by decide +kernel
theorem dX12_nameOf_4 : decode cX12_nameOf 4 = .ok (.iconst 2, 1) := by decide +kernel
theorem dX12_nameOf_5 : decode cX12_nameOf 5 = .ok (.if_icmp .eq 5, 3) := by decide +kernel
theorem dX12_nameOf_8 : decode cX12_nameOf 8 = .ok (.iconst (-1), 1) := by decide +kernel
theorem dX12_nameOf_9 : decode cX12_nameOf 9 = .ok (.ireturn, 1) := by decide +kernel
theorem dX12_nameOf_10 : decode cX12_nameOf 10 = .ok (.aload_n 0, 1) := by decide +kernel
theorem dX12_nameOf_11 : decode cX12_nameOf 11 = .ok (.getfield 126, 3) := by decide +kernel
theorem dX12_nameOf_14 : decode cX12_nameOf 14 = .ok (.bipush 100, 2) := by decide +kernel
theorem dX12_nameOf_16 : decode cX12_nameOf 16 = .ok (.bipush 97, 2) := by decide +kernel
theorem dX12_nameOf_18 : decode cX12_nameOf 18 = .ok (.bipush 121, 2) := by decide +kernel
theorem dX12_nameOf_20 : decode cX12_nameOf 20 = .ok (.invokestatic 139, 3) := by decide +kernel
theorem dX12_nameOf_23 : decode cX12_nameOf 23 = .ok (.lcmp, 1) := by decide +kernel
theorem dX12_nameOf_24 : decode cX12_nameOf 24 = .ok (.ifCond .ne 5, 3) := by decide +kernel
theorem dX12_nameOf_27 : decode cX12_nameOf 27 = .ok (.iconst 0, 1) := by decide +kernel
theorem dX12_nameOf_28 : decode cX12_nameOf 28 = .ok (.ireturn, 1) := by decide +kernel
theorem dX12_nameOf_29 : decode cX12_nameOf 29 = .ok (.aload_n 0, 1) := by decide +kernel
theorem dX12_nameOf_30 : decode cX12_nameOf 30 = .ok (.getfield 126, 3) := by decide +kernel
theorem dX12_nameOf_33 : decode cX12_nameOf 33 = .ok (.bipush 114, 2) := by decide +kernel
theorem dX12_nameOf_35 : decode cX12_nameOf 35 = .ok (.bipush 97, 2) := by decide +kernel
theorem dX12_nameOf_37 : decode cX12_nameOf 37 = .ok (.bipush 105, 2) := by decide +kernel
theorem dX12_nameOf_39 : decode cX12_nameOf 39 = .ok (.bipush 110, 2) := by decide +kernel
theorem dX12_nameOf_41 : decode cX12_nameOf 41 = .ok (.invokestatic 143, 3) := by decide +kernel
theorem dX12_nameOf_44 : decode cX12_nameOf 44 = .ok (.lcmp, 1) := by decide +kernel
theorem dX12_nameOf_45 : decode cX12_nameOf 45 = .ok (.ifCond .ne 5, 3) := by decide +kernel
theorem dX12_nameOf_48 : decode cX12_nameOf 48 = .ok (.iconst 1, 1) := by decide +kernel
theorem dX12_nameOf_49 : decode cX12_nameOf 49 = .ok (.ireturn, 1) := by decide +kernel
theorem dX12_nameOf_50 : decode cX12_nameOf 50 = .ok (.aload_n 0, 1) := by decide +kernel
theorem dX12_nameOf_51 : decode cX12_nameOf 51 = .ok (.getfield 126, 3) := by decide +kernel
theorem dX12_nameOf_54 : decode cX12_nameOf 54 = .ok (.bipush 119, 2) := by decide +kernel
theorem dX12_nameOf_56 : decode cX12_nameOf 56 = .ok (.bipush 97, 2) := by decide +kernel
theorem dX12_nameOf_58 : decode cX12_nameOf 58 = .ok (.bipush 121, 2) := by decide +kernel
theorem dX12_nameOf_60 : decode cX12_nameOf 60 = .ok (.invokestatic 139, 3) := by decide +kernel
theorem dX12_nameOf_63 : decode cX12_nameOf 63 = .ok (.lcmp, 1) := by decide +kernel
theorem dX12_nameOf_64 : decode cX12_nameOf 64 = .ok (.ifCond .ne 5, 3) := by decide +kernel
theorem dX12_nameOf_67 : decode cX12_nameOf 67 = .ok (.iconst 2, 1) := by decide +kernel
theorem dX12_nameOf_68 : decode cX12_nameOf 68 = .ok (.ireturn, 1) := by decide +kernel
theorem dX12_nameOf_69 : decode cX12_nameOf 69 = .ok (.aload_n 0, 1) := by decide +kernel
theorem dX12_nameOf_70 : decode cX12_nameOf 70 = .ok (.getfield 126, 3) := by decide +kernel
theorem dX12_nameOf_73 : decode cX12_nameOf 73 = .ok (.bipush 108, 2) := by decide +kernel
theorem dX12_nameOf_75 : decode cX12_nameOf 75 = .ok (.bipush 111, 2) := by decide +kernel
theorem dX12_nameOf_77 : decode cX12_nameOf 77 = .ok (.bipush 110, 2) := by decide +kernel
theorem dX12_nameOf_79 : decode cX12_nameOf 79 = .ok (.bipush 103, 2) := by decide +kernel
theorem dX12_nameOf_81 : decode cX12_nameOf 81 = .ok (.invokestatic 143, 3) := by decide +kernel
theorem dX12_nameOf_84 : decode cX12_nameOf 84 = .ok (.lcmp, 1) := by decide +kernel
theorem dX12_nameOf_85 : decode cX12_nameOf 85 = .ok (.ifCond .ne 5, 3) := by decide +kernel
theorem dX12_nameOf_88 : decode cX12_nameOf 88 = .ok (.iconst 3, 1) := by decide +kernel
theorem dX12_nameOf_89 : decode cX12_nameOf 89 = .ok (.ireturn, 1) := by decide +kernel
theorem dX12_nameOf_90 : decode cX12_nameOf 90 = .ok (.aload_n 0, 1) := by decide +kernel
theorem dX12_nameOf_91 : decode cX12_nameOf 91 = .ok (.getfield 126, 3) := by decide +kernel
theorem dX12_nameOf_94 : decode cX12_nameOf 94 = .ok (.bipush 116, 2) := by decide +kernel
theorem dX12_nameOf_96 : decode cX12_nameOf 96 = .ok (.bipush 104, 2) := by decide +kernel
theorem dX12_nameOf_98 : decode cX12_nameOf 98 = .ok (.bipush 105, 2) := by decide +kernel
theorem dX12_nameOf_100 : decode cX12_nameOf 100 = .ok (.bipush 99, 2) := by decide +kernel
theorem dX12_nameOf_102 : decode cX12_nameOf 102 = .ok (.bipush 107, 2) := by decide +kernel
theorem dX12_nameOf_104 : decode cX12_nameOf 104 = .ok (.invokestatic 147, 3) := by decide +kernel
theorem dX12_nameOf_107 : decode cX12_nameOf 107 = .ok (.lcmp, 1) := by decide +kernel
theorem dX12_nameOf_108 : decode cX12_nameOf 108 = .ok (.ifCond .ne 5, 3) := by decide +kernel
theorem dX12_nameOf_111 : decode cX12_nameOf 111 = .ok (.iconst 4, 1) := by decide +kernel
theorem dX12_nameOf_112 : decode cX12_nameOf 112 = .ok (.ireturn, 1) := by decide +kernel
theorem dX12_nameOf_113 : decode cX12_nameOf 113 = .ok (.aload_n 0, 1) := by decide +kernel
theorem dX12_nameOf_114 : decode cX12_nameOf 114 = .ok (.getfield 126, 3) := by decide +kernel
theorem dX12_nameOf_117 : decode cX12_nameOf 117 = .ok (.bipush 109, 2) := by decide +kernel
theorem dX12_nameOf_119 : decode cX12_nameOf 119 = .ok (.bipush 111, 2) := by decide +kernel
theorem dX12_nameOf_121 : decode cX12_nameOf 121 = .ok (.bipush 117, 2) := by decide +kernel
theorem dX12_nameOf_123 : decode cX12_nameOf 123 = .ok (.bipush 116, 2) := by decide +kernel
theorem dX12_nameOf_125 : decode cX12_nameOf 125 = .ok (.bipush 104, 2) := by decide +kernel
theorem dX12_nameOf_127 : decode cX12_nameOf 127 = .ok (.invokestatic 147, 3) := by decide +kernel
theorem dX12_nameOf_130 : decode cX12_nameOf 130 = .ok (.lcmp, 1) := by decide +kernel
theorem dX12_nameOf_131 : decode cX12_nameOf 131 = .ok (.ifCond .ne 5, 3) := by decide +kernel
theorem dX12_nameOf_134 : decode cX12_nameOf 134 = .ok (.iconst 5, 1) := by decide +kernel
theorem dX12_nameOf_135 : decode cX12_nameOf 135 = .ok (.ireturn, 1) := by decide +kernel
theorem dX12_nameOf_136 : decode cX12_nameOf 136 = .ok (.aload_n 0, 1) := by decide +kernel
theorem dX12_nameOf_137 : decode cX12_nameOf 137 = .ok (.getfield 126, 3) := by decide +kernel
theorem dX12_nameOf_140 : decode cX12_nameOf 140 = .ok (.bipush 119, 2) := by decide +kernel
theorem dX12_nameOf_142 : decode cX12_nameOf 142 = .ok (.bipush 104, 2) := by decide +kernel
theorem dX12_nameOf_144 : decode cX12_nameOf 144 = .ok (.bipush 111, 2) := by decide +kernel
theorem dX12_nameOf_146 : decode cX12_nameOf 146 = .ok (.invokestatic 139, 3) := by decide +kernel
theorem dX12_nameOf_149 : decode cX12_nameOf 149 = .ok (.lcmp, 1) := by decide +kernel
theorem dX12_nameOf_150 : decode cX12_nameOf 150 = .ok (.ifCond .ne 6, 3) := by decide +kernel
theorem dX12_nameOf_153 : decode cX12_nameOf 153 = .ok (.bipush 6, 2) := by decide +kernel
theorem dX12_nameOf_155 : decode cX12_nameOf 155 = .ok (.ireturn, 1) := by decide +kernel
theorem dX12_nameOf_156 : decode cX12_nameOf 156 = .ok (.aload_n 0, 1) := by decide +kernel
theorem dX12_nameOf_157 : decode cX12_nameOf 157 = .ok (.getfield 126, 3) := by decide +kernel
theorem dX12_nameOf_160 : decode cX12_nameOf 160 = .ok (.bipush 119, 2) := by decide +kernel
theorem dX12_nameOf_162 : decode cX12_nameOf 162 = .ok (.bipush 101, 2) := by decide +kernel
theorem dX12_nameOf_164 : decode cX12_nameOf 164 = .ok (.bipush 110, 2) := by decide +kernel
theorem dX12_nameOf_166 : decode cX12_nameOf 166 = .ok (.bipush 116, 2) := by decide +kernel
theorem dX12_nameOf_168 : decode cX12_nameOf 168 = .ok (.invokestatic 143, 3) := by decide +kernel
theorem dX12_nameOf_171 : decode cX12_nameOf 171 = .ok (.lcmp, 1) := by decide +kernel
theorem dX12_nameOf_172 : decode cX12_nameOf 172 = .ok (.ifCond .ne 8, 3) := by decide +kernel
theorem dX12_nameOf_175 : decode cX12_nameOf 175 = .ok (.bipush 7, 2) := by decide +kernel
theorem dX12_nameOf_177 : decode cX12_nameOf 177 = .ok (.goto 30, 3) := by decide +kernel
theorem dX12_nameOf_180 : decode cX12_nameOf 180 = .ok (.aload_n 0, 1) := by decide +kernel
theorem dX12_nameOf_181 : decode cX12_nameOf 181 = .ok (.getfield 126, 3) := by decide +kernel
theorem dX12_nameOf_184 : decode cX12_nameOf 184 = .ok (.bipush 102, 2) := by decide +kernel
theorem dX12_nameOf_186 : decode cX12_nameOf 186 = .ok (.bipush 105, 2) := by decide +kernel
theorem dX12_nameOf_188 : decode cX12_nameOf 188 = .ok (.bipush 114, 2) := by decide +kernel
theorem dX12_nameOf_190 : decode cX12_nameOf 190 = .ok (.bipush 115, 2) := by decide +kernel
theorem dX12_nameOf_192 : decode cX12_nameOf 192 = .ok (.bipush 116, 2) := by decide +kernel
theorem dX12_nameOf_194 : decode cX12_nameOf 194 = .ok (.invokestatic 147, 3) := by decide +kernel
theorem dX12_nameOf_197 : decode cX12_nameOf 197 = .ok (.lcmp, 1) := by decide +kernel
theorem dX12_nameOf_198 : decode cX12_nameOf 198 = .ok (.ifCond .ne 8, 3) := by decide +kernel
theorem dX12_nameOf_201 : decode cX12_nameOf 201 = .ok (.bipush 8, 2) := by decide +kernel
theorem dX12_nameOf_203 : decode cX12_nameOf 203 = .ok (.goto 4, 3) := by decide +kernel
theorem dX12_nameOf_206 : decode cX12_nameOf 206 = .ok (.iconst (-1), 1) := by decide +kernel
theorem dX12_nameOf_207 : decode cX12_nameOf 207 = .ok (.ireturn, 1) := by decide +kernel
theorem dX12_isOf_0 : decode cX12_isOf 0 = .ok (.iload_n 1, 1) := by decide +kernel
theorem dX12_isOf_1 : decode cX12_isOf 1 = .ok (.iconst 5, 1) := by decide +kernel
theorem dX12_isOf_2 : decode cX12_isOf 2 = .ok (.if_icmp .lt 27, 3) := by decide +kernel
theorem dX12_isOf_5 : decode cX12_isOf 5 = .ok (.iload_n 1, 1) := by decide +kernel
theorem dX12_isOf_6 : decode cX12_isOf 6 = .ok (.bipush 8, 2) := by decide +kernel
theorem dX12_isOf_8 : decode cX12_isOf 8 = .ok (.if_icmp .ge 13, 3) := by decide +kernel
theorem dX12_isOf_11 : decode cX12_isOf 11 = .ok (.aload_n 0, 1) := by decide +kernel
theorem dX12_isOf_12 : decode cX12_isOf 12 = .ok (.getfield 157, 3) := by decide +kernel
theorem dX12_isOf_15 : decode cX12_isOf 15 = .ok (.ifCond .ne 18, 3) := by decide +kernel
theorem dX12_isOf_18 : decode cX12_isOf 18 = .ok (.goto 11, 3) := by decide +kernel
theorem dX12_isOf_21 : decode cX12_isOf 21 = .ok (.aload_n 0, 1) := by decide +kernel
theorem dX12_isOf_22 : decode cX12_isOf 22 = .ok (.getfield 157, 3) := by decide +kernel
theorem dX12_isOf_25 : decode cX12_isOf 25 = .ok (.iconst 1, 1) := by decide +kernel
theorem dX12_isOf_26 : decode cX12_isOf 26 = .ok (.if_icmp .ne 7, 3) := by decide +kernel
theorem dX12_isOf_29 : decode cX12_isOf 29 = .ok (.iconst 1, 1) := by decide +kernel
theorem dX12_isOf_30 : decode cX12_isOf 30 = .ok (.goto 4, 3) := by decide +kernel
theorem dX12_isOf_33 : decode cX12_isOf 33 = .ok (.iconst 0, 1) := by decide +kernel
theorem dX12_isOf_34 : decode cX12_isOf 34 = .ok (.ireturn, 1) := by decide +kernel
theorem dX12_rank_0 : decode cX12_rank 0 = .ok (.iload_n 0, 1) := by decide +kernel
theorem dX12_rank_1 : decode cX12_rank 1 = .ok (.bipush 40, 2) := by decide +kernel
theorem dX12_rank_3 : decode cX12_rank 3 = .ok (.if_icmp .lt 7, 3) := by decide +kernel
theorem dX12_rank_6 : decode cX12_rank 6 = .ok (.iconst 0, 1) := by decide +kernel
theorem dX12_rank_7 : decode cX12_rank 7 = .ok (.goto 75, 3) := by decide +kernel
theorem dX12_rank_10 : decode cX12_rank 10 = .ok (.iload_n 0, 1) := by decide +kernel
theorem dX12_rank_11 : decode cX12_rank 11 = .ok (.bipush 22, 2) := by decide +kernel
theorem dX12_rank_13 : decode cX12_rank 13 = .ok (.if_icmp .ne 7, 3) := by decide +kernel
theorem dX12_rank_16 : decode cX12_rank 16 = .ok (.iconst 1, 1) := by decide +kernel
theorem dX12_rank_17 : decode cX12_rank 17 = .ok (.goto 65, 3) := by decide +kernel
theorem dX12_rank_20 : decode cX12_rank 20 = .ok (.iload_n 0, 1) := by decide +kernel
theorem dX12_rank_21 : decode cX12_rank 21 = .ok (.bipush 21, 2) := by decide +kernel
theorem dX12_rank_23 : decode cX12_rank 23 = .ok (.if_icmp .ne 7, 3) := by decide +kernel
theorem dX12_rank_26 : decode cX12_rank 26 = .ok (.iconst 2, 1) := by decide +kernel
theorem dX12_rank_27 : decode cX12_rank 27 = .ok (.goto 55, 3) := by decide +kernel
theorem dX12_rank_30 : decode cX12_rank 30 = .ok (.iload_n 0, 1) := by decide +kernel
theorem dX12_rank_31 : decode cX12_rank 31 = .ok (.bipush 20, 2) := by decide +kernel
theorem dX12_rank_33 : decode cX12_rank 33 = .ok (.if_icmp .ne 7, 3) := by decide +kernel
theorem dX12_rank_36 : decode cX12_rank 36 = .ok (.iconst 3, 1) := by decide +kernel
theorem dX12_rank_37 : decode cX12_rank 37 = .ok (.goto 45, 3) := by decide +kernel
theorem dX12_rank_40 : decode cX12_rank 40 = .ok (.iload_n 0, 1) := by decide +kernel
theorem dX12_rank_41 : decode cX12_rank 41 = .ok (.bipush 10, 2) := by decide +kernel
theorem dX12_rank_43 : decode cX12_rank 43 = .ok (.if_icmp .lt 7, 3) := by decide +kernel
theorem dX12_rank_46 : decode cX12_rank 46 = .ok (.iconst 4, 1) := by decide +kernel
theorem dX12_rank_47 : decode cX12_rank 47 = .ok (.goto 35, 3) := by decide +kernel
theorem dX12_rank_50 : decode cX12_rank 50 = .ok (.iload_n 0, 1) := by decide +kernel
theorem dX12_rank_51 : decode cX12_rank 51 = .ok (.iconst 5, 1) := by decide +kernel
theorem dX12_rank_52 : decode cX12_rank 52 = .ok (.if_icmp .eq 13, 3) := by decide +kernel
theorem dX12_rank_55 : decode cX12_rank 55 = .ok (.iload_n 0, 1) := by decide +kernel
theorem dX12_rank_56 : decode cX12_rank 56 = .ok (.iconst 2, 1) := by decide +kernel
theorem dX12_rank_57 : decode cX12_rank 57 = .ok (.if_icmp .eq 8, 3) := by decide +kernel
theorem dX12_rank_60 : decode cX12_rank 60 = .ok (.iload_n 0, 1) := by decide +kernel
theorem dX12_rank_61 : decode cX12_rank 61 = .ok (.iconst 4, 1) := by decide +kernel
theorem dX12_rank_62 : decode cX12_rank 62 = .ok (.if_icmp .ne 8, 3) := by decide +kernel
theorem dX12_rank_65 : decode cX12_rank 65 = .ok (.bipush 7, 2) := by decide +kernel
theorem dX12_rank_67 : decode cX12_rank 67 = .ok (.goto 15, 3) := by decide +kernel
theorem dX12_rank_70 : decode cX12_rank 70 = .ok (.iload_n 0, 1) := by decide +kernel
theorem dX12_rank_71 : decode cX12_rank 71 = .ok (.bipush 8, 2) := by decide +kernel
theorem dX12_rank_73 : decode cX12_rank 73 = .ok (.if_icmp .lt 8, 3) := by decide +kernel
theorem dX12_rank_76 : decode cX12_rank 76 = .ok (.bipush 6, 2) := by decide +kernel
theorem dX12_rank_78 : decode cX12_rank 78 = .ok (.goto 4, 3) := by decide +kernel
theorem dX12_rank_81 : decode cX12_rank 81 = .ok (.iconst 5, 1) := by decide +kernel
theorem dX12_rank_82 : decode cX12_rank 82 = .ok (.ireturn, 1) := by decide +kernel
theorem dX12_settle_0 : decode cX12_settle 0 = .ok (.aload_n 0, 1) := by decide +kernel
theorem dX12_settle_1 : decode cX12_settle 1 = .ok (.getfield 160, 3) := by decide +kernel
theorem dX12_settle_4 : decode cX12_settle 4 = .ok (.ifCond .le 89, 3) := by decide +kernel
theorem dX12_settle_7 : decode cX12_settle 7 = .ok (.aload_n 0, 1) := by decide +kernel
theorem dX12_settle_8 : decode cX12_settle 8 = .ok (.getfield 29, 3) := by decide +kernel
theorem dX12_settle_11 : decode cX12_settle 11 = .ok (.aload_n 0, 1) := by decide +kernel
theorem dX12_settle_12 : decode cX12_settle 12 = .ok (.getfield 160, 3) := by decide +kernel
theorem dX12_settle_15 : decode cX12_settle 15 = .ok (.iconst 1, 1) := by decide +kernel
theorem dX12_settle_16 : decode cX12_settle 16 = .ok (.isub, 1) := by decide +kernel
theorem dX12_settle_17 : decode cX12_settle 17 = .ok (.iaload, 1) := by decide +kernel
theorem dX12_settle_18 : decode cX12_settle 18 = .ok (.invokestatic 163, 3) := by decide +kernel
theorem dX12_settle_21 : decode cX12_settle 21 = .ok (.iload_n 1, 1) := by decide +kernel
theorem dX12_settle_22 : decode cX12_settle 22 = .ok (.if_icmp .lt 71, 3) := by decide +kernel
theorem dX12_settle_25 : decode cX12_settle 25 = .ok (.aload_n 0, 1) := by decide +kernel
theorem dX12_settle_26 : decode cX12_settle 26 = .ok (.dup, 1) := by decide +kernel
theorem dX12_settle_27 : decode cX12_settle 27 = .ok (.getfield 160, 3) := by decide +kernel
theorem dX12_settle_30 : decode cX12_settle 30 = .ok (.iconst 1, 1) := by decide +kernel
theorem dX12_settle_31 : decode cX12_settle 31 = .ok (.isub, 1) := by decide +kernel
theorem dX12_settle_32 : decode cX12_settle 32 = .ok (.putfield 160, 3) := by decide +kernel
theorem dX12_settle_35 : decode cX12_settle 35 = .ok (.aload_n 0, 1) := by decide +kernel
theorem dX12_settle_36 : decode cX12_settle 36 = .ok (.aload_n 0, 1) := by decide +kernel
theorem dX12_settle_37 : decode cX12_settle 37 = .ok (.getfield 29, 3) := by decide +kernel
theorem dX12_settle_40 : decode cX12_settle 40 = .ok (.aload_n 0, 1) := by decide +kernel
theorem dX12_settle_41 : decode cX12_settle 41 = .ok (.getfield 160, 3) := by decide +kernel
theorem dX12_settle_44 : decode cX12_settle 44 = .ok (.iaload, 1) := by decide +kernel
theorem dX12_settle_45 : decode cX12_settle 45 = .ok (.iconst 0, 1) := by decide +kernel
theorem dX12_settle_46 : decode cX12_settle 46 = .ok (.invokevirtual 166, 3) := by decide +kernel
theorem dX12_settle_49 : decode cX12_settle 49 = .ok (.aload_n 0, 1) := by decide +kernel
theorem dX12_settle_50 : decode cX12_settle 50 = .ok (.getfield 29, 3) := by decide +kernel
theorem dX12_settle_53 : decode cX12_settle 53 = .ok (.aload_n 0, 1) := by decide +kernel
theorem dX12_settle_54 : decode cX12_settle 54 = .ok (.getfield 160, 3) := by decide +kernel
theorem dX12_settle_57 : decode cX12_settle 57 = .ok (.iaload, 1) := by decide +kernel
theorem dX12_settle_58 : decode cX12_settle 58 = .ok (.invokestatic 163, 3) := by decide +kernel
theorem dX12_settle_61 : decode cX12_settle 61 = .ok (.bipush 7, 2) := by decide +kernel
theorem dX12_settle_63 : decode cX12_settle 63 = .ok (.if_icmp .eq 17, 3) := by decide +kernel
theorem dX12_settle_66 : decode cX12_settle 66 = .ok (.aload_n 0, 1) := by decide +kernel
theorem dX12_settle_67 : decode cX12_settle 67 = .ok (.getfield 29, 3) := by decide +kernel
theorem dX12_settle_70 : decode cX12_settle 70 = .ok (.aload_n 0, 1) := by decide +kernel
theorem dX12_settle_71 : decode cX12_settle 71 = .ok (.getfield 160, 3) := by decide +kernel
theorem dX12_settle_74 : decode cX12_settle 74 = .ok (.iaload, 1) := by decide +kernel
theorem dX12_settle_75 : decode cX12_settle 75 = .ok (.bipush 20, 2) := by decide +kernel
theorem dX12_settle_77 : decode cX12_settle 77 = .ok (.if_icmp .ne (-77), 3) := by decide +kernel
theorem dX12_settle_80 : decode cX12_settle 80 = .ok (.aload_n 0, 1) := by decide +kernel
theorem dX12_settle_81 : decode cX12_settle 81 = .ok (.dup, 1) := by decide +kernel
theorem dX12_settle_82 : decode cX12_settle 82 = .ok (.getfield 170, 3) := by decide +kernel
theorem dX12_settle_85 : decode cX12_settle 85 = .ok (.iconst 1, 1) := by decide +kernel
theorem dX12_settle_86 : decode cX12_settle 86 = .ok (.isub, 1) := by decide +kernel
theorem dX12_settle_87 : decode cX12_settle 87 = .ok (.putfield 170, 3) := by decide +kernel
theorem dX12_settle_90 : decode cX12_settle 90 = .ok (.goto (-90), 3) := by decide +kernel
theorem dX12_settle_93 : decode cX12_settle 93 = .ok (.return_, 1) := by decide +kernel
theorem dX12_openAt_0 : decode cX12_openAt 0 = .ok (.aload_n 0, 1) := by decide +kernel
theorem dX12_openAt_1 : decode cX12_openAt 1 = .ok (.getfield 160, 3) := by decide +kernel
theorem dX12_openAt_4 : decode cX12_openAt 4 = .ok (.iconst 1, 1) := by decide +kernel
theorem dX12_openAt_5 : decode cX12_openAt 5 = .ok (.isub, 1) := by decide +kernel
theorem dX12_openAt_6 : decode cX12_openAt 6 = .ok (.istore_n 1, 1) := by decide +kernel
theorem dX12_openAt_7 : decode cX12_openAt 7 = .ok (.iload_n 1, 1) := by decide +kernel
theorem dX12_openAt_8 : decode cX12_openAt 8 = .ok (.ifCond .lt 20, 3) := by decide +kernel
theorem dX12_openAt_11 : decode cX12_openAt 11 = .ok (.aload_n 0, 1) := by decide +kernel
theorem dX12_openAt_12 : decode cX12_openAt 12 = .ok (.getfield 29, 3) := by decide +kernel
theorem dX12_openAt_15 : decode cX12_openAt 15 = .ok (.iload_n 1, 1) := by decide +kernel
theorem dX12_openAt_16 : decode cX12_openAt 16 = .ok (.iaload, 1) := by decide +kernel
theorem dX12_openAt_17 : decode cX12_openAt 17 = .ok (.bipush 40, 2) := by decide +kernel
theorem dX12_openAt_19 : decode cX12_openAt 19 = .ok (.if_icmp .ge 9, 3) := by decide +kernel
theorem dX12_openAt_22 : decode cX12_openAt 22 = .ok (.iinc 1 (-1), 3) := by decide +kernel
theorem dX12_openAt_25 : decode cX12_openAt 25 = .ok (.goto (-18), 3) := by decide +kernel
theorem dX12_openAt_28 : decode cX12_openAt 28 = .ok (.iload_n 1, 1) := by decide +kernel
theorem dX12_openAt_29 : decode cX12_openAt 29 = .ok (.ireturn, 1) := by decide +kernel
theorem dX12_openNow_0 : decode cX12_openNow 0 = .ok (.aload_n 0, 1) := by decide +kernel
theorem dX12_openNow_1 : decode cX12_openNow 1 = .ok (.invokevirtual 173, 3) := by decide +kernel
theorem dX12_openNow_4 : decode cX12_openNow 4 = .ok (.ifCond .ge 7, 3) := by decide +kernel
theorem dX12_openNow_7 : decode cX12_openNow 7 = .ok (.iconst (-1), 1) := by decide +kernel
theorem dX12_openNow_8 : decode cX12_openNow 8 = .ok (.goto 12, 3) := by decide +kernel
theorem dX12_openNow_11 : decode cX12_openNow 11 = .ok (.aload_n 0, 1) := by decide +kernel
theorem dX12_openNow_12 : decode cX12_openNow 12 = .ok (.getfield 29, 3) := by decide +kernel
theorem dX12_openNow_15 : decode cX12_openNow 15 = .ok (.aload_n 0, 1) := by decide +kernel
theorem dX12_openNow_16 : decode cX12_openNow 16 = .ok (.invokevirtual 173, 3) := by decide +kernel
theorem dX12_openNow_19 : decode cX12_openNow 19 = .ok (.iaload, 1) := by decide +kernel
theorem dX12_openNow_20 : decode cX12_openNow 20 = .ok (.ireturn, 1) := by decide +kernel
theorem dX12_isCompared_0 : decode cX12_isCompared 0 = .ok (.aload_n 0, 1) := by decide +kernel
theorem dX12_isCompared_1 : decode cX12_isCompared 1 = .ok (.getfield 160, 3) := by decide +kernel
theorem dX12_isCompared_4 : decode cX12_isCompared 4 = .ok (.iconst 1, 1) := by decide +kernel
theorem dX12_isCompared_5 : decode cX12_isCompared 5 = .ok (.isub, 1) := by decide +kernel
theorem dX12_isCompared_6 : decode cX12_isCompared 6 = .ok (.istore_n 1, 1) := by decide +kernel
theorem dX12_isCompared_7 : decode cX12_isCompared 7 = .ok (.iload_n 1, 1) := by decide +kernel
theorem dX12_isCompared_8 : decode cX12_isCompared 8 = .ok (.ifCond .lt 22, 3) := by decide +kernel
theorem dX12_isCompared_11 : decode cX12_isCompared 11 = .ok (.aload_n 0, 1) := by decide +kernel
theorem dX12_isCompared_12 : decode cX12_isCompared 12 = .ok (.getfield 29, 3) := by decide +kernel
theorem dX12_isCompared_15 : decode cX12_isCompared 15 = .ok (.iload_n 1, 1) := by decide +kernel
theorem dX12_isCompared_16 : decode cX12_isCompared 16 = .ok (.iaload, 1) := by decide +kernel
theorem dX12_isCompared_17 : decode cX12_isCompared 17 = .ok (.invokestatic 163, 3) := by decide +kernel
theorem dX12_isCompared_20 : decode cX12_isCompared 20 = .ok (.iconst 4, 1) := by decide +kernel
theorem dX12_isCompared_21 : decode cX12_isCompared 21 = .ok (.if_icmp .le 9, 3) := by decide +kernel
theorem dX12_isCompared_24 : decode cX12_isCompared 24 = .ok (.iinc 1 (-1), 3) := by decide +kernel
theorem dX12_isCompared_27 : decode cX12_isCompared 27 = .ok (.goto (-20), 3) := by decide +kernel
theorem dX12_isCompared_30 : decode cX12_isCompared 30 = .ok (.iload_n 1, 1) := by decide +kernel
theorem dX12_isCompared_31 : decode cX12_isCompared 31 = .ok (.ifCond .lt 20, 3) := by decide +kernel
theorem dX12_isCompared_34 : decode cX12_isCompared 34 = .ok (.aload_n 0, 1) := by decide +kernel
theorem dX12_isCompared_35 : decode cX12_isCompared 35 = .ok (.getfield 29, 3) := by decide +kernel
theorem dX12_isCompared_38 : decode cX12_isCompared 38 = .ok (.iload_n 1, 1) := by decide +kernel
theorem dX12_isCompared_39 : decode cX12_isCompared 39 = .ok (.iaload, 1) := by decide +kernel
theorem dX12_isCompared_40 : decode cX12_isCompared 40 = .ok (.invokestatic 163, 3) := by decide +kernel
theorem dX12_isCompared_43 : decode cX12_isCompared 43 = .ok (.iconst 4, 1) := by decide +kernel
theorem dX12_isCompared_44 : decode cX12_isCompared 44 = .ok (.if_icmp .ne 7, 3) := by decide +kernel
theorem dX12_isCompared_47 : decode cX12_isCompared 47 = .ok (.iconst 1, 1) := by decide +kernel
theorem dX12_isCompared_48 : decode cX12_isCompared 48 = .ok (.goto 4, 3) := by decide +kernel
theorem dX12_isCompared_51 : decode cX12_isCompared 51 = .ok (.iconst 0, 1) := by decide +kernel
theorem dX12_isCompared_52 : decode cX12_isCompared 52 = .ok (.ireturn, 1) := by decide +kernel
theorem dX12_isAskAhead_0 : decode cX12_isAskAhead 0 = .ok (.aload_n 0, 1) := by decide +kernel
theorem dX12_isAskAhead_1 : decode cX12_isAskAhead 1 = .ok (.invokevirtual 177, 3) := by decide +kernel
theorem dX12_isAskAhead_4 : decode cX12_isAskAhead 4 = .ok (.bipush 42, 2) := by decide +kernel
theorem dX12_isAskAhead_6 : decode cX12_isAskAhead 6 = .ok (.if_icmp .ne 45, 3) := by decide +kernel
theorem dX12_isAskAhead_9 : decode cX12_isAskAhead 9 = .ok (.aload_n 0, 1) := by decide +kernel
theorem dX12_isAskAhead_10 : decode cX12_isAskAhead 10 = .ok (.getfield 29, 3) := by decide +kernel
theorem dX12_isAskAhead_13 : decode cX12_isAskAhead 13 = .ok (.aload_n 0, 1) := by decide +kernel
theorem dX12_isAskAhead_14 : decode cX12_isAskAhead 14 = .ok (.getfield 160, 3) := by decide +kernel
theorem dX12_isAskAhead_17 : decode cX12_isAskAhead 17 = .ok (.iconst 1, 1) := by decide +kernel
theorem dX12_isAskAhead_18 : decode cX12_isAskAhead 18 = .ok (.isub, 1) := by decide +kernel
theorem dX12_isAskAhead_19 : decode cX12_isAskAhead 19 = .ok (.iaload, 1) := by decide +kernel
theorem dX12_isAskAhead_20 : decode cX12_isAskAhead 20 = .ok (.bipush 40, 2) := by decide +kernel
theorem dX12_isAskAhead_22 : decode cX12_isAskAhead 22 = .ok (.if_icmp .ge 25, 3) := by decide +kernel
theorem dX12_isAskAhead_25 : decode cX12_isAskAhead 25 = .ok (.aload_n 0, 1) := by decide +kernel
theorem dX12_isAskAhead_26 : decode cX12_isAskAhead 26 = .ok (.getfield 29, 3) := by decide +kernel
theorem dX12_isAskAhead_29 : decode cX12_isAskAhead 29 = .ok (.aload_n 0, 1) := by decide +kernel
theorem dX12_isAskAhead_30 : decode cX12_isAskAhead 30 = .ok (.getfield 160, 3) := by decide +kernel
theorem dX12_isAskAhead_33 : decode cX12_isAskAhead 33 = .ok (.iconst 1, 1) := by decide +kernel
theorem dX12_isAskAhead_34 : decode cX12_isAskAhead 34 = .ok (.isub, 1) := by decide +kernel
theorem dX12_isAskAhead_35 : decode cX12_isAskAhead 35 = .ok (.iaload, 1) := by decide +kernel
theorem dX12_isAskAhead_36 : decode cX12_isAskAhead 36 = .ok (.invokestatic 163, 3) := by decide +kernel
theorem dX12_isAskAhead_39 : decode cX12_isAskAhead 39 = .ok (.iconst 1, 1) := by decide +kernel
theorem dX12_isAskAhead_40 : decode cX12_isAskAhead 40 = .ok (.iconst 3, 1) := by decide +kernel
theorem dX12_isAskAhead_41 : decode cX12_isAskAhead 41 = .ok (.invokestatic 81, 3) := by decide +kernel
theorem dX12_isAskAhead_44 : decode cX12_isAskAhead 44 = .ok (.ifCond .eq 7, 3) := by decide +kernel
theorem dX12_isAskAhead_47 : decode cX12_isAskAhead 47 = .ok (.iconst 1, 1) := by decide +kernel
theorem dX12_isAskAhead_48 : decode cX12_isAskAhead 48 = .ok (.goto 4, 3) := by decide +kernel
theorem dX12_isAskAhead_51 : decode cX12_isAskAhead 51 = .ok (.iconst 0, 1) := by decide +kernel
theorem dX12_isAskAhead_52 : decode cX12_isAskAhead 52 = .ok (.ireturn, 1) := by decide +kernel
theorem dX12_opened_0 : decode cX12_opened 0 = .ok (.aload_n 0, 1) := by decide +kernel
theorem dX12_opened_1 : decode cX12_opened 1 = .ok (.getfield 170, 3) := by decide +kernel
theorem dX12_opened_4 : decode cX12_opened 4 = .ok (.bipush 8, 2) := by decide +kernel
theorem dX12_opened_6 : decode cX12_opened 6 = .ok (.if_icmp .ne 5, 3) := by decide +kernel
theorem dX12_opened_9 : decode cX12_opened 9 = .ok (.iconst 3, 1) := by decide +kernel
theorem dX12_opened_10 : decode cX12_opened 10 = .ok (.ireturn, 1) := by decide +kernel
theorem dX12_opened_11 : decode cX12_opened 11 = .ok (.aload_n 0, 1) := by decide +kernel
theorem dX12_opened_12 : decode cX12_opened 12 = .ok (.dup, 1) := by decide +kernel
theorem dX12_opened_13 : decode cX12_opened 13 = .ok (.getfield 170, 3) := by decide +kernel
theorem dX12_opened_16 : decode cX12_opened 16 = .ok (.iconst 1, 1) := by decide +kernel
theorem dX12_opened_17 : decode cX12_opened 17 = .ok (.iadd, 1) := by decide +kernel
theorem dX12_opened_18 : decode cX12_opened 18 = .ok (.putfield 170, 3) := by decide +kernel
theorem dX12_opened_21 : decode cX12_opened 21 = .ok (.aload_n 0, 1) := by decide +kernel
theorem dX12_opened_22 : decode cX12_opened 22 = .ok (.getfield 29, 3) := by decide +kernel
theorem dX12_opened_25 : decode cX12_opened 25 = .ok (.aload_n 0, 1) := by decide +kernel
theorem dX12_opened_26 : decode cX12_opened 26 = .ok (.getfield 160, 3) := by decide +kernel
theorem dX12_opened_29 : decode cX12_opened 29 = .ok (.iload_n 1, 1) := by decide +kernel
theorem dX12_opened_30 : decode cX12_opened 30 = .ok (.iastore, 1) := by decide +kernel
theorem dX12_opened_31 : decode cX12_opened 31 = .ok (.aload_n 0, 1) := by decide +kernel
theorem dX12_opened_32 : decode cX12_opened 32 = .ok (.dup, 1) := by decide +kernel
theorem dX12_opened_33 : decode cX12_opened 33 = .ok (.getfield 160, 3) := by decide +kernel
theorem dX12_opened_36 : decode cX12_opened 36 = .ok (.iconst 1, 1) := by decide +kernel
theorem dX12_opened_37 : decode cX12_opened 37 = .ok (.iadd, 1) := by decide +kernel
theorem dX12_opened_38 : decode cX12_opened 38 = .ok (.putfield 160, 3) := by decide +kernel
theorem dX12_opened_41 : decode cX12_opened 41 = .ok (.aload_n 0, 1) := by decide +kernel
theorem dX12_opened_42 : decode cX12_opened 42 = .ok (.invokevirtual 180, 3) := by decide +kernel
theorem dX12_opened_45 : decode cX12_opened 45 = .ok (.iconst 0, 1) := by decide +kernel
theorem dX12_opened_46 : decode cX12_opened 46 = .ok (.ireturn, 1) := by decide +kernel
theorem dX12_beginOne_0 : decode cX12_beginOne 0 = .ok (.aload_n 0, 1) := by decide +kernel
theorem dX12_beginOne_1 : decode cX12_beginOne 1 = .ok (.getfield 113, 3) := by decide +kernel
theorem dX12_beginOne_4 : decode cX12_beginOne 4 = .ok (.iconst 1, 1) := by decide +kernel
theorem dX12_beginOne_5 : decode cX12_beginOne 5 = .ok (.if_icmp .ne 15, 3) := by decide +kernel
theorem dX12_beginOne_8 : decode cX12_beginOne 8 = .ok (.aload_n 0, 1) := by decide +kernel
theorem dX12_beginOne_9 : decode cX12_beginOne 9 = .ok (.getfield 119, 3) := by decide +kernel
theorem dX12_beginOne_12 : decode cX12_beginOne 12 = .ok (.sipush 9999, 3) := by decide +kernel
theorem dX12_beginOne_15 : decode cX12_beginOne 15 = .ok (.if_icmp .le 5, 3) := by decide +kernel
theorem dX12_beginOne_18 : decode cX12_beginOne 18 = .ok (.iconst 2, 1) := by decide +kernel
theorem dX12_beginOne_19 : decode cX12_beginOne 19 = .ok (.ireturn, 1) := by decide +kernel
theorem dX12_beginOne_20 : decode cX12_beginOne 20 = .ok (.aload_n 0, 1) := by decide +kernel
theorem dX12_beginOne_21 : decode cX12_beginOne 21 = .ok (.invokevirtual 183, 3) := by decide +kernel
theorem dX12_beginOne_24 : decode cX12_beginOne 24 = .ok (.istore_n 1, 1) := by decide +kernel
theorem dX12_beginOne_25 : decode cX12_beginOne 25 = .ok (.iload_n 1, 1) := by decide +kernel
theorem dX12_beginOne_26 : decode cX12_beginOne 26 = .ok (.ifCond .lt 13, 3) := by decide +kernel
theorem dX12_beginOne_29 : decode cX12_beginOne 29 = .ok (.aload_n 0, 1) := by decide +kernel
theorem dX12_beginOne_30 : decode cX12_beginOne 30 = .ok (.iload_n 1, 1) := by decide +kernel
theorem dX12_beginOne_31 : decode cX12_beginOne 31 = .ok (.invokevirtual 186, 3) := by decide +kernel
theorem dX12_beginOne_34 : decode cX12_beginOne 34 = .ok (.ifCond .ne 5, 3) := by decide +kernel
theorem dX12_beginOne_37 : decode cX12_beginOne 37 = .ok (.iconst 5, 1) := by decide +kernel
theorem dX12_beginOne_38 : decode cX12_beginOne 38 = .ok (.ireturn, 1) := by decide +kernel
theorem dX12_beginOne_39 : decode cX12_beginOne 39 = .ok (.aload_n 0, 1) := by decide +kernel
theorem dX12_beginOne_40 : decode cX12_beginOne 40 = .ok (.getfield 113, 3) := by decide +kernel
theorem dX12_beginOne_43 : decode cX12_beginOne 43 = .ok (.iconst 1, 1) := by decide +kernel
theorem dX12_beginOne_44 : decode cX12_beginOne 44 = .ok (.if_icmp .eq 7, 3) := by decide +kernel
theorem dX12_beginOne_47 : decode cX12_beginOne 47 = .ok (.iload_n 1, 1) := by decide +kernel
theorem dX12_beginOne_48 : decode cX12_beginOne 48 = .ok (.ifCond .lt 45, 3) := by decide +kernel
theorem dX12_beginOne_51 : decode cX12_beginOne 51 = .ok (.aload_n 0, 1) := by decide +kernel
theorem dX12_beginOne_52 : decode cX12_beginOne 52 = .ok (.aload_n 0, 1) := by decide +kernel
theorem dX12_beginOne_53 : decode cX12_beginOne 53 = .ok (.getfield 113, 3) := by decide +kernel
theorem dX12_beginOne_56 : decode cX12_beginOne 56 = .ok (.iconst 1, 1) := by decide +kernel
theorem dX12_beginOne_57 : decode cX12_beginOne 57 = .ok (.if_icmp .ne 7, 3) := by decide +kernel
theorem dX12_beginOne_60 : decode cX12_beginOne 60 = .ok (.iconst 0, 1) := by decide +kernel
theorem dX12_beginOne_61 : decode cX12_beginOne 61 = .ok (.goto 4, 3) := by decide +kernel
theorem dX12_beginOne_64 : decode cX12_beginOne 64 = .ok (.iconst 1, 1) := by decide +kernel
theorem dX12_beginOne_65 : decode cX12_beginOne 65 = .ok (.aload_n 0, 1) := by decide +kernel
theorem dX12_beginOne_66 : decode cX12_beginOne 66 = .ok (.getfield 113, 3) := by decide +kernel
theorem dX12_beginOne_69 : decode cX12_beginOne 69 = .ok (.iconst 1, 1) := by decide +kernel
theorem dX12_beginOne_70 : decode cX12_beginOne 70 = .ok (.if_icmp .ne 10, 3) := by decide +kernel
theorem dX12_beginOne_73 : decode cX12_beginOne 73 = .ok (.aload_n 0, 1) := by decide +kernel
theorem dX12_beginOne_74 : decode cX12_beginOne 74 = .ok (.getfield 119, 3) := by decide +kernel
theorem dX12_beginOne_77 : decode cX12_beginOne 77 = .ok (.goto 4, 3) := by decide +kernel
theorem dX12_beginOne_80 : decode cX12_beginOne 80 = .ok (.iload_n 1, 1) := by decide +kernel
theorem dX12_beginOne_81 : decode cX12_beginOne 81 = .ok (.invokevirtual 166, 3) := by decide +kernel
theorem dX12_beginOne_84 : decode cX12_beginOne 84 = .ok (.aload_n 0, 1) := by decide +kernel
theorem dX12_beginOne_85 : decode cX12_beginOne 85 = .ok (.invokevirtual 180, 3) := by decide +kernel
theorem dX12_beginOne_88 : decode cX12_beginOne 88 = .ok (.aload_n 0, 1) := by decide +kernel
theorem dX12_beginOne_89 : decode cX12_beginOne 89 = .ok (.invokevirtual 189, 3) := by decide +kernel
theorem dX12_beginOne_92 : decode cX12_beginOne 92 = .ok (.ireturn, 1) := by decide +kernel
theorem dX12_beginOne_93 : decode cX12_beginOne 93 = .ok (.aload_n 0, 1) := by decide +kernel
theorem dX12_beginOne_94 : decode cX12_beginOne 94 = .ok (.getfield 113, 3) := by decide +kernel
theorem dX12_beginOne_97 : decode cX12_beginOne 97 = .ok (.bipush 40, 2) := by decide +kernel
theorem dX12_beginOne_99 : decode cX12_beginOne 99 = .ok (.if_icmp .ne 10, 3) := by decide +kernel
theorem dX12_beginOne_102 : decode cX12_beginOne 102 = .ok (.aload_n 0, 1) := by decide +kernel
theorem dX12_beginOne_103 : decode cX12_beginOne 103 = .ok (.bipush 40, 2) := by decide +kernel
theorem dX12_beginOne_105 : decode cX12_beginOne 105 = .ok (.invokevirtual 192, 3) := by decide +kernel
theorem dX12_beginOne_108 : decode cX12_beginOne 108 = .ok (.ireturn, 1) := by decide +kernel
theorem dX12_beginOne_109 : decode cX12_beginOne 109 = .ok (.aload_n 0, 1) := by decide +kernel
theorem dX12_beginOne_110 : decode cX12_beginOne 110 = .ok (.getfield 113, 3) := by decide +kernel
theorem dX12_beginOne_113 : decode cX12_beginOne 113 = .ok (.bipush 45, 2) := by decide +kernel
theorem dX12_beginOne_115 : decode cX12_beginOne 115 = .ok (.if_icmp .ne 9, 3) := by decide +kernel
theorem dX12_beginOne_118 : decode cX12_beginOne 118 = .ok (.aload_n 0, 1) := by decide +kernel
theorem dX12_beginOne_119 : decode cX12_beginOne 119 = .ok (.iconst 5, 1) := by decide +kernel
theorem dX12_beginOne_120 : decode cX12_beginOne 120 = .ok (.invokevirtual 192, 3) := by decide +kernel
theorem dX12_beginOne_123 : decode cX12_beginOne 123 = .ok (.ireturn, 1) := by decide +kernel
theorem dX12_beginOne_124 : decode cX12_beginOne 124 = .ok (.aload_n 0, 1) := by decide +kernel
theorem dX12_beginOne_125 : decode cX12_beginOne 125 = .ok (.bipush 99, 2) := by decide +kernel
theorem dX12_beginOne_127 : decode cX12_beginOne 127 = .ok (.bipush 111, 2) := by decide +kernel
theorem dX12_beginOne_129 : decode cX12_beginOne 129 = .ok (.bipush 109, 2) := by decide +kernel
theorem dX12_beginOne_131 : decode cX12_beginOne 131 = .ok (.bipush 109, 2) := by decide +kernel
theorem dX12_beginOne_133 : decode cX12_beginOne 133 = .ok (.bipush 111, 2) := by decide +kernel
theorem dX12_beginOne_135 : decode cX12_beginOne 135 = .ok (.bipush 110, 2) := by decide +kernel
theorem dX12_beginOne_137 : decode cX12_beginOne 137 = .ok (.invokestatic 195, 3) := by decide +kernel
theorem dX12_beginOne_140 : decode cX12_beginOne 140 = .ok (.invokevirtual 199, 3) := by decide +kernel
theorem dX12_beginOne_143 : decode cX12_beginOne 143 = .ok (.ifCond .eq 10, 3) := by decide +kernel
theorem dX12_beginOne_146 : decode cX12_beginOne 146 = .ok (.aload_n 0, 1) := by decide +kernel
theorem dX12_beginOne_147 : decode cX12_beginOne 147 = .ok (.bipush 41, 2) := by decide +kernel
theorem dX12_beginOne_149 : decode cX12_beginOne 149 = .ok (.invokevirtual 192, 3) := by decide +kernel
theorem dX12_beginOne_152 : decode cX12_beginOne 152 = .ok (.ireturn, 1) := by decide +kernel
theorem dX12_beginOne_153 : decode cX12_beginOne 153 = .ok (.aload_n 0, 1) := by decide +kernel
theorem dX12_beginOne_154 : decode cX12_beginOne 154 = .ok (.bipush 114, 2) := by decide +kernel
theorem dX12_beginOne_156 : decode cX12_beginOne 156 = .ok (.bipush 111, 2) := by decide +kernel
theorem dX12_beginOne_158 : decode cX12_beginOne 158 = .ok (.bipush 97, 2) := by decide +kernel
theorem dX12_beginOne_160 : decode cX12_beginOne 160 = .ok (.bipush 100, 2) := by decide +kernel
theorem dX12_beginOne_162 : decode cX12_beginOne 162 = .ok (.bipush 115, 2) := by decide +kernel
theorem dX12_beginOne_164 : decode cX12_beginOne 164 = .ok (.invokestatic 147, 3) := by decide +kernel
theorem dX12_beginOne_167 : decode cX12_beginOne 167 = .ok (.invokevirtual 199, 3) := by decide +kernel
theorem dX12_beginOne_170 : decode cX12_beginOne 170 = .ok (.ifCond .eq 9, 3) := by decide +kernel
theorem dX12_beginOne_173 : decode cX12_beginOne 173 = .ok (.aload_n 0, 1) := by decide +kernel
theorem dX12_beginOne_174 : decode cX12_beginOne 174 = .ok (.iconst 2, 1) := by decide +kernel
theorem dX12_beginOne_175 : decode cX12_beginOne 175 = .ok (.invokevirtual 192, 3) := by decide +kernel
theorem dX12_beginOne_178 : decode cX12_beginOne 178 = .ok (.ireturn, 1) := by decide +kernel
theorem dX12_beginOne_179 : decode cX12_beginOne 179 = .ok (.aload_n 0, 1) := by decide +kernel
theorem dX12_beginOne_180 : decode cX12_beginOne 180 = .ok (.bipush 105, 2) := by decide +kernel
theorem dX12_beginOne_182 : decode cX12_beginOne 182 = .ok (.bipush 102, 2) := by decide +kernel
theorem dX12_beginOne_184 : decode cX12_beginOne 184 = .ok (.invokestatic 135, 3) := by decide +kernel
theorem dX12_beginOne_187 : decode cX12_beginOne 187 = .ok (.invokevirtual 199, 3) := by decide +kernel
theorem dX12_beginOne_190 : decode cX12_beginOne 190 = .ok (.ifCond .eq 10, 3) := by decide +kernel
theorem dX12_beginOne_193 : decode cX12_beginOne 193 = .ok (.aload_n 0, 1) := by decide +kernel
theorem dX12_beginOne_194 : decode cX12_beginOne 194 = .ok (.bipush 42, 2) := by decide +kernel
theorem dX12_beginOne_196 : decode cX12_beginOne 196 = .ok (.invokevirtual 192, 3) := by decide +kernel
theorem dX12_beginOne_199 : decode cX12_beginOne 199 = .ok (.ireturn, 1) := by decide +kernel
theorem dX12_beginOne_200 : decode cX12_beginOne 200 = .ok (.aload_n 0, 1) := by decide +kernel
theorem dX12_beginOne_201 : decode cX12_beginOne 201 = .ok (.bipush 110, 2) := by decide +kernel
theorem dX12_beginOne_203 : decode cX12_beginOne 203 = .ok (.bipush 111, 2) := by decide +kernel
theorem dX12_beginOne_205 : decode cX12_beginOne 205 = .ok (.bipush 116, 2) := by decide +kernel
theorem dX12_beginOne_207 : decode cX12_beginOne 207 = .ok (.invokestatic 139, 3) := by decide +kernel
theorem dX12_beginOne_210 : decode cX12_beginOne 210 = .ok (.invokevirtual 199, 3) := by decide +kernel
theorem dX12_beginOne_213 : decode cX12_beginOne 213 = .ok (.ifCond .eq 19, 3) := by decide +kernel
theorem dX12_beginOne_216 : decode cX12_beginOne 216 = .ok (.aload_n 0, 1) := by decide +kernel
theorem dX12_beginOne_217 : decode cX12_beginOne 217 = .ok (.invokevirtual 203, 3) := by decide +kernel
theorem dX12_beginOne_220 : decode cX12_beginOne 220 = .ok (.ifCond .eq 12, 3) := by decide +kernel
theorem dX12_beginOne_223 : decode cX12_beginOne 223 = .ok (.aload_n 0, 1) := by decide +kernel
theorem dX12_beginOne_224 : decode cX12_beginOne 224 = .ok (.bipush 20, 2) := by decide +kernel
theorem dX12_beginOne_226 : decode cX12_beginOne 226 = .ok (.invokevirtual 192, 3) := by decide +kernel
theorem dX12_beginOne_229 : decode cX12_beginOne 229 = .ok (.goto 4, 3) := by decide +kernel
theorem dX12_beginOne_232 : decode cX12_beginOne 232 = .ok (.iconst 1, 1) := by decide +kernel
theorem dX12_beginOne_233 : decode cX12_beginOne 233 = .ok (.ireturn, 1) := by decide +kernel
theorem dX12_endOne_0 : decode cX12_endOne 0 = .ok (.aload_n 0, 1) := by decide +kernel
theorem dX12_endOne_1 : decode cX12_endOne 1 = .ok (.bipush 7, 2) := by decide +kernel
theorem dX12_endOne_3 : decode cX12_endOne 3 = .ok (.invokevirtual 207, 3) := by decide +kernel
theorem dX12_endOne_6 : decode cX12_endOne 6 = .ok (.aload_n 0, 1) := by decide +kernel
theorem dX12_endOne_7 : decode cX12_endOne 7 = .ok (.iconst 1, 1) := by decide +kernel
theorem dX12_endOne_8 : decode cX12_endOne 8 = .ok (.putfield 210, 3) := by decide +kernel
theorem dX12_endOne_11 : decode cX12_endOne 11 = .ok (.aload_n 0, 1) := by decide +kernel
theorem dX12_endOne_12 : decode cX12_endOne 12 = .ok (.getfield 160, 3) := by decide +kernel
theorem dX12_endOne_15 : decode cX12_endOne 15 = .ok (.ifCond .eq 19, 3) := by decide +kernel
theorem dX12_endOne_18 : decode cX12_endOne 18 = .ok (.aload_n 0, 1) := by decide +kernel
theorem dX12_endOne_19 : decode cX12_endOne 19 = .ok (.getfield 29, 3) := by decide +kernel
theorem dX12_endOne_22 : decode cX12_endOne 22 = .ok (.aload_n 0, 1) := by decide +kernel
theorem dX12_endOne_23 : decode cX12_endOne 23 = .ok (.getfield 160, 3) := by decide +kernel
theorem dX12_endOne_26 : decode cX12_endOne 26 = .ok (.iconst 1, 1) := by decide +kernel
theorem dX12_endOne_27 : decode cX12_endOne 27 = .ok (.isub, 1) := by decide +kernel
theorem dX12_endOne_28 : decode cX12_endOne 28 = .ok (.iaload, 1) := by decide +kernel
theorem dX12_endOne_29 : decode cX12_endOne 29 = .ok (.bipush 41, 2) := by decide +kernel
theorem dX12_endOne_31 : decode cX12_endOne 31 = .ok (.if_icmp .eq 5, 3) := by decide +kernel
theorem dX12_endOne_34 : decode cX12_endOne 34 = .ok (.iconst 0, 1) := by decide +kernel
theorem dX12_endOne_35 : decode cX12_endOne 35 = .ok (.ireturn, 1) := by decide +kernel
theorem dX12_endOne_36 : decode cX12_endOne 36 = .ok (.aload_n 0, 1) := by decide +kernel
theorem dX12_endOne_37 : decode cX12_endOne 37 = .ok (.bipush 111, 2) := by decide +kernel
theorem dX12_endOne_39 : decode cX12_endOne 39 = .ok (.bipush 102, 2) := by decide +kernel
theorem dX12_endOne_41 : decode cX12_endOne 41 = .ok (.invokestatic 135, 3) := by decide +kernel
theorem dX12_endOne_44 : decode cX12_endOne 44 = .ok (.invokevirtual 199, 3) := by decide +kernel
theorem dX12_endOne_47 : decode cX12_endOne 47 = .ok (.ifCond .ne 5, 3) := by decide +kernel
theorem dX12_endOne_50 : decode cX12_endOne 50 = .ok (.iconst 1, 1) := by decide +kernel
theorem dX12_endOne_51 : decode cX12_endOne 51 = .ok (.ireturn, 1) := by decide +kernel
theorem dX12_endOne_52 : decode cX12_endOne 52 = .ok (.aload_n 0, 1) := by decide +kernel
theorem dX12_endOne_53 : decode cX12_endOne 53 = .ok (.invokevirtual 180, 3) := by decide +kernel
theorem dX12_endOne_56 : decode cX12_endOne 56 = .ok (.aload_n 0, 1) := by decide +kernel
theorem dX12_endOne_57 : decode cX12_endOne 57 = .ok (.getfield 29, 3) := by decide +kernel
theorem dX12_endOne_60 : decode cX12_endOne 60 = .ok (.aload_n 0, 1) := by decide +kernel
theorem dX12_endOne_61 : decode cX12_endOne 61 = .ok (.getfield 160, 3) := by decide +kernel
theorem dX12_endOne_64 : decode cX12_endOne 64 = .ok (.iconst 1, 1) := by decide +kernel
theorem dX12_endOne_65 : decode cX12_endOne 65 = .ok (.isub, 1) := by decide +kernel
theorem dX12_endOne_66 : decode cX12_endOne 66 = .ok (.iconst 4, 1) := by decide +kernel
theorem dX12_endOne_67 : decode cX12_endOne 67 = .ok (.iastore, 1) := by decide +kernel
theorem dX12_endOne_68 : decode cX12_endOne 68 = .ok (.aload_n 0, 1) := by decide +kernel
theorem dX12_endOne_69 : decode cX12_endOne 69 = .ok (.iconst 0, 1) := by decide +kernel
theorem dX12_endOne_70 : decode cX12_endOne 70 = .ok (.putfield 210, 3) := by decide +kernel
theorem dX12_endOne_73 : decode cX12_endOne 73 = .ok (.iconst 0, 1) := by decide +kernel
theorem dX12_endOne_74 : decode cX12_endOne 74 = .ok (.ireturn, 1) := by decide +kernel
theorem dX12_compareOf_0 : decode cX12_compareOf 0 = .ok (.aload_n 0, 1) := by decide +kernel
theorem dX12_compareOf_1 : decode cX12_compareOf 1 = .ok (.getfield 113, 3) := by decide +kernel
theorem dX12_compareOf_4 : decode cX12_compareOf 4 = .ok (.bipush 60, 2) := by decide +kernel
theorem dX12_compareOf_6 : decode cX12_compareOf 6 = .ok (.if_icmp .ne 8, 3) := by decide +kernel
theorem dX12_compareOf_9 : decode cX12_compareOf 9 = .ok (.bipush 10, 2) := by decide +kernel
theorem dX12_compareOf_11 : decode cX12_compareOf 11 = .ok (.goto 72, 3) := by decide +kernel
theorem dX12_compareOf_14 : decode cX12_compareOf 14 = .ok (.aload_n 0, 1) := by decide +kernel
theorem dX12_compareOf_15 : decode cX12_compareOf 15 = .ok (.getfield 113, 3) := by decide +kernel
theorem dX12_compareOf_18 : decode cX12_compareOf 18 = .ok (.iconst 4, 1) := by decide +kernel
theorem dX12_compareOf_19 : decode cX12_compareOf 19 = .ok (.if_icmp .ne 8, 3) := by decide +kernel
theorem dX12_compareOf_22 : decode cX12_compareOf 22 = .ok (.bipush 11, 2) := by decide +kernel
theorem dX12_compareOf_24 : decode cX12_compareOf 24 = .ok (.goto 59, 3) := by decide +kernel
theorem dX12_compareOf_27 : decode cX12_compareOf 27 = .ok (.aload_n 0, 1) := by decide +kernel
theorem dX12_compareOf_28 : decode cX12_compareOf 28 = .ok (.getfield 113, 3) := by decide +kernel
theorem dX12_compareOf_31 : decode cX12_compareOf 31 = .ok (.bipush 62, 2) := by decide +kernel
theorem dX12_compareOf_33 : decode cX12_compareOf 33 = .ok (.if_icmp .ne 8, 3) := by decide +kernel
theorem dX12_compareOf_36 : decode cX12_compareOf 36 = .ok (.bipush 12, 2) := by decide +kernel
theorem dX12_compareOf_38 : decode cX12_compareOf 38 = .ok (.goto 45, 3) := by decide +kernel
theorem dX12_compareOf_41 : decode cX12_compareOf 41 = .ok (.aload_n 0, 1) := by decide +kernel
theorem dX12_compareOf_42 : decode cX12_compareOf 42 = .ok (.getfield 113, 3) := by decide +kernel
theorem dX12_compareOf_45 : decode cX12_compareOf 45 = .ok (.iconst 5, 1) := by decide +kernel
theorem dX12_compareOf_46 : decode cX12_compareOf 46 = .ok (.if_icmp .ne 8, 3) := by decide +kernel
theorem dX12_compareOf_49 : decode cX12_compareOf 49 = .ok (.bipush 13, 2) := by decide +kernel
theorem dX12_compareOf_51 : decode cX12_compareOf 51 = .ok (.goto 32, 3) := by decide +kernel
theorem dX12_compareOf_54 : decode cX12_compareOf 54 = .ok (.aload_n 0, 1) := by decide +kernel
theorem dX12_compareOf_55 : decode cX12_compareOf 55 = .ok (.getfield 113, 3) := by decide +kernel
theorem dX12_compareOf_58 : decode cX12_compareOf 58 = .ok (.bipush 61, 2) := by decide +kernel
theorem dX12_compareOf_60 : decode cX12_compareOf 60 = .ok (.if_icmp .ne 8, 3) := by decide +kernel
theorem dX12_compareOf_63 : decode cX12_compareOf 63 = .ok (.bipush 14, 2) := by decide +kernel
theorem dX12_compareOf_65 : decode cX12_compareOf 65 = .ok (.goto 18, 3) := by decide +kernel
theorem dX12_compareOf_68 : decode cX12_compareOf 68 = .ok (.aload_n 0, 1) := by decide +kernel
theorem dX12_compareOf_69 : decode cX12_compareOf 69 = .ok (.getfield 113, 3) := by decide +kernel
theorem dX12_compareOf_72 : decode cX12_compareOf 72 = .ok (.bipush 35, 2) := by decide +kernel
theorem dX12_compareOf_74 : decode cX12_compareOf 74 = .ok (.if_icmp .ne 8, 3) := by decide +kernel
theorem dX12_compareOf_77 : decode cX12_compareOf 77 = .ok (.bipush 15, 2) := by decide +kernel
theorem dX12_compareOf_79 : decode cX12_compareOf 79 = .ok (.goto 4, 3) := by decide +kernel
theorem dX12_compareOf_82 : decode cX12_compareOf 82 = .ok (.iconst (-1), 1) := by decide +kernel
theorem dX12_compareOf_83 : decode cX12_compareOf 83 = .ok (.ireturn, 1) := by decide +kernel
theorem dX12_betweenOf_0 : decode cX12_betweenOf 0 = .ok (.aload_n 0, 1) := by decide +kernel
theorem dX12_betweenOf_1 : decode cX12_betweenOf 1 = .ok (.getfield 113, 3) := by decide +kernel
theorem dX12_betweenOf_4 : decode cX12_betweenOf 4 = .ok (.bipush 43, 2) := by decide +kernel
theorem dX12_betweenOf_6 : decode cX12_betweenOf 6 = .ok (.if_icmp .ne 6, 3) := by decide +kernel
theorem dX12_betweenOf_9 : decode cX12_betweenOf 9 = .ok (.bipush 6, 2) := by decide +kernel
theorem dX12_betweenOf_11 : decode cX12_betweenOf 11 = .ok (.ireturn, 1) := by decide +kernel
theorem dX12_betweenOf_12 : decode cX12_betweenOf 12 = .ok (.aload_n 0, 1) := by decide +kernel
theorem dX12_betweenOf_13 : decode cX12_betweenOf 13 = .ok (.getfield 113, 3) := by decide +kernel
theorem dX12_betweenOf_16 : decode cX12_betweenOf 16 = .ok (.bipush 45, 2) := by decide +kernel
theorem dX12_betweenOf_18 : decode cX12_betweenOf 18 = .ok (.if_icmp .ne 6, 3) := by decide +kernel
theorem dX12_betweenOf_21 : decode cX12_betweenOf 21 = .ok (.bipush 7, 2) := by decide +kernel
theorem dX12_betweenOf_23 : decode cX12_betweenOf 23 = .ok (.ireturn, 1) := by decide +kernel
theorem dX12_betweenOf_24 : decode cX12_betweenOf 24 = .ok (.aload_n 0, 1) := by decide +kernel
theorem dX12_betweenOf_25 : decode cX12_betweenOf 25 = .ok (.getfield 113, 3) := by decide +kernel
theorem dX12_betweenOf_28 : decode cX12_betweenOf 28 = .ok (.bipush 42, 2) := by decide +kernel
theorem dX12_betweenOf_30 : decode cX12_betweenOf 30 = .ok (.if_icmp .ne 6, 3) := by decide +kernel
theorem dX12_betweenOf_33 : decode cX12_betweenOf 33 = .ok (.bipush 8, 2) := by decide +kernel
theorem dX12_betweenOf_35 : decode cX12_betweenOf 35 = .ok (.ireturn, 1) := by decide +kernel
theorem dX12_betweenOf_36 : decode cX12_betweenOf 36 = .ok (.aload_n 0, 1) := by decide +kernel
theorem dX12_betweenOf_37 : decode cX12_betweenOf 37 = .ok (.getfield 113, 3) := by decide +kernel
theorem dX12_betweenOf_40 : decode cX12_betweenOf 40 = .ok (.bipush 47, 2) := by decide +kernel
theorem dX12_betweenOf_42 : decode cX12_betweenOf 42 = .ok (.if_icmp .ne 6, 3) := by decide +kernel
theorem dX12_betweenOf_45 : decode cX12_betweenOf 45 = .ok (.bipush 9, 2) := by decide +kernel
theorem dX12_betweenOf_47 : decode cX12_betweenOf 47 = .ok (.ireturn, 1) := by decide +kernel
theorem dX12_betweenOf_48 : decode cX12_betweenOf 48 = .ok (.aload_n 0, 1) := by decide +kernel
theorem dX12_betweenOf_49 : decode cX12_betweenOf 49 = .ok (.invokevirtual 177, 3) := by decide +kernel
theorem dX12_betweenOf_52 : decode cX12_betweenOf 52 = .ok (.bipush 42, 2) := by decide +kernel
theorem dX12_betweenOf_54 : decode cX12_betweenOf 54 = .ok (.if_icmp .eq 5, 3) := by decide +kernel
theorem dX12_betweenOf_57 : decode cX12_betweenOf 57 = .ok (.iconst (-1), 1) := by decide +kernel
theorem dX12_betweenOf_58 : decode cX12_betweenOf 58 = .ok (.ireturn, 1) := by decide +kernel
theorem dX12_betweenOf_59 : decode cX12_betweenOf 59 = .ok (.aload_n 0, 1) := by decide +kernel
theorem dX12_betweenOf_60 : decode cX12_betweenOf 60 = .ok (.invokevirtual 213, 3) := by decide +kernel
theorem dX12_betweenOf_63 : decode cX12_betweenOf 63 = .ok (.ifCond .ne 8, 3) := by decide +kernel
theorem dX12_betweenOf_66 : decode cX12_betweenOf 66 = .ok (.aload_n 0, 1) := by decide +kernel
theorem dX12_betweenOf_67 : decode cX12_betweenOf 67 = .ok (.invokevirtual 216, 3) := by decide +kernel
theorem dX12_betweenOf_70 : decode cX12_betweenOf 70 = .ok (.ireturn, 1) := by decide +kernel
theorem dX12_betweenOf_71 : decode cX12_betweenOf 71 = .ok (.aload_n 0, 1) := by decide +kernel
theorem dX12_betweenOf_72 : decode cX12_betweenOf 72 = .ok (.bipush 97, 2) := by decide +kernel
theorem dX12_betweenOf_74 : decode cX12_betweenOf 74 = .ok (.bipush 110, 2) := by decide +kernel
theorem dX12_betweenOf_76 : decode cX12_betweenOf 76 = .ok (.bipush 100, 2) := by decide +kernel
theorem dX12_betweenOf_78 : decode cX12_betweenOf 78 = .ok (.invokestatic 139, 3) := by decide +kernel
theorem dX12_betweenOf_81 : decode cX12_betweenOf 81 = .ok (.invokevirtual 199, 3) := by decide +kernel
theorem dX12_betweenOf_84 : decode cX12_betweenOf 84 = .ok (.ifCond .eq 8, 3) := by decide +kernel
theorem dX12_betweenOf_87 : decode cX12_betweenOf 87 = .ok (.bipush 21, 2) := by decide +kernel
theorem dX12_betweenOf_89 : decode cX12_betweenOf 89 = .ok (.goto 23, 3) := by decide +kernel
theorem dX12_betweenOf_92 : decode cX12_betweenOf 92 = .ok (.aload_n 0, 1) := by decide +kernel
theorem dX12_betweenOf_93 : decode cX12_betweenOf 93 = .ok (.bipush 111, 2) := by decide +kernel
theorem dX12_betweenOf_95 : decode cX12_betweenOf 95 = .ok (.bipush 114, 2) := by decide +kernel
theorem dX12_betweenOf_97 : decode cX12_betweenOf 97 = .ok (.invokestatic 135, 3) := by decide +kernel
theorem dX12_betweenOf_100 : decode cX12_betweenOf 100 = .ok (.invokevirtual 199, 3) := by decide +kernel
theorem dX12_betweenOf_103 : decode cX12_betweenOf 103 = .ok (.ifCond .eq 8, 3) := by decide +kernel
theorem dX12_betweenOf_106 : decode cX12_betweenOf 106 = .ok (.bipush 22, 2) := by decide +kernel
theorem dX12_betweenOf_108 : decode cX12_betweenOf 108 = .ok (.goto 4, 3) := by decide +kernel
theorem dX12_betweenOf_111 : decode cX12_betweenOf 111 = .ok (.iconst (-1), 1) := by decide +kernel
theorem dX12_betweenOf_112 : decode cX12_betweenOf 112 = .ok (.ireturn, 1) := by decide +kernel
theorem dX12_partOf_0 : decode cX12_partOf 0 = .ok (.iload_n 1, 1) := by decide +kernel
theorem dX12_partOf_1 : decode cX12_partOf 1 = .ok (.tableswitch 129 40 44 #[35, 129, 50, 82, 107], 35) := by decide +kernel
theorem dX12_partOf_36 : decode cX12_partOf 36 = .ok (.aload_n 0, 1) := by decide +kernel
theorem dX12_partOf_37 : decode cX12_partOf 37 = .ok (.getfield 113, 3) := by decide +kernel
theorem dX12_partOf_40 : decode cX12_partOf 40 = .ok (.bipush 41, 2) := by decide +kernel
theorem dX12_partOf_42 : decode cX12_partOf 42 = .ok (.if_icmp .ne 7, 3) := by decide +kernel
theorem dX12_partOf_45 : decode cX12_partOf 45 = .ok (.iconst 0, 1) := by decide +kernel
theorem dX12_partOf_46 : decode cX12_partOf 46 = .ok (.goto 4, 3) := by decide +kernel
theorem dX12_partOf_49 : decode cX12_partOf 49 = .ok (.iconst (-1), 1) := by decide +kernel
theorem dX12_partOf_50 : decode cX12_partOf 50 = .ok (.ireturn, 1) := by decide +kernel
theorem dX12_partOf_51 : decode cX12_partOf 51 = .ok (.aload_n 0, 1) := by decide +kernel
theorem dX12_partOf_52 : decode cX12_partOf 52 = .ok (.bipush 116, 2) := by decide +kernel
theorem dX12_partOf_54 : decode cX12_partOf 54 = .ok (.bipush 104, 2) := by decide +kernel
theorem dX12_partOf_56 : decode cX12_partOf 56 = .ok (.bipush 101, 2) := by decide +kernel
theorem dX12_partOf_58 : decode cX12_partOf 58 = .ok (.bipush 110, 2) := by decide +kernel
theorem dX12_partOf_60 : decode cX12_partOf 60 = .ok (.invokestatic 143, 3) := by decide +kernel
theorem dX12_partOf_63 : decode cX12_partOf 63 = .ok (.invokevirtual 199, 3) := by decide +kernel
theorem dX12_partOf_66 : decode cX12_partOf 66 = .ok (.ifCond .eq 15, 3) := by decide +kernel
theorem dX12_partOf_69 : decode cX12_partOf 69 = .ok (.aload_n 0, 1) := by decide +kernel
theorem dX12_partOf_70 : decode cX12_partOf 70 = .ok (.invokevirtual 213, 3) := by decide +kernel
theorem dX12_partOf_73 : decode cX12_partOf 73 = .ok (.ifCond .eq 8, 3) := by decide +kernel
theorem dX12_partOf_76 : decode cX12_partOf 76 = .ok (.bipush 43, 2) := by decide +kernel
theorem dX12_partOf_78 : decode cX12_partOf 78 = .ok (.goto 4, 3) := by decide +kernel
theorem dX12_partOf_81 : decode cX12_partOf 81 = .ok (.iconst (-1), 1) := by decide +kernel
theorem dX12_partOf_82 : decode cX12_partOf 82 = .ok (.ireturn, 1) := by decide +kernel
theorem dX12_partOf_83 : decode cX12_partOf 83 = .ok (.aload_n 0, 1) := by decide +kernel
theorem dX12_partOf_84 : decode cX12_partOf 84 = .ok (.bipush 101, 2) := by decide +kernel
theorem dX12_partOf_86 : decode cX12_partOf 86 = .ok (.bipush 108, 2) := by decide +kernel
theorem dX12_partOf_88 : decode cX12_partOf 88 = .ok (.bipush 115, 2) := by decide +kernel
theorem dX12_partOf_90 : decode cX12_partOf 90 = .ok (.bipush 101, 2) := by decide +kernel
theorem dX12_partOf_92 : decode cX12_partOf 92 = .ok (.invokestatic 143, 3) := by decide +kernel
theorem dX12_partOf_95 : decode cX12_partOf 95 = .ok (.invokevirtual 199, 3) := by decide +kernel
theorem dX12_partOf_98 : decode cX12_partOf 98 = .ok (.ifCond .eq 8, 3) := by decide +kernel
theorem dX12_partOf_101 : decode cX12_partOf 101 = .ok (.bipush 44, 2) := by decide +kernel
theorem dX12_partOf_103 : decode cX12_partOf 103 = .ok (.goto 4, 3) := by decide +kernel
theorem dX12_partOf_106 : decode cX12_partOf 106 = .ok (.iconst (-1), 1) := by decide +kernel
theorem dX12_partOf_107 : decode cX12_partOf 107 = .ok (.ireturn, 1) := by decide +kernel
theorem dX12_partOf_108 : decode cX12_partOf 108 = .ok (.aload_n 0, 1) := by decide +kernel
theorem dX12_partOf_109 : decode cX12_partOf 109 = .ok (.bipush 101, 2) := by decide +kernel
theorem dX12_partOf_111 : decode cX12_partOf 111 = .ok (.bipush 110, 2) := by decide +kernel
theorem dX12_partOf_113 : decode cX12_partOf 113 = .ok (.bipush 100, 2) := by decide +kernel
theorem dX12_partOf_115 : decode cX12_partOf 115 = .ok (.invokestatic 139, 3) := by decide +kernel
theorem dX12_partOf_118 : decode cX12_partOf 118 = .ok (.invokevirtual 199, 3) := by decide +kernel
theorem dX12_partOf_121 : decode cX12_partOf 121 = .ok (.ifCond .eq 7, 3) := by decide +kernel
theorem dX12_partOf_124 : decode cX12_partOf 124 = .ok (.iconst 0, 1) := by decide +kernel
theorem dX12_partOf_125 : decode cX12_partOf 125 = .ok (.goto 4, 3) := by decide +kernel
theorem dX12_partOf_128 : decode cX12_partOf 128 = .ok (.iconst (-1), 1) := by decide +kernel
theorem dX12_partOf_129 : decode cX12_partOf 129 = .ok (.ireturn, 1) := by decide +kernel
theorem dX12_partOf_130 : decode cX12_partOf 130 = .ok (.iconst (-1), 1) := by decide +kernel
theorem dX12_partOf_131 : decode cX12_partOf 131 = .ok (.ireturn, 1) := by decide +kernel
theorem dX12_behindOne_0 : decode cX12_behindOne 0 = .ok (.aload_n 0, 1) := by decide +kernel
theorem dX12_behindOne_1 : decode cX12_behindOne 1 = .ok (.invokevirtual 219, 3) := by decide +kernel
theorem dX12_behindOne_4 : decode cX12_behindOne 4 = .ok (.istore_n 1, 1) := by decide +kernel
theorem dX12_behindOne_5 : decode cX12_behindOne 5 = .ok (.iload_n 1, 1) := by decide +kernel
theorem dX12_behindOne_6 : decode cX12_behindOne 6 = .ok (.ifCond .lt 54, 3) := by decide +kernel
theorem dX12_behindOne_9 : decode cX12_behindOne 9 = .ok (.aload_n 0, 1) := by decide +kernel
theorem dX12_behindOne_10 : decode cX12_behindOne 10 = .ok (.iload_n 1, 1) := by decide +kernel
theorem dX12_behindOne_11 : decode cX12_behindOne 11 = .ok (.invokestatic 163, 3) := by decide +kernel
theorem dX12_behindOne_14 : decode cX12_behindOne 14 = .ok (.iconst 4, 1) := by decide +kernel
theorem dX12_behindOne_15 : decode cX12_behindOne 15 = .ok (.if_icmp .ne 7, 3) := by decide +kernel
theorem dX12_behindOne_18 : decode cX12_behindOne 18 = .ok (.iconst 5, 1) := by decide +kernel
theorem dX12_behindOne_19 : decode cX12_behindOne 19 = .ok (.goto 7, 3) := by decide +kernel
theorem dX12_behindOne_22 : decode cX12_behindOne 22 = .ok (.iload_n 1, 1) := by decide +kernel
theorem dX12_behindOne_23 : decode cX12_behindOne 23 = .ok (.invokestatic 163, 3) := by decide +kernel
theorem dX12_behindOne_26 : decode cX12_behindOne 26 = .ok (.invokevirtual 207, 3) := by decide +kernel
theorem dX12_behindOne_29 : decode cX12_behindOne 29 = .ok (.aload_n 0, 1) := by decide +kernel
theorem dX12_behindOne_30 : decode cX12_behindOne 30 = .ok (.getfield 29, 3) := by decide +kernel
theorem dX12_behindOne_33 : decode cX12_behindOne 33 = .ok (.aload_n 0, 1) := by decide +kernel
theorem dX12_behindOne_34 : decode cX12_behindOne 34 = .ok (.getfield 160, 3) := by decide +kernel
theorem dX12_behindOne_37 : decode cX12_behindOne 37 = .ok (.iload_n 1, 1) := by decide +kernel
theorem dX12_behindOne_38 : decode cX12_behindOne 38 = .ok (.iastore, 1) := by decide +kernel
theorem dX12_behindOne_39 : decode cX12_behindOne 39 = .ok (.aload_n 0, 1) := by decide +kernel
theorem dX12_behindOne_40 : decode cX12_behindOne 40 = .ok (.dup, 1) := by decide +kernel
theorem dX12_behindOne_41 : decode cX12_behindOne 41 = .ok (.getfield 160, 3) := by decide +kernel
theorem dX12_behindOne_44 : decode cX12_behindOne 44 = .ok (.iconst 1, 1) := by decide +kernel
theorem dX12_behindOne_45 : decode cX12_behindOne 45 = .ok (.iadd, 1) := by decide +kernel
theorem dX12_behindOne_46 : decode cX12_behindOne 46 = .ok (.putfield 160, 3) := by decide +kernel
theorem dX12_behindOne_49 : decode cX12_behindOne 49 = .ok (.aload_n 0, 1) := by decide +kernel
theorem dX12_behindOne_50 : decode cX12_behindOne 50 = .ok (.iconst 0, 1) := by decide +kernel
theorem dX12_behindOne_51 : decode cX12_behindOne 51 = .ok (.putfield 210, 3) := by decide +kernel
theorem dX12_behindOne_54 : decode cX12_behindOne 54 = .ok (.aload_n 0, 1) := by decide +kernel
theorem dX12_behindOne_55 : decode cX12_behindOne 55 = .ok (.invokevirtual 180, 3) := by decide +kernel
theorem dX12_behindOne_58 : decode cX12_behindOne 58 = .ok (.iconst 0, 1) := by decide +kernel
theorem dX12_behindOne_59 : decode cX12_behindOne 59 = .ok (.ireturn, 1) := by decide +kernel
theorem dX12_behindOne_60 : decode cX12_behindOne 60 = .ok (.aload_n 0, 1) := by decide +kernel
theorem dX12_behindOne_61 : decode cX12_behindOne 61 = .ok (.invokevirtual 177, 3) := by decide +kernel
theorem dX12_behindOne_64 : decode cX12_behindOne 64 = .ok (.istore_n 2, 1) := by decide +kernel
theorem dX12_behindOne_65 : decode cX12_behindOne 65 = .ok (.aload_n 0, 1) := by decide +kernel
theorem dX12_behindOne_66 : decode cX12_behindOne 66 = .ok (.iload_n 2, 1) := by decide +kernel
theorem dX12_behindOne_67 : decode cX12_behindOne 67 = .ok (.invokevirtual 222, 3) := by decide +kernel
theorem dX12_behindOne_70 : decode cX12_behindOne 70 = .ok (.istore_n 3, 1) := by decide +kernel
theorem dX12_behindOne_71 : decode cX12_behindOne 71 = .ok (.iload_n 3, 1) := by decide +kernel
theorem dX12_behindOne_72 : decode cX12_behindOne 72 = .ok (.ifCond .ge 5, 3) := by decide +kernel
theorem dX12_behindOne_75 : decode cX12_behindOne 75 = .ok (.iconst (-1), 1) := by decide +kernel
theorem dX12_behindOne_76 : decode cX12_behindOne 76 = .ok (.ireturn, 1) := by decide +kernel
theorem dX12_behindOne_77 : decode cX12_behindOne 77 = .ok (.aload_n 0, 1) := by decide +kernel
theorem dX12_behindOne_78 : decode cX12_behindOne 78 = .ok (.iconst 1, 1) := by decide +kernel
theorem dX12_behindOne_79 : decode cX12_behindOne 79 = .ok (.invokevirtual 207, 3) := by decide +kernel
theorem dX12_behindOne_82 : decode cX12_behindOne 82 = .ok (.aload_n 0, 1) := by decide +kernel
theorem dX12_behindOne_83 : decode cX12_behindOne 83 = .ok (.invokevirtual 180, 3) := by decide +kernel
theorem dX12_behindOne_86 : decode cX12_behindOne 86 = .ok (.iload_n 3, 1) := by decide +kernel
theorem dX12_behindOne_87 : decode cX12_behindOne 87 = .ok (.ifCond .ne 40, 3) := by decide +kernel
theorem dX12_behindOne_90 : decode cX12_behindOne 90 = .ok (.aload_n 0, 1) := by decide +kernel
theorem dX12_behindOne_91 : decode cX12_behindOne 91 = .ok (.dup, 1) := by decide +kernel
theorem dX12_behindOne_92 : decode cX12_behindOne 92 = .ok (.getfield 170, 3) := by decide +kernel
theorem dX12_behindOne_95 : decode cX12_behindOne 95 = .ok (.iconst 1, 1) := by decide +kernel
theorem dX12_behindOne_96 : decode cX12_behindOne 96 = .ok (.isub, 1) := by decide +kernel
theorem dX12_behindOne_97 : decode cX12_behindOne 97 = .ok (.putfield 170, 3) := by decide +kernel
theorem dX12_behindOne_100 : decode cX12_behindOne 100 = .ok (.aload_n 0, 1) := by decide +kernel
theorem dX12_behindOne_101 : decode cX12_behindOne 101 = .ok (.dup, 1) := by decide +kernel
theorem dX12_behindOne_102 : decode cX12_behindOne 102 = .ok (.getfield 160, 3) := by decide +kernel
theorem dX12_behindOne_105 : decode cX12_behindOne 105 = .ok (.iconst 1, 1) := by decide +kernel
theorem dX12_behindOne_106 : decode cX12_behindOne 106 = .ok (.isub, 1) := by decide +kernel
theorem dX12_behindOne_107 : decode cX12_behindOne 107 = .ok (.putfield 160, 3) := by decide +kernel
theorem dX12_behindOne_110 : decode cX12_behindOne 110 = .ok (.iload_n 2, 1) := by decide +kernel
theorem dX12_behindOne_111 : decode cX12_behindOne 111 = .ok (.bipush 44, 2) := by decide +kernel
theorem dX12_behindOne_113 : decode cX12_behindOne 113 = .ok (.if_icmp .ne 9, 3) := by decide +kernel
theorem dX12_behindOne_116 : decode cX12_behindOne 116 = .ok (.aload_n 0, 1) := by decide +kernel
theorem dX12_behindOne_117 : decode cX12_behindOne 117 = .ok (.iconst 3, 1) := by decide +kernel
theorem dX12_behindOne_118 : decode cX12_behindOne 118 = .ok (.iconst 0, 1) := by decide +kernel
theorem dX12_behindOne_119 : decode cX12_behindOne 119 = .ok (.invokevirtual 166, 3) := by decide +kernel
theorem dX12_behindOne_122 : decode cX12_behindOne 122 = .ok (.aload_n 0, 1) := by decide +kernel
theorem dX12_behindOne_123 : decode cX12_behindOne 123 = .ok (.invokevirtual 189, 3) := by decide +kernel
theorem dX12_behindOne_126 : decode cX12_behindOne 126 = .ok (.ireturn, 1) := by decide +kernel
theorem dX12_behindOne_127 : decode cX12_behindOne 127 = .ok (.aload_n 0, 1) := by decide +kernel
theorem dX12_behindOne_128 : decode cX12_behindOne 128 = .ok (.getfield 29, 3) := by decide +kernel
theorem dX12_behindOne_131 : decode cX12_behindOne 131 = .ok (.aload_n 0, 1) := by decide +kernel
theorem dX12_behindOne_132 : decode cX12_behindOne 132 = .ok (.invokevirtual 173, 3) := by decide +kernel
theorem dX12_behindOne_135 : decode cX12_behindOne 135 = .ok (.iload_n 3, 1) := by decide +kernel
theorem dX12_behindOne_136 : decode cX12_behindOne 136 = .ok (.iastore, 1) := by decide +kernel
theorem dX12_behindOne_137 : decode cX12_behindOne 137 = .ok (.aload_n 0, 1) := by decide +kernel
theorem dX12_behindOne_138 : decode cX12_behindOne 138 = .ok (.iconst 0, 1) := by decide +kernel
theorem dX12_behindOne_139 : decode cX12_behindOne 139 = .ok (.putfield 210, 3) := by decide +kernel
theorem dX12_behindOne_142 : decode cX12_behindOne 142 = .ok (.iconst 0, 1) := by decide +kernel
theorem dX12_behindOne_143 : decode cX12_behindOne 143 = .ok (.ireturn, 1) := by decide +kernel
theorem dX12_summed_0 : decode cX12_summed 0 = .ok (.aload_n 0, 1) := by decide +kernel
theorem dX12_summed_1 : decode cX12_summed 1 = .ok (.iconst 0, 1) := by decide +kernel
theorem dX12_summed_2 : decode cX12_summed 2 = .ok (.putfield 160, 3) := by decide +kernel
theorem dX12_summed_5 : decode cX12_summed 5 = .ok (.aload_n 0, 1) := by decide +kernel
theorem dX12_summed_6 : decode cX12_summed 6 = .ok (.iconst 0, 1) := by decide +kernel
theorem dX12_summed_7 : decode cX12_summed 7 = .ok (.putfield 170, 3) := by decide +kernel
theorem dX12_summed_10 : decode cX12_summed 10 = .ok (.aload_n 0, 1) := by decide +kernel
theorem dX12_summed_11 : decode cX12_summed 11 = .ok (.iconst 0, 1) := by decide +kernel
theorem dX12_summed_12 : decode cX12_summed 12 = .ok (.putfield 210, 3) := by decide +kernel
theorem dX12_summed_15 : decode cX12_summed 15 = .ok (.aload_n 0, 1) := by decide +kernel
theorem dX12_summed_16 : decode cX12_summed 16 = .ok (.getfield 210, 3) := by decide +kernel
theorem dX12_summed_19 : decode cX12_summed 19 = .ok (.ifCond .eq 10, 3) := by decide +kernel
theorem dX12_summed_22 : decode cX12_summed 22 = .ok (.aload_n 0, 1) := by decide +kernel
theorem dX12_summed_23 : decode cX12_summed 23 = .ok (.invokevirtual 225, 3) := by decide +kernel
theorem dX12_summed_26 : decode cX12_summed 26 = .ok (.goto 7, 3) := by decide +kernel
theorem dX12_summed_29 : decode cX12_summed 29 = .ok (.aload_n 0, 1) := by decide +kernel
theorem dX12_summed_30 : decode cX12_summed 30 = .ok (.invokevirtual 228, 3) := by decide +kernel
theorem dX12_summed_33 : decode cX12_summed 33 = .ok (.istore_n 1, 1) := by decide +kernel
theorem dX12_summed_34 : decode cX12_summed 34 = .ok (.iload_n 1, 1) := by decide +kernel
theorem dX12_summed_35 : decode cX12_summed 35 = .ok (.ifCond .le 5, 3) := by decide +kernel
theorem dX12_summed_38 : decode cX12_summed 38 = .ok (.iload_n 1, 1) := by decide +kernel
theorem dX12_summed_39 : decode cX12_summed 39 = .ok (.ireturn, 1) := by decide +kernel
theorem dX12_summed_40 : decode cX12_summed 40 = .ok (.iload_n 1, 1) := by decide +kernel
theorem dX12_summed_41 : decode cX12_summed 41 = .ok (.ifCond .ne 6, 3) := by decide +kernel
theorem dX12_summed_44 : decode cX12_summed 44 = .ok (.goto (-29), 3) := by decide +kernel
theorem dX12_summed_47 : decode cX12_summed 47 = .ok (.aload_n 0, 1) := by decide +kernel
theorem dX12_summed_48 : decode cX12_summed 48 = .ok (.invokevirtual 177, 3) := by decide +kernel
theorem dX12_summed_51 : decode cX12_summed 51 = .ok (.ifCond .lt 5, 3) := by decide +kernel
theorem dX12_summed_54 : decode cX12_summed 54 = .ok (.iconst 1, 1) := by decide +kernel
theorem dX12_summed_55 : decode cX12_summed 55 = .ok (.ireturn, 1) := by decide +kernel
theorem dX12_summed_56 : decode cX12_summed 56 = .ok (.aload_n 0, 1) := by decide +kernel
theorem dX12_summed_57 : decode cX12_summed 57 = .ok (.iconst 1, 1) := by decide +kernel
theorem dX12_summed_58 : decode cX12_summed 58 = .ok (.invokevirtual 207, 3) := by decide +kernel
theorem dX12_summed_61 : decode cX12_summed 61 = .ok (.iconst 0, 1) := by decide +kernel
theorem dX12_summed_62 : decode cX12_summed 62 = .ok (.ireturn, 1) := by decide +kernel
theorem dX12_figure_0 : decode cX12_figure 0 = .ok (.aload_n 0, 1) := by decide +kernel
theorem dX12_figure_1 : decode cX12_figure 1 = .ok (.getfield 113, 3) := by decide +kernel
theorem dX12_figure_4 : decode cX12_figure 4 = .ok (.iconst 1, 1) := by decide +kernel
theorem dX12_figure_5 : decode cX12_figure 5 = .ok (.if_icmp .eq 5, 3) := by decide +kernel
theorem dX12_figure_8 : decode cX12_figure 8 = .ok (.iconst 1, 1) := by decide +kernel
theorem dX12_figure_9 : decode cX12_figure 9 = .ok (.ireturn, 1) := by decide +kernel
theorem dX12_figure_10 : decode cX12_figure 10 = .ok (.aload_n 0, 1) := by decide +kernel
theorem dX12_figure_11 : decode cX12_figure 11 = .ok (.getfield 119, 3) := by decide +kernel
theorem dX12_figure_14 : decode cX12_figure 14 = .ok (.iload_n 2, 1) := by decide +kernel
theorem dX12_figure_15 : decode cX12_figure 15 = .ok (.iload_n 3, 1) := by decide +kernel
theorem dX12_figure_16 : decode cX12_figure 16 = .ok (.invokestatic 81, 3) := by decide +kernel
theorem dX12_figure_19 : decode cX12_figure 19 = .ok (.ifCond .ne 5, 3) := by decide +kernel
theorem dX12_figure_22 : decode cX12_figure 22 = .ok (.iconst 2, 1) := by decide +kernel
theorem dX12_figure_23 : decode cX12_figure 23 = .ok (.ireturn, 1) := by decide +kernel
theorem dX12_figure_24 : decode cX12_figure 24 = .ok (.aload_n 0, 1) := by decide +kernel
theorem dX12_figure_25 : decode cX12_figure 25 = .ok (.getfield 16, 3) := by decide +kernel
theorem dX12_figure_28 : decode cX12_figure 28 = .ok (.iload_n 1, 1) := by decide +kernel
theorem dX12_figure_29 : decode cX12_figure 29 = .ok (.aload_n 0, 1) := by decide +kernel
theorem dX12_figure_30 : decode cX12_figure 30 = .ok (.getfield 119, 3) := by decide +kernel
theorem dX12_figure_33 : decode cX12_figure 33 = .ok (.iastore, 1) := by decide +kernel
theorem dX12_figure_34 : decode cX12_figure 34 = .ok (.aload_n 0, 1) := by decide +kernel
theorem dX12_figure_35 : decode cX12_figure 35 = .ok (.invokevirtual 180, 3) := by decide +kernel
theorem dX12_figure_38 : decode cX12_figure 38 = .ok (.iconst 0, 1) := by decide +kernel
theorem dX12_figure_39 : decode cX12_figure 39 = .ok (.ireturn, 1) := by decide +kernel
theorem dX12_worded_0 : decode cX12_worded 0 = .ok (.aload_n 0, 1) := by decide +kernel
theorem dX12_worded_1 : decode cX12_worded 1 = .ok (.lload_n 1, 1) := by decide +kernel
theorem dX12_worded_2 : decode cX12_worded 2 = .ok (.invokevirtual 199, 3) := by decide +kernel
theorem dX12_worded_5 : decode cX12_worded 5 = .ok (.ifCond .ne 5, 3) := by decide +kernel
theorem dX12_worded_8 : decode cX12_worded 8 = .ok (.iconst 1, 1) := by decide +kernel
theorem dX12_worded_9 : decode cX12_worded 9 = .ok (.ireturn, 1) := by decide +kernel
theorem dX12_worded_10 : decode cX12_worded 10 = .ok (.aload_n 0, 1) := by decide +kernel
theorem dX12_worded_11 : decode cX12_worded 11 = .ok (.invokevirtual 180, 3) := by decide +kernel
theorem dX12_worded_14 : decode cX12_worded 14 = .ok (.aload_n 0, 1) := by decide +kernel
theorem dX12_worded_15 : decode cX12_worded 15 = .ok (.iload_n 3, 1) := by decide +kernel
theorem dX12_worded_16 : decode cX12_worded 16 = .ok (.iload 4, 2) := by decide +kernel
theorem dX12_worded_18 : decode cX12_worded 18 = .ok (.iload 5, 2) := by decide +kernel
theorem dX12_worded_20 : decode cX12_worded 20 = .ok (.invokevirtual 231, 3) := by decide +kernel
theorem dX12_worded_23 : decode cX12_worded 23 = .ok (.ireturn, 1) := by decide +kernel
theorem dX12_lawClause_0 : decode cX12_lawClause 0 = .ok (.aload_n 0, 1) := by decide +kernel
theorem dX12_lawClause_1 : decode cX12_lawClause 1 = .ok (.getfield 16, 3) := by decide +kernel
theorem dX12_lawClause_4 : decode cX12_lawClause 4 = .ok (.iload_n 1, 1) := by decide +kernel
theorem dX12_lawClause_5 : decode cX12_lawClause 5 = .ok (.iconst 1, 1) := by decide +kernel
theorem dX12_lawClause_6 : decode cX12_lawClause 6 = .ok (.iadd, 1) := by decide +kernel
theorem dX12_lawClause_7 : decode cX12_lawClause 7 = .ok (.aload_n 0, 1) := by decide +kernel
theorem dX12_lawClause_8 : decode cX12_lawClause 8 = .ok (.getfield 154, 3) := by decide +kernel
theorem dX12_lawClause_11 : decode cX12_lawClause 11 = .ok (.iastore, 1) := by decide +kernel
theorem dX12_lawClause_12 : decode cX12_lawClause 12 = .ok (.aload_n 0, 1) := by decide +kernel
theorem dX12_lawClause_13 : decode cX12_lawClause 13 = .ok (.invokevirtual 235, 3) := by decide +kernel
theorem dX12_lawClause_16 : decode cX12_lawClause 16 = .ok (.istore_n 2, 1) := by decide +kernel
theorem dX12_lawClause_17 : decode cX12_lawClause 17 = .ok (.aload_n 0, 1) := by decide +kernel
theorem dX12_lawClause_18 : decode cX12_lawClause 18 = .ok (.getfield 16, 3) := by decide +kernel
theorem dX12_lawClause_21 : decode cX12_lawClause 21 = .ok (.iload_n 1, 1) := by decide +kernel
theorem dX12_lawClause_22 : decode cX12_lawClause 22 = .ok (.iconst 2, 1) := by decide +kernel
theorem dX12_lawClause_23 : decode cX12_lawClause 23 = .ok (.iadd, 1) := by decide +kernel
theorem dX12_lawClause_24 : decode cX12_lawClause 24 = .ok (.aload_n 0, 1) := by decide +kernel
theorem dX12_lawClause_25 : decode cX12_lawClause 25 = .ok (.getfield 154, 3) := by decide +kernel
theorem dX12_lawClause_28 : decode cX12_lawClause 28 = .ok (.iastore, 1) := by decide +kernel
theorem dX12_lawClause_29 : decode cX12_lawClause 29 = .ok (.iload_n 2, 1) := by decide +kernel
theorem dX12_lawClause_30 : decode cX12_lawClause 30 = .ok (.ireturn, 1) := by decide +kernel
theorem dX12_pair_0 : decode cX12_pair 0 = .ok (.aload_n 0, 1) := by decide +kernel
theorem dX12_pair_1 : decode cX12_pair 1 = .ok (.iload_n 1, 1) := by decide +kernel
theorem dX12_pair_2 : decode cX12_pair 2 = .ok (.iconst 1, 1) := by decide +kernel
theorem dX12_pair_3 : decode cX12_pair 3 = .ok (.iadd, 1) := by decide +kernel
theorem dX12_pair_4 : decode cX12_pair 4 = .ok (.iconst 0, 1) := by decide +kernel
theorem dX12_pair_5 : decode cX12_pair 5 = .ok (.iload_n 2, 1) := by decide +kernel
theorem dX12_pair_6 : decode cX12_pair 6 = .ok (.invokevirtual 231, 3) := by decide +kernel
theorem dX12_pair_9 : decode cX12_pair 9 = .ok (.istore 7, 2) := by decide +kernel
theorem dX12_pair_11 : decode cX12_pair 11 = .ok (.iload 7, 2) := by decide +kernel
theorem dX12_pair_13 : decode cX12_pair 13 = .ok (.ifCond .eq 8, 3) := by decide +kernel
theorem dX12_pair_16 : decode cX12_pair 16 = .ok (.iload 7, 2) := by decide +kernel
theorem dX12_pair_18 : decode cX12_pair 18 = .ok (.goto 15, 3) := by decide +kernel
theorem dX12_pair_21 : decode cX12_pair 21 = .ok (.aload_n 0, 1) := by decide +kernel
theorem dX12_pair_22 : decode cX12_pair 22 = .ok (.lload_n 3, 1) := by decide +kernel
theorem dX12_pair_23 : decode cX12_pair 23 = .ok (.iload_n 1, 1) := by decide +kernel
theorem dX12_pair_24 : decode cX12_pair 24 = .ok (.iconst 2, 1) := by decide +kernel
theorem dX12_pair_25 : decode cX12_pair 25 = .ok (.iadd, 1) := by decide +kernel
theorem dX12_pair_26 : decode cX12_pair 26 = .ok (.iload 5, 2) := by decide +kernel
theorem dX12_pair_28 : decode cX12_pair 28 = .ok (.iload 6, 2) := by decide +kernel
theorem dX12_pair_30 : decode cX12_pair 30 = .ok (.invokevirtual 238, 3) := by decide +kernel
theorem dX12_pair_33 : decode cX12_pair 33 = .ok (.ireturn, 1) := by decide +kernel
theorem dX12_roadClause_0 : decode cX12_roadClause 0 = .ok (.aload_n 0, 1) := by decide +kernel
theorem dX12_roadClause_1 : decode cX12_roadClause 1 = .ok (.iload_n 1, 1) := by decide +kernel
theorem dX12_roadClause_2 : decode cX12_roadClause 2 = .ok (.bipush 7, 2) := by decide +kernel
theorem dX12_roadClause_4 : decode cX12_roadClause 4 = .ok (.bipush 116, 2) := by decide +kernel
theorem dX12_roadClause_6 : decode cX12_roadClause 6 = .ok (.bipush 111, 2) := by decide +kernel
theorem dX12_roadClause_8 : decode cX12_roadClause 8 = .ok (.invokestatic 135, 3) := by decide +kernel
theorem dX12_roadClause_11 : decode cX12_roadClause 11 = .ok (.iconst 0, 1) := by decide +kernel
theorem dX12_roadClause_12 : decode cX12_roadClause 12 = .ok (.bipush 7, 2) := by decide +kernel
theorem dX12_roadClause_14 : decode cX12_roadClause 14 = .ok (.invokevirtual 242, 3) := by decide +kernel
theorem dX12_roadClause_17 : decode cX12_roadClause 17 = .ok (.istore_n 2, 1) := by decide +kernel
theorem dX12_roadClause_18 : decode cX12_roadClause 18 = .ok (.iload_n 2, 1) := by decide +kernel
theorem dX12_roadClause_19 : decode cX12_roadClause 19 = .ok (.ifCond .ne 25, 3) := by decide +kernel
theorem dX12_roadClause_22 : decode cX12_roadClause 22 = .ok (.aload_n 0, 1) := by decide +kernel
theorem dX12_roadClause_23 : decode cX12_roadClause 23 = .ok (.bipush 108, 2) := by decide +kernel
theorem dX12_roadClause_25 : decode cX12_roadClause 25 = .ok (.bipush 111, 2) := by decide +kernel
theorem dX12_roadClause_27 : decode cX12_roadClause 27 = .ok (.bipush 110, 2) := by decide +kernel
theorem dX12_roadClause_29 : decode cX12_roadClause 29 = .ok (.bipush 103, 2) := by decide +kernel
theorem dX12_roadClause_31 : decode cX12_roadClause 31 = .ok (.invokestatic 143, 3) := by decide +kernel
theorem dX12_roadClause_34 : decode cX12_roadClause 34 = .ok (.iload_n 1, 1) := by decide +kernel
theorem dX12_roadClause_35 : decode cX12_roadClause 35 = .ok (.iconst 3, 1) := by decide +kernel
theorem dX12_roadClause_36 : decode cX12_roadClause 36 = .ok (.iadd, 1) := by decide +kernel
theorem dX12_roadClause_37 : decode cX12_roadClause 37 = .ok (.iconst 1, 1) := by decide +kernel
theorem dX12_roadClause_38 : decode cX12_roadClause 38 = .ok (.bipush 9, 2) := by decide +kernel
theorem dX12_roadClause_40 : decode cX12_roadClause 40 = .ok (.invokevirtual 238, 3) := by decide +kernel
theorem dX12_roadClause_43 : decode cX12_roadClause 43 = .ok (.istore_n 2, 1) := by decide +kernel
theorem dX12_roadClause_44 : decode cX12_roadClause 44 = .ok (.iload_n 2, 1) := by decide +kernel
theorem dX12_roadClause_45 : decode cX12_roadClause 45 = .ok (.ifCond .eq 7, 3) := by decide +kernel
theorem dX12_roadClause_48 : decode cX12_roadClause 48 = .ok (.iload_n 2, 1) := by decide +kernel
theorem dX12_roadClause_49 : decode cX12_roadClause 49 = .ok (.goto 26, 3) := by decide +kernel
theorem dX12_roadClause_52 : decode cX12_roadClause 52 = .ok (.aload_n 0, 1) := by decide +kernel
theorem dX12_roadClause_53 : decode cX12_roadClause 53 = .ok (.bipush 116, 2) := by decide +kernel
theorem dX12_roadClause_55 : decode cX12_roadClause 55 = .ok (.bipush 104, 2) := by decide +kernel
theorem dX12_roadClause_57 : decode cX12_roadClause 57 = .ok (.bipush 105, 2) := by decide +kernel
theorem dX12_roadClause_59 : decode cX12_roadClause 59 = .ok (.bipush 99, 2) := by decide +kernel
theorem dX12_roadClause_61 : decode cX12_roadClause 61 = .ok (.bipush 107, 2) := by decide +kernel
theorem dX12_roadClause_63 : decode cX12_roadClause 63 = .ok (.invokestatic 147, 3) := by decide +kernel
theorem dX12_roadClause_66 : decode cX12_roadClause 66 = .ok (.iload_n 1, 1) := by decide +kernel
theorem dX12_roadClause_67 : decode cX12_roadClause 67 = .ok (.iconst 4, 1) := by decide +kernel
theorem dX12_roadClause_68 : decode cX12_roadClause 68 = .ok (.iadd, 1) := by decide +kernel
theorem dX12_roadClause_69 : decode cX12_roadClause 69 = .ok (.iconst 1, 1) := by decide +kernel
theorem dX12_roadClause_70 : decode cX12_roadClause 70 = .ok (.bipush 99, 2) := by decide +kernel
theorem dX12_roadClause_72 : decode cX12_roadClause 72 = .ok (.invokevirtual 238, 3) := by decide +kernel
theorem dX12_roadClause_75 : decode cX12_roadClause 75 = .ok (.ireturn, 1) := by decide +kernel
theorem dX12_body_0 : decode cX12_body 0 = .ok (.iload_n 1, 1) := by decide +kernel
theorem dX12_body_1 : decode cX12_body 1 = .ok (.tableswitch 119 2 7 #[39, 45, 69, 86, 97, 108], 39) := by decide +kernel
theorem dX12_body_40 : decode cX12_body 40 = .ok (.aload_n 0, 1) := by decide +kernel
theorem dX12_body_41 : decode cX12_body 41 = .ok (.iload_n 2, 1) := by decide +kernel
theorem dX12_body_42 : decode cX12_body 42 = .ok (.invokevirtual 246, 3) := by decide +kernel
theorem dX12_body_45 : decode cX12_body 45 = .ok (.ireturn, 1) := by decide +kernel
theorem dX12_body_46 : decode cX12_body 46 = .ok (.aload_n 0, 1) := by decide +kernel
theorem dX12_body_47 : decode cX12_body 47 = .ok (.iload_n 2, 1) := by decide +kernel
theorem dX12_body_48 : decode cX12_body 48 = .ok (.bipush 7, 2) := by decide +kernel
theorem dX12_body_50 : decode cX12_body 50 = .ok (.bipush 109, 2) := by decide +kernel
theorem dX12_body_52 : decode cX12_body 52 = .ok (.bipush 111, 2) := by decide +kernel
theorem dX12_body_54 : decode cX12_body 54 = .ok (.bipush 117, 2) := by decide +kernel
theorem dX12_body_56 : decode cX12_body 56 = .ok (.bipush 116, 2) := by decide +kernel
theorem dX12_body_58 : decode cX12_body 58 = .ok (.bipush 104, 2) := by decide +kernel
theorem dX12_body_60 : decode cX12_body 60 = .ok (.invokestatic 147, 3) := by decide +kernel
theorem dX12_body_63 : decode cX12_body 63 = .ok (.iconst 1, 1) := by decide +kernel
theorem dX12_body_64 : decode cX12_body 64 = .ok (.bipush 9, 2) := by decide +kernel
theorem dX12_body_66 : decode cX12_body 66 = .ok (.invokevirtual 242, 3) := by decide +kernel
theorem dX12_body_69 : decode cX12_body 69 = .ok (.ireturn, 1) := by decide +kernel
theorem dX12_body_70 : decode cX12_body 70 = .ok (.aload_n 0, 1) := by decide +kernel
theorem dX12_body_71 : decode cX12_body 71 = .ok (.iload_n 2, 1) := by decide +kernel
theorem dX12_body_72 : decode cX12_body 72 = .ok (.bipush 15, 2) := by decide +kernel
theorem dX12_body_74 : decode cX12_body 74 = .ok (.bipush 98, 2) := by decide +kernel
theorem dX12_body_76 : decode cX12_body 76 = .ok (.bipush 121, 2) := by decide +kernel
theorem dX12_body_78 : decode cX12_body 78 = .ok (.invokestatic 135, 3) := by decide +kernel
theorem dX12_body_81 : decode cX12_body 81 = .ok (.iconst 0, 1) := by decide +kernel
theorem dX12_body_82 : decode cX12_body 82 = .ok (.iconst 5, 1) := by decide +kernel
theorem dX12_body_83 : decode cX12_body 83 = .ok (.invokevirtual 242, 3) := by decide +kernel
theorem dX12_body_86 : decode cX12_body 86 = .ok (.ireturn, 1) := by decide +kernel
theorem dX12_body_87 : decode cX12_body 87 = .ok (.aload_n 0, 1) := by decide +kernel
theorem dX12_body_88 : decode cX12_body 88 = .ok (.iload_n 2, 1) := by decide +kernel
theorem dX12_body_89 : decode cX12_body 89 = .ok (.iconst 1, 1) := by decide +kernel
theorem dX12_body_90 : decode cX12_body 90 = .ok (.iadd, 1) := by decide +kernel
theorem dX12_body_91 : decode cX12_body 91 = .ok (.iconst 0, 1) := by decide +kernel
theorem dX12_body_92 : decode cX12_body 92 = .ok (.bipush 15, 2) := by decide +kernel
theorem dX12_body_94 : decode cX12_body 94 = .ok (.invokevirtual 231, 3) := by decide +kernel
theorem dX12_body_97 : decode cX12_body 97 = .ok (.ireturn, 1) := by decide +kernel
theorem dX12_body_98 : decode cX12_body 98 = .ok (.aload_n 0, 1) := by decide +kernel
theorem dX12_body_99 : decode cX12_body 99 = .ok (.iload_n 2, 1) := by decide +kernel
theorem dX12_body_100 : decode cX12_body 100 = .ok (.iconst 1, 1) := by decide +kernel
theorem dX12_body_101 : decode cX12_body 101 = .ok (.iadd, 1) := by decide +kernel
theorem dX12_body_102 : decode cX12_body 102 = .ok (.iconst 1, 1) := by decide +kernel
theorem dX12_body_103 : decode cX12_body 103 = .ok (.bipush 99, 2) := by decide +kernel
theorem dX12_body_105 : decode cX12_body 105 = .ok (.invokevirtual 231, 3) := by decide +kernel
theorem dX12_body_108 : decode cX12_body 108 = .ok (.ireturn, 1) := by decide +kernel
theorem dX12_body_109 : decode cX12_body 109 = .ok (.aload_n 0, 1) := by decide +kernel
theorem dX12_body_110 : decode cX12_body 110 = .ok (.iload_n 2, 1) := by decide +kernel
theorem dX12_body_111 : decode cX12_body 111 = .ok (.iconst 1, 1) := by decide +kernel
theorem dX12_body_112 : decode cX12_body 112 = .ok (.iadd, 1) := by decide +kernel
theorem dX12_body_113 : decode cX12_body 113 = .ok (.iconst 1, 1) := by decide +kernel
theorem dX12_body_114 : decode cX12_body 114 = .ok (.bipush 60, 2) := by decide +kernel
theorem dX12_body_116 : decode cX12_body 116 = .ok (.invokevirtual 231, 3) := by decide +kernel
theorem dX12_body_119 : decode cX12_body 119 = .ok (.ireturn, 1) := by decide +kernel
theorem dX12_body_120 : decode cX12_body 120 = .ok (.aload_n 0, 1) := by decide +kernel
theorem dX12_body_121 : decode cX12_body 121 = .ok (.iload_n 2, 1) := by decide +kernel
theorem dX12_body_122 : decode cX12_body 122 = .ok (.invokevirtual 249, 3) := by decide +kernel
theorem dX12_body_125 : decode cX12_body 125 = .ok (.ireturn, 1) := by decide +kernel
theorem dX12_sortOf_0 : decode cX12_sortOf 0 = .ok (.aload_n 0, 1) := by decide +kernel
theorem dX12_sortOf_1 : decode cX12_sortOf 1 = .ok (.bipush 115, 2) := by decide +kernel
theorem dX12_sortOf_3 : decode cX12_sortOf 3 = .ok (.bipush 117, 2) := by decide +kernel
theorem dX12_sortOf_5 : decode cX12_sortOf 5 = .ok (.bipush 99, 2) := by decide +kernel
theorem dX12_sortOf_7 : decode cX12_sortOf 7 = .ok (.bipush 107, 2) := by decide +kernel
theorem dX12_sortOf_9 : decode cX12_sortOf 9 = .ok (.bipush 115, 2) := by decide +kernel
theorem dX12_sortOf_11 : decode cX12_sortOf 11 = .ok (.invokestatic 147, 3) := by decide +kernel
theorem dX12_sortOf_14 : decode cX12_sortOf 14 = .ok (.invokevirtual 199, 3) := by decide +kernel
theorem dX12_sortOf_17 : decode cX12_sortOf 17 = .ok (.ifCond .eq 5, 3) := by decide +kernel
theorem dX12_sortOf_20 : decode cX12_sortOf 20 = .ok (.iconst 0, 1) := by decide +kernel
theorem dX12_sortOf_21 : decode cX12_sortOf 21 = .ok (.ireturn, 1) := by decide +kernel
theorem dX12_sortOf_22 : decode cX12_sortOf 22 = .ok (.aload_n 0, 1) := by decide +kernel
theorem dX12_sortOf_23 : decode cX12_sortOf 23 = .ok (.bipush 115, 2) := by decide +kernel
theorem dX12_sortOf_25 : decode cX12_sortOf 25 = .ok (.bipush 119, 2) := by decide +kernel
theorem dX12_sortOf_27 : decode cX12_sortOf 27 = .ok (.bipush 101, 2) := by decide +kernel
theorem dX12_sortOf_29 : decode cX12_sortOf 29 = .ok (.bipush 108, 2) := by decide +kernel
theorem dX12_sortOf_31 : decode cX12_sortOf 31 = .ok (.bipush 108, 2) := by decide +kernel
theorem dX12_sortOf_33 : decode cX12_sortOf 33 = .ok (.bipush 115, 2) := by decide +kernel
theorem dX12_sortOf_35 : decode cX12_sortOf 35 = .ok (.invokestatic 195, 3) := by decide +kernel
theorem dX12_sortOf_38 : decode cX12_sortOf 38 = .ok (.invokevirtual 199, 3) := by decide +kernel
theorem dX12_sortOf_41 : decode cX12_sortOf 41 = .ok (.ifCond .eq 5, 3) := by decide +kernel
theorem dX12_sortOf_44 : decode cX12_sortOf 44 = .ok (.iconst 1, 1) := by decide +kernel
theorem dX12_sortOf_45 : decode cX12_sortOf 45 = .ok (.ireturn, 1) := by decide +kernel
theorem dX12_sortOf_46 : decode cX12_sortOf 46 = .ok (.aload_n 0, 1) := by decide +kernel
theorem dX12_sortOf_47 : decode cX12_sortOf 47 = .ok (.bipush 114, 2) := by decide +kernel
theorem dX12_sortOf_49 : decode cX12_sortOf 49 = .ok (.bipush 111, 2) := by decide +kernel
theorem dX12_sortOf_51 : decode cX12_sortOf 51 = .ok (.bipush 97, 2) := by decide +kernel
theorem dX12_sortOf_53 : decode cX12_sortOf 53 = .ok (.bipush 100, 2) := by decide +kernel
theorem dX12_sortOf_55 : decode cX12_sortOf 55 = .ok (.invokestatic 143, 3) := by decide +kernel
theorem dX12_sortOf_58 : decode cX12_sortOf 58 = .ok (.invokevirtual 199, 3) := by decide +kernel
theorem dX12_sortOf_61 : decode cX12_sortOf 61 = .ok (.ifCond .eq 5, 3) := by decide +kernel
theorem dX12_sortOf_64 : decode cX12_sortOf 64 = .ok (.iconst 2, 1) := by decide +kernel
theorem dX12_sortOf_65 : decode cX12_sortOf 65 = .ok (.ireturn, 1) := by decide +kernel
theorem dX12_sortOf_66 : decode cX12_sortOf 66 = .ok (.aload_n 0, 1) := by decide +kernel
theorem dX12_sortOf_67 : decode cX12_sortOf 67 = .ok (.bipush 103, 2) := by decide +kernel
theorem dX12_sortOf_69 : decode cX12_sortOf 69 = .ok (.bipush 111, 2) := by decide +kernel
theorem dX12_sortOf_71 : decode cX12_sortOf 71 = .ok (.bipush 101, 2) := by decide +kernel
theorem dX12_sortOf_73 : decode cX12_sortOf 73 = .ok (.bipush 114, 2) := by decide +kernel
theorem dX12_sortOf_75 : decode cX12_sortOf 75 = .ok (.invokestatic 143, 3) := by decide +kernel
theorem dX12_sortOf_78 : decode cX12_sortOf 78 = .ok (.invokevirtual 199, 3) := by decide +kernel
theorem dX12_sortOf_81 : decode cX12_sortOf 81 = .ok (.ifCond .eq 5, 3) := by decide +kernel
theorem dX12_sortOf_84 : decode cX12_sortOf 84 = .ok (.iconst 3, 1) := by decide +kernel
theorem dX12_sortOf_85 : decode cX12_sortOf 85 = .ok (.ireturn, 1) := by decide +kernel
theorem dX12_sortOf_86 : decode cX12_sortOf 86 = .ok (.aload_n 0, 1) := by decide +kernel
theorem dX12_sortOf_87 : decode cX12_sortOf 87 = .ok (.bipush 103, 2) := by decide +kernel
theorem dX12_sortOf_89 : decode cX12_sortOf 89 = .ok (.bipush 111, 2) := by decide +kernel
theorem dX12_sortOf_91 : decode cX12_sortOf 91 = .ok (.invokestatic 135, 3) := by decide +kernel
theorem dX12_sortOf_94 : decode cX12_sortOf 94 = .ok (.invokevirtual 199, 3) := by decide +kernel
theorem dX12_sortOf_97 : decode cX12_sortOf 97 = .ok (.ifCond .eq 5, 3) := by decide +kernel
theorem dX12_sortOf_100 : decode cX12_sortOf 100 = .ok (.iconst 4, 1) := by decide +kernel
theorem dX12_sortOf_101 : decode cX12_sortOf 101 = .ok (.ireturn, 1) := by decide +kernel
theorem dX12_sortOf_102 : decode cX12_sortOf 102 = .ok (.aload_n 0, 1) := by decide +kernel
theorem dX12_sortOf_103 : decode cX12_sortOf 103 = .ok (.bipush 114, 2) := by decide +kernel
theorem dX12_sortOf_105 : decode cX12_sortOf 105 = .ok (.bipush 101, 2) := by decide +kernel
theorem dX12_sortOf_107 : decode cX12_sortOf 107 = .ok (.bipush 108, 2) := by decide +kernel
theorem dX12_sortOf_109 : decode cX12_sortOf 109 = .ok (.bipush 97, 2) := by decide +kernel
theorem dX12_sortOf_111 : decode cX12_sortOf 111 = .ok (.bipush 121, 2) := by decide +kernel
theorem dX12_sortOf_113 : decode cX12_sortOf 113 = .ok (.invokestatic 147, 3) := by decide +kernel
theorem dX12_sortOf_116 : decode cX12_sortOf 116 = .ok (.invokevirtual 199, 3) := by decide +kernel
theorem dX12_sortOf_119 : decode cX12_sortOf 119 = .ok (.ifCond .eq 5, 3) := by decide +kernel
theorem dX12_sortOf_122 : decode cX12_sortOf 122 = .ok (.iconst 5, 1) := by decide +kernel
theorem dX12_sortOf_123 : decode cX12_sortOf 123 = .ok (.ireturn, 1) := by decide +kernel
theorem dX12_sortOf_124 : decode cX12_sortOf 124 = .ok (.aload_n 0, 1) := by decide +kernel
theorem dX12_sortOf_125 : decode cX12_sortOf 125 = .ok (.bipush 99, 2) := by decide +kernel
theorem dX12_sortOf_127 : decode cX12_sortOf 127 = .ok (.bipush 111, 2) := by decide +kernel
theorem dX12_sortOf_129 : decode cX12_sortOf 129 = .ok (.bipush 105, 2) := by decide +kernel
theorem dX12_sortOf_131 : decode cX12_sortOf 131 = .ok (.bipush 108, 2) := by decide +kernel
theorem dX12_sortOf_133 : decode cX12_sortOf 133 = .ok (.invokestatic 143, 3) := by decide +kernel
theorem dX12_sortOf_136 : decode cX12_sortOf 136 = .ok (.invokevirtual 199, 3) := by decide +kernel
theorem dX12_sortOf_139 : decode cX12_sortOf 139 = .ok (.ifCond .eq 8, 3) := by decide +kernel
theorem dX12_sortOf_142 : decode cX12_sortOf 142 = .ok (.bipush 6, 2) := by decide +kernel
theorem dX12_sortOf_144 : decode cX12_sortOf 144 = .ok (.goto 25, 3) := by decide +kernel
theorem dX12_sortOf_147 : decode cX12_sortOf 147 = .ok (.aload_n 0, 1) := by decide +kernel
theorem dX12_sortOf_148 : decode cX12_sortOf 148 = .ok (.bipush 100, 2) := by decide +kernel
theorem dX12_sortOf_150 : decode cX12_sortOf 150 = .ok (.bipush 97, 2) := by decide +kernel
theorem dX12_sortOf_152 : decode cX12_sortOf 152 = .ok (.bipush 121, 2) := by decide +kernel
theorem dX12_sortOf_154 : decode cX12_sortOf 154 = .ok (.invokestatic 139, 3) := by decide +kernel
theorem dX12_sortOf_157 : decode cX12_sortOf 157 = .ok (.invokevirtual 199, 3) := by decide +kernel
theorem dX12_sortOf_160 : decode cX12_sortOf 160 = .ok (.ifCond .eq 8, 3) := by decide +kernel
theorem dX12_sortOf_163 : decode cX12_sortOf 163 = .ok (.bipush 7, 2) := by decide +kernel
theorem dX12_sortOf_165 : decode cX12_sortOf 165 = .ok (.goto 4, 3) := by decide +kernel
theorem dX12_sortOf_168 : decode cX12_sortOf 168 = .ok (.iconst (-1), 1) := by decide +kernel
theorem dX12_sortOf_169 : decode cX12_sortOf 169 = .ok (.ireturn, 1) := by decide +kernel
theorem dX12_clause_0 : decode cX12_clause 0 = .ok (.aload_n 0, 1) := by decide +kernel
theorem dX12_clause_1 : decode cX12_clause 1 = .ok (.invokevirtual 252, 3) := by decide +kernel
theorem dX12_clause_4 : decode cX12_clause 4 = .ok (.istore_n 1, 1) := by decide +kernel
theorem dX12_clause_5 : decode cX12_clause 5 = .ok (.iload_n 1, 1) := by decide +kernel
theorem dX12_clause_6 : decode cX12_clause 6 = .ok (.ifCond .ge 5, 3) := by decide +kernel
theorem dX12_clause_9 : decode cX12_clause 9 = .ok (.iconst 1, 1) := by decide +kernel
theorem dX12_clause_10 : decode cX12_clause 10 = .ok (.ireturn, 1) := by decide +kernel
theorem dX12_clause_11 : decode cX12_clause 11 = .ok (.iload_n 1, 1) := by decide +kernel
theorem dX12_clause_12 : decode cX12_clause 12 = .ok (.iconst 1, 1) := by decide +kernel
theorem dX12_clause_13 : decode cX12_clause 13 = .ok (.if_icmp .gt 16, 3) := by decide +kernel
theorem dX12_clause_16 : decode cX12_clause 16 = .ok (.aload_n 0, 1) := by decide +kernel
theorem dX12_clause_17 : decode cX12_clause 17 = .ok (.getfield 255, 3) := by decide +kernel
theorem dX12_clause_20 : decode cX12_clause 20 = .ok (.iload_n 1, 1) := by decide +kernel
theorem dX12_clause_21 : decode cX12_clause 21 = .ok (.invokestatic 258, 3) := by decide +kernel
theorem dX12_clause_24 : decode cX12_clause 24 = .ok (.ifCond .eq 5, 3) := by decide +kernel
theorem dX12_clause_27 : decode cX12_clause 27 = .ok (.iconst 4, 1) := by decide +kernel
theorem dX12_clause_28 : decode cX12_clause 28 = .ok (.ireturn, 1) := by decide +kernel
theorem dX12_clause_29 : decode cX12_clause 29 = .ok (.aload_n 0, 1) := by decide +kernel
theorem dX12_clause_30 : decode cX12_clause 30 = .ok (.getfield 16, 3) := by decide +kernel
theorem dX12_clause_33 : decode cX12_clause 33 = .ok (.aload_n 0, 1) := by decide +kernel
theorem dX12_clause_34 : decode cX12_clause 34 = .ok (.getfield 151, 3) := by decide +kernel
theorem dX12_clause_37 : decode cX12_clause 37 = .ok (.iaload, 1) := by decide +kernel
theorem dX12_clause_38 : decode cX12_clause 38 = .ok (.istore_n 2, 1) := by decide +kernel
theorem dX12_clause_39 : decode cX12_clause 39 = .ok (.iload_n 2, 1) := by decide +kernel
theorem dX12_clause_40 : decode cX12_clause 40 = .ok (.bipush 24, 2) := by decide +kernel
theorem dX12_clause_42 : decode cX12_clause 42 = .ok (.if_icmp .ne 6, 3) := by decide +kernel
theorem dX12_clause_45 : decode cX12_clause 45 = .ok (.bipush 6, 2) := by decide +kernel
theorem dX12_clause_47 : decode cX12_clause 47 = .ok (.ireturn, 1) := by decide +kernel
theorem dX12_clause_48 : decode cX12_clause 48 = .ok (.iload_n 1, 1) := by decide +kernel
theorem dX12_clause_49 : decode cX12_clause 49 = .ok (.iconst 1, 1) := by decide +kernel
theorem dX12_clause_50 : decode cX12_clause 50 = .ok (.if_icmp .gt 15, 3) := by decide +kernel
theorem dX12_clause_53 : decode cX12_clause 53 = .ok (.aload_n 0, 1) := by decide +kernel
theorem dX12_clause_54 : decode cX12_clause 54 = .ok (.dup, 1) := by decide +kernel
theorem dX12_clause_55 : decode cX12_clause 55 = .ok (.getfield 255, 3) := by decide +kernel
theorem dX12_clause_58 : decode cX12_clause 58 = .ok (.iconst 1, 1) := by decide +kernel
theorem dX12_clause_59 : decode cX12_clause 59 = .ok (.iload_n 1, 1) := by decide +kernel
theorem dX12_clause_60 : decode cX12_clause 60 = .ok (.ishl, 1) := by decide +kernel
theorem dX12_clause_61 : decode cX12_clause 61 = .ok (.ior, 1) := by decide +kernel
theorem dX12_clause_62 : decode cX12_clause 62 = .ok (.putfield 255, 3) := by decide +kernel
theorem dX12_clause_65 : decode cX12_clause 65 = .ok (.aload_n 0, 1) := by decide +kernel
theorem dX12_clause_66 : decode cX12_clause 66 = .ok (.iload_n 1, 1) := by decide +kernel
theorem dX12_clause_67 : decode cX12_clause 67 = .ok (.putfield 157, 3) := by decide +kernel
theorem dX12_clause_70 : decode cX12_clause 70 = .ok (.aload_n 0, 1) := by decide +kernel
theorem dX12_clause_71 : decode cX12_clause 71 = .ok (.invokevirtual 180, 3) := by decide +kernel
theorem dX12_clause_74 : decode cX12_clause 74 = .ok (.aload_n 0, 1) := by decide +kernel
theorem dX12_clause_75 : decode cX12_clause 75 = .ok (.getfield 151, 3) := by decide +kernel
theorem dX12_clause_78 : decode cX12_clause 78 = .ok (.iconst 1, 1) := by decide +kernel
theorem dX12_clause_79 : decode cX12_clause 79 = .ok (.iadd, 1) := by decide +kernel
theorem dX12_clause_80 : decode cX12_clause 80 = .ok (.iconst 5, 1) := by decide +kernel
theorem dX12_clause_81 : decode cX12_clause 81 = .ok (.iload_n 2, 1) := by decide +kernel
theorem dX12_clause_82 : decode cX12_clause 82 = .ok (.imul, 1) := by decide +kernel
theorem dX12_clause_83 : decode cX12_clause 83 = .ok (.iadd, 1) := by decide +kernel
theorem dX12_clause_84 : decode cX12_clause 84 = .ok (.istore_n 3, 1) := by decide +kernel
theorem dX12_clause_85 : decode cX12_clause 85 = .ok (.aload_n 0, 1) := by decide +kernel
theorem dX12_clause_86 : decode cX12_clause 86 = .ok (.getfield 16, 3) := by decide +kernel
theorem dX12_clause_89 : decode cX12_clause 89 = .ok (.iload_n 3, 1) := by decide +kernel
theorem dX12_clause_90 : decode cX12_clause 90 = .ok (.iload_n 1, 1) := by decide +kernel
theorem dX12_clause_91 : decode cX12_clause 91 = .ok (.iastore, 1) := by decide +kernel
theorem dX12_clause_92 : decode cX12_clause 92 = .ok (.aload_n 0, 1) := by decide +kernel
theorem dX12_clause_93 : decode cX12_clause 93 = .ok (.iload_n 1, 1) := by decide +kernel
theorem dX12_clause_94 : decode cX12_clause 94 = .ok (.iload_n 3, 1) := by decide +kernel
theorem dX12_clause_95 : decode cX12_clause 95 = .ok (.invokevirtual 262, 3) := by decide +kernel
theorem dX12_clause_98 : decode cX12_clause 98 = .ok (.istore 4, 2) := by decide +kernel
theorem dX12_clause_100 : decode cX12_clause 100 = .ok (.iload 4, 2) := by decide +kernel
theorem dX12_clause_102 : decode cX12_clause 102 = .ok (.ifCond .eq 6, 3) := by decide +kernel
theorem dX12_clause_105 : decode cX12_clause 105 = .ok (.iload 4, 2) := by decide +kernel
theorem dX12_clause_107 : decode cX12_clause 107 = .ok (.ireturn, 1) := by decide +kernel
theorem dX12_clause_108 : decode cX12_clause 108 = .ok (.aload_n 0, 1) := by decide +kernel
theorem dX12_clause_109 : decode cX12_clause 109 = .ok (.getfield 16, 3) := by decide +kernel
theorem dX12_clause_112 : decode cX12_clause 112 = .ok (.aload_n 0, 1) := by decide +kernel
theorem dX12_clause_113 : decode cX12_clause 113 = .ok (.getfield 151, 3) := by decide +kernel
theorem dX12_clause_116 : decode cX12_clause 116 = .ok (.dup2, 1) := by decide +kernel
theorem dX12_clause_117 : decode cX12_clause 117 = .ok (.iaload, 1) := by decide +kernel
theorem dX12_clause_118 : decode cX12_clause 118 = .ok (.iconst 1, 1) := by decide +kernel
theorem dX12_clause_119 : decode cX12_clause 119 = .ok (.iadd, 1) := by decide +kernel
theorem dX12_clause_120 : decode cX12_clause 120 = .ok (.iastore, 1) := by decide +kernel
theorem dX12_clause_121 : decode cX12_clause 121 = .ok (.aload_n 0, 1) := by decide +kernel
theorem dX12_clause_122 : decode cX12_clause 122 = .ok (.getfield 113, 3) := by decide +kernel
theorem dX12_clause_125 : decode cX12_clause 125 = .ok (.bipush 59, 2) := by decide +kernel
theorem dX12_clause_127 : decode cX12_clause 127 = .ok (.if_icmp .eq 5, 3) := by decide +kernel
theorem dX12_clause_130 : decode cX12_clause 130 = .ok (.iconst 1, 1) := by decide +kernel
theorem dX12_clause_131 : decode cX12_clause 131 = .ok (.ireturn, 1) := by decide +kernel
theorem dX12_clause_132 : decode cX12_clause 132 = .ok (.aload_n 0, 1) := by decide +kernel
theorem dX12_clause_133 : decode cX12_clause 133 = .ok (.invokevirtual 180, 3) := by decide +kernel
theorem dX12_clause_136 : decode cX12_clause 136 = .ok (.iconst 0, 1) := by decide +kernel
theorem dX12_clause_137 : decode cX12_clause 137 = .ok (.ireturn, 1) := by decide +kernel
theorem dX12_readText_0 : decode cX12_readText 0 = .ok (.aload_n 0, 1) := by decide +kernel
theorem dX12_readText_1 : decode cX12_readText 1 = .ok (.sipush 729, 3) := by decide +kernel
theorem dX12_readText_4 : decode cX12_readText 4 = .ok (.aload_n 0, 1) := by decide +kernel
theorem dX12_readText_5 : decode cX12_readText 5 = .ok (.getfield 7, 3) := by decide +kernel
theorem dX12_readText_8 : decode cX12_readText 8 = .ok (.iconst 2, 1) := by decide +kernel
theorem dX12_readText_9 : decode cX12_readText 9 = .ok (.iaload, 1) := by decide +kernel
theorem dX12_readText_10 : decode cX12_readText 10 = .ok (.imul, 1) := by decide +kernel
theorem dX12_readText_11 : decode cX12_readText 11 = .ok (.putfield 151, 3) := by decide +kernel
theorem dX12_readText_14 : decode cX12_readText 14 = .ok (.aload_n 0, 1) := by decide +kernel
theorem dX12_readText_15 : decode cX12_readText 15 = .ok (.getfield 16, 3) := by decide +kernel
theorem dX12_readText_18 : decode cX12_readText 18 = .ok (.aload_n 0, 1) := by decide +kernel
theorem dX12_readText_19 : decode cX12_readText 19 = .ok (.getfield 151, 3) := by decide +kernel
theorem dX12_readText_22 : decode cX12_readText 22 = .ok (.iconst 0, 1) := by decide +kernel
theorem dX12_readText_23 : decode cX12_readText 23 = .ok (.iastore, 1) := by decide +kernel
theorem dX12_readText_24 : decode cX12_readText 24 = .ok (.aload_n 0, 1) := by decide +kernel
theorem dX12_readText_25 : decode cX12_readText 25 = .ok (.iconst 0, 1) := by decide +kernel
theorem dX12_readText_26 : decode cX12_readText 26 = .ok (.putfield 154, 3) := by decide +kernel
theorem dX12_readText_29 : decode cX12_readText 29 = .ok (.aload_n 0, 1) := by decide +kernel
theorem dX12_readText_30 : decode cX12_readText 30 = .ok (.iconst 0, 1) := by decide +kernel
theorem dX12_readText_31 : decode cX12_readText 31 = .ok (.putfield 255, 3) := by decide +kernel
theorem dX12_readText_34 : decode cX12_readText 34 = .ok (.aload_n 0, 1) := by decide +kernel
theorem dX12_readText_35 : decode cX12_readText 35 = .ok (.iconst 0, 1) := by decide +kernel
theorem dX12_readText_36 : decode cX12_readText 36 = .ok (.putfield 103, 3) := by decide +kernel
theorem dX12_readText_39 : decode cX12_readText 39 = .ok (.aload_n 0, 1) := by decide +kernel
theorem dX12_readText_40 : decode cX12_readText 40 = .ok (.invokevirtual 180, 3) := by decide +kernel
theorem dX12_readText_43 : decode cX12_readText 43 = .ok (.aload_n 0, 1) := by decide +kernel
theorem dX12_readText_44 : decode cX12_readText 44 = .ok (.getfield 113, 3) := by decide +kernel
theorem dX12_readText_47 : decode cX12_readText 47 = .ok (.ifCond .eq 17, 3) := by decide +kernel
theorem dX12_readText_50 : decode cX12_readText 50 = .ok (.aload_n 0, 1) := by decide +kernel
theorem dX12_readText_51 : decode cX12_readText 51 = .ok (.invokevirtual 265, 3) := by decide +kernel
theorem dX12_readText_54 : decode cX12_readText 54 = .ok (.istore_n 1, 1) := by decide +kernel
theorem dX12_readText_55 : decode cX12_readText 55 = .ok (.iload_n 1, 1) := by decide +kernel
theorem dX12_readText_56 : decode cX12_readText 56 = .ok (.ifCond .eq 5, 3) := by decide +kernel
theorem dX12_readText_59 : decode cX12_readText 59 = .ok (.iload_n 1, 1) := by decide +kernel
theorem dX12_readText_60 : decode cX12_readText 60 = .ok (.ireturn, 1) := by decide +kernel
theorem dX12_readText_61 : decode cX12_readText 61 = .ok (.goto (-18), 3) := by decide +kernel
theorem dX12_readText_64 : decode cX12_readText 64 = .ok (.iconst 0, 1) := by decide +kernel
theorem dX12_readText_65 : decode cX12_readText 65 = .ok (.ireturn, 1) := by decide +kernel
theorem dX12_text_0 : decode cX12_text 0 = .ok (.aload_n 0, 1) := by decide +kernel
theorem dX12_text_1 : decode cX12_text 1 = .ok (.getfield 7, 3) := by decide +kernel
theorem dX12_text_4 : decode cX12_text 4 = .ok (.iconst 2, 1) := by decide +kernel
theorem dX12_text_5 : decode cX12_text 5 = .ok (.iaload, 1) := by decide +kernel
theorem dX12_text_6 : decode cX12_text 6 = .ok (.iconst 4, 1) := by decide +kernel
theorem dX12_text_7 : decode cX12_text 7 = .ok (.if_icmp .ne 5, 3) := by decide +kernel
theorem dX12_text_10 : decode cX12_text 10 = .ok (.iconst (-1), 1) := by decide +kernel
theorem dX12_text_11 : decode cX12_text 11 = .ok (.ireturn, 1) := by decide +kernel
theorem dX12_text_12 : decode cX12_text 12 = .ok (.aload_n 0, 1) := by decide +kernel
theorem dX12_text_13 : decode cX12_text 13 = .ok (.aload_n 0, 1) := by decide +kernel
theorem dX12_text_14 : decode cX12_text 14 = .ok (.invokevirtual 268, 3) := by decide +kernel
theorem dX12_text_17 : decode cX12_text 17 = .ok (.putfield 22, 3) := by decide +kernel
theorem dX12_text_20 : decode cX12_text 20 = .ok (.aload_n 0, 1) := by decide +kernel
theorem dX12_text_21 : decode cX12_text 21 = .ok (.aload_n 0, 1) := by decide +kernel
theorem dX12_text_22 : decode cX12_text 22 = .ok (.getfield 22, 3) := by decide +kernel
theorem dX12_text_25 : decode cX12_text 25 = .ok (.ifCond .ne 7, 3) := by decide +kernel
theorem dX12_text_28 : decode cX12_text 28 = .ok (.iconst (-1), 1) := by decide +kernel
theorem dX12_text_29 : decode cX12_text 29 = .ok (.goto 7, 3) := by decide +kernel
theorem dX12_text_32 : decode cX12_text 32 = .ok (.aload_n 0, 1) := by decide +kernel
theorem dX12_text_33 : decode cX12_text 33 = .ok (.getfield 110, 3) := by decide +kernel
theorem dX12_text_36 : decode cX12_text 36 = .ok (.putfield 26, 3) := by decide +kernel
theorem dX12_text_39 : decode cX12_text 39 = .ok (.aload_n 0, 1) := by decide +kernel
theorem dX12_text_40 : decode cX12_text 40 = .ok (.iconst 0, 1) := by decide +kernel
theorem dX12_text_41 : decode cX12_text 41 = .ok (.putfield 97, 3) := by decide +kernel
theorem dX12_text_44 : decode cX12_text 44 = .ok (.aload_n 0, 1) := by decide +kernel
theorem dX12_text_45 : decode cX12_text 45 = .ok (.getfield 22, 3) := by decide +kernel
theorem dX12_text_48 : decode cX12_text 48 = .ok (.ifCond .eq 5, 3) := by decide +kernel
theorem dX12_text_51 : decode cX12_text 51 = .ok (.iconst (-1), 1) := by decide +kernel
theorem dX12_text_52 : decode cX12_text 52 = .ok (.ireturn, 1) := by decide +kernel
theorem dX12_text_53 : decode cX12_text 53 = .ok (.aload_n 0, 1) := by decide +kernel
theorem dX12_text_54 : decode cX12_text 54 = .ok (.getfield 7, 3) := by decide +kernel
theorem dX12_text_57 : decode cX12_text 57 = .ok (.iconst 2, 1) := by decide +kernel
theorem dX12_text_58 : decode cX12_text 58 = .ok (.dup2, 1) := by decide +kernel
theorem dX12_text_59 : decode cX12_text 59 = .ok (.iaload, 1) := by decide +kernel
theorem dX12_text_60 : decode cX12_text 60 = .ok (.iconst 1, 1) := by decide +kernel
theorem dX12_text_61 : decode cX12_text 61 = .ok (.iadd, 1) := by decide +kernel
theorem dX12_text_62 : decode cX12_text 62 = .ok (.iastore, 1) := by decide +kernel
theorem dX12_text_63 : decode cX12_text 63 = .ok (.aload_n 0, 1) := by decide +kernel
theorem dX12_text_64 : decode cX12_text 64 = .ok (.getfield 7, 3) := by decide +kernel
theorem dX12_text_67 : decode cX12_text 67 = .ok (.iconst 2, 1) := by decide +kernel
theorem dX12_text_68 : decode cX12_text 68 = .ok (.iaload, 1) := by decide +kernel
theorem dX12_text_69 : decode cX12_text 69 = .ok (.iconst 1, 1) := by decide +kernel
theorem dX12_text_70 : decode cX12_text 70 = .ok (.isub, 1) := by decide +kernel
theorem dX12_text_71 : decode cX12_text 71 = .ok (.ireturn, 1) := by decide +kernel
theorem dX12_fault_0 : decode cX12_fault 0 = .ok (.iload_n 1, 1) := by decide +kernel
theorem dX12_fault_1 : decode cX12_fault 1 = .ok (.ifCond .ne 10, 3) := by decide +kernel
theorem dX12_fault_4 : decode cX12_fault 4 = .ok (.aload_n 0, 1) := by decide +kernel
theorem dX12_fault_5 : decode cX12_fault 5 = .ok (.getfield 22, 3) := by decide +kernel
theorem dX12_fault_8 : decode cX12_fault 8 = .ok (.goto 16, 3) := by decide +kernel
theorem dX12_fault_11 : decode cX12_fault 11 = .ok (.iload_n 1, 1) := by decide +kernel
theorem dX12_fault_12 : decode cX12_fault 12 = .ok (.iconst 1, 1) := by decide +kernel
theorem dX12_fault_13 : decode cX12_fault 13 = .ok (.if_icmp .ne 10, 3) := by decide +kernel
theorem dX12_fault_16 : decode cX12_fault 16 = .ok (.aload_n 0, 1) := by decide +kernel
theorem dX12_fault_17 : decode cX12_fault 17 = .ok (.getfield 26, 3) := by decide +kernel
theorem dX12_fault_20 : decode cX12_fault 20 = .ok (.goto 4, 3) := by decide +kernel
theorem dX12_fault_23 : decode cX12_fault 23 = .ok (.iconst (-1), 1) := by decide +kernel
theorem dX12_fault_24 : decode cX12_fault 24 = .ok (.ireturn, 1) := by decide +kernel
theorem dX12_by_0 : decode cX12_by 0 = .ok (.iload_n 1, 1) := by decide +kernel
theorem dX12_by_1 : decode cX12_by 1 = .ok (.iconst (-1), 1) := by decide +kernel
theorem dX12_by_2 : decode cX12_by 2 = .ok (.aload_n 0, 1) := by decide +kernel
theorem dX12_by_3 : decode cX12_by 3 = .ok (.getfield 7, 3) := by decide +kernel
theorem dX12_by_6 : decode cX12_by 6 = .ok (.iconst 2, 1) := by decide +kernel
theorem dX12_by_7 : decode cX12_by 7 = .ok (.iaload, 1) := by decide +kernel
theorem dX12_by_8 : decode cX12_by 8 = .ok (.iconst 1, 1) := by decide +kernel
theorem dX12_by_9 : decode cX12_by 9 = .ok (.isub, 1) := by decide +kernel
theorem dX12_by_10 : decode cX12_by 10 = .ok (.invokestatic 81, 3) := by decide +kernel
theorem dX12_by_13 : decode cX12_by 13 = .ok (.ifCond .ne 5, 3) := by decide +kernel
theorem dX12_by_16 : decode cX12_by 16 = .ok (.iconst 0, 1) := by decide +kernel
theorem dX12_by_17 : decode cX12_by 17 = .ok (.ireturn, 1) := by decide +kernel
theorem dX12_by_18 : decode cX12_by 18 = .ok (.aload_n 0, 1) := by decide +kernel
theorem dX12_by_19 : decode cX12_by 19 = .ok (.getfield 7, 3) := by decide +kernel
theorem dX12_by_22 : decode cX12_by 22 = .ok (.iconst 3, 1) := by decide +kernel
theorem dX12_by_23 : decode cX12_by 23 = .ok (.iload_n 1, 1) := by decide +kernel
theorem dX12_by_24 : decode cX12_by 24 = .ok (.iastore, 1) := by decide +kernel
theorem dX12_by_25 : decode cX12_by 25 = .ok (.iconst 1, 1) := by decide +kernel
theorem dX12_by_26 : decode cX12_by 26 = .ok (.ireturn, 1) := by decide +kernel
theorem dX12_clip_0 : decode cX12_clip 0 = .ok (.lload_n 0, 1) := by decide +kernel
theorem dX12_clip_1 : decode cX12_clip 1 = .ok (.ldc2_w 271, 3) := by decide +kernel
theorem dX12_clip_4 : decode cX12_clip 4 = .ok (.lcmp, 1) := by decide +kernel
theorem dX12_clip_5 : decode cX12_clip 5 = .ok (.ifCond .le 9, 3) := by decide +kernel
theorem dX12_clip_8 : decode cX12_clip 8 = .ok (.ldc2_w 271, 3) := by decide +kernel
theorem dX12_clip_11 : decode cX12_clip 11 = .ok (.goto 18, 3) := by decide +kernel
theorem dX12_clip_14 : decode cX12_clip 14 = .ok (.lload_n 0, 1) := by decide +kernel
theorem dX12_clip_15 : decode cX12_clip 15 = .ok (.ldc2_w 273, 3) := by decide +kernel
theorem dX12_clip_18 : decode cX12_clip 18 = .ok (.lcmp, 1) := by decide +kernel
theorem dX12_clip_19 : decode cX12_clip 19 = .ok (.ifCond .ge 9, 3) := by decide +kernel
theorem dX12_clip_22 : decode cX12_clip 22 = .ok (.ldc2_w 273, 3) := by decide +kernel
theorem dX12_clip_25 : decode cX12_clip 25 = .ok (.goto 4, 3) := by decide +kernel
theorem dX12_clip_28 : decode cX12_clip 28 = .ok (.lload_n 0, 1) := by decide +kernel
theorem dX12_clip_29 : decode cX12_clip 29 = .ok (.lreturn, 1) := by decide +kernel
theorem dX12_two_0 : decode cX12_two 0 = .ok (.iload_n 0, 1) := by decide +kernel
theorem dX12_two_1 : decode cX12_two 1 = .ok (.tableswitch 48 6 8 #[27, 34, 41], 27) := by decide +kernel
theorem dX12_two_28 : decode cX12_two 28 = .ok (.lload_n 1, 1) := by decide +kernel
theorem dX12_two_29 : decode cX12_two 29 = .ok (.lload_n 3, 1) := by decide +kernel
theorem dX12_two_30 : decode cX12_two 30 = .ok (.ladd, 1) := by decide +kernel
theorem dX12_two_31 : decode cX12_two 31 = .ok (.invokestatic 275, 3) := by decide +kernel
theorem dX12_two_34 : decode cX12_two 34 = .ok (.lreturn, 1) := by decide +kernel
theorem dX12_two_35 : decode cX12_two 35 = .ok (.lload_n 1, 1) := by decide +kernel
theorem dX12_two_36 : decode cX12_two 36 = .ok (.lload_n 3, 1) := by decide +kernel
theorem dX12_two_37 : decode cX12_two 37 = .ok (.lsub, 1) := by decide +kernel
theorem dX12_two_38 : decode cX12_two 38 = .ok (.invokestatic 275, 3) := by decide +kernel
theorem dX12_two_41 : decode cX12_two 41 = .ok (.lreturn, 1) := by decide +kernel
theorem dX12_two_42 : decode cX12_two 42 = .ok (.lload_n 1, 1) := by decide +kernel
theorem dX12_two_43 : decode cX12_two 43 = .ok (.lload_n 3, 1) := by decide +kernel
theorem dX12_two_44 : decode cX12_two 44 = .ok (.lmul, 1) := by decide +kernel
theorem dX12_two_45 : decode cX12_two 45 = .ok (.invokestatic 275, 3) := by decide +kernel
theorem dX12_two_48 : decode cX12_two 48 = .ok (.lreturn, 1) := by decide +kernel
theorem dX12_two_49 : decode cX12_two 49 = .ok (.lload_n 3, 1) := by decide +kernel
theorem dX12_two_50 : decode cX12_two 50 = .ok (.lconst 0, 1) := by decide +kernel
theorem dX12_two_51 : decode cX12_two 51 = .ok (.lcmp, 1) := by decide +kernel
theorem dX12_two_52 : decode cX12_two 52 = .ok (.ifCond .ne 7, 3) := by decide +kernel
theorem dX12_two_55 : decode cX12_two 55 = .ok (.lconst 0, 1) := by decide +kernel
theorem dX12_two_56 : decode cX12_two 56 = .ok (.goto 9, 3) := by decide +kernel
theorem dX12_two_59 : decode cX12_two 59 = .ok (.lload_n 1, 1) := by decide +kernel
theorem dX12_two_60 : decode cX12_two 60 = .ok (.lload_n 3, 1) := by decide +kernel
theorem dX12_two_61 : decode cX12_two 61 = .ok (.ldiv, 1) := by decide +kernel
theorem dX12_two_62 : decode cX12_two 62 = .ok (.invokestatic 275, 3) := by decide +kernel
theorem dX12_two_65 : decode cX12_two 65 = .ok (.lreturn, 1) := by decide +kernel
theorem dX12_isAsked_0 : decode cX12_isAsked 0 = .ok (.iload_n 0, 1) := by decide +kernel
theorem dX12_isAsked_1 : decode cX12_isAsked 1 = .ok (.bipush 10, 2) := by decide +kernel
theorem dX12_isAsked_3 : decode cX12_isAsked 3 = .ok (.if_icmp .ne 17, 3) := by decide +kernel
theorem dX12_isAsked_6 : decode cX12_isAsked 6 = .ok (.lload_n 1, 1) := by decide +kernel
theorem dX12_isAsked_7 : decode cX12_isAsked 7 = .ok (.lload_n 3, 1) := by decide +kernel
theorem dX12_isAsked_8 : decode cX12_isAsked 8 = .ok (.lcmp, 1) := by decide +kernel
theorem dX12_isAsked_9 : decode cX12_isAsked 9 = .ok (.ifCond .ge 7, 3) := by decide +kernel
theorem dX12_isAsked_12 : decode cX12_isAsked 12 = .ok (.iconst 1, 1) := by decide +kernel
theorem dX12_isAsked_13 : decode cX12_isAsked 13 = .ok (.goto 98, 3) := by decide +kernel
theorem dX12_isAsked_16 : decode cX12_isAsked 16 = .ok (.iconst 0, 1) := by decide +kernel
theorem dX12_isAsked_17 : decode cX12_isAsked 17 = .ok (.goto 94, 3) := by decide +kernel
theorem dX12_isAsked_20 : decode cX12_isAsked 20 = .ok (.iload_n 0, 1) := by decide +kernel
theorem dX12_isAsked_21 : decode cX12_isAsked 21 = .ok (.bipush 11, 2) := by decide +kernel
theorem dX12_isAsked_23 : decode cX12_isAsked 23 = .ok (.if_icmp .ne 17, 3) := by decide +kernel
theorem dX12_isAsked_26 : decode cX12_isAsked 26 = .ok (.lload_n 1, 1) := by decide +kernel
theorem dX12_isAsked_27 : decode cX12_isAsked 27 = .ok (.lload_n 3, 1) := by decide +kernel
theorem dX12_isAsked_28 : decode cX12_isAsked 28 = .ok (.lcmp, 1) := by decide +kernel
theorem dX12_isAsked_29 : decode cX12_isAsked 29 = .ok (.ifCond .gt 7, 3) := by decide +kernel
theorem dX12_isAsked_32 : decode cX12_isAsked 32 = .ok (.iconst 1, 1) := by decide +kernel
theorem dX12_isAsked_33 : decode cX12_isAsked 33 = .ok (.goto 78, 3) := by decide +kernel
theorem dX12_isAsked_36 : decode cX12_isAsked 36 = .ok (.iconst 0, 1) := by decide +kernel
theorem dX12_isAsked_37 : decode cX12_isAsked 37 = .ok (.goto 74, 3) := by decide +kernel
theorem dX12_isAsked_40 : decode cX12_isAsked 40 = .ok (.iload_n 0, 1) := by decide +kernel
theorem dX12_isAsked_41 : decode cX12_isAsked 41 = .ok (.bipush 12, 2) := by decide +kernel
theorem dX12_isAsked_43 : decode cX12_isAsked 43 = .ok (.if_icmp .ne 17, 3) := by decide +kernel
theorem dX12_isAsked_46 : decode cX12_isAsked 46 = .ok (.lload_n 1, 1) := by decide +kernel
theorem dX12_isAsked_47 : decode cX12_isAsked 47 = .ok (.lload_n 3, 1) := by decide +kernel
theorem dX12_isAsked_48 : decode cX12_isAsked 48 = .ok (.lcmp, 1) := by decide +kernel
theorem dX12_isAsked_49 : decode cX12_isAsked 49 = .ok (.ifCond .le 7, 3) := by decide +kernel
theorem dX12_isAsked_52 : decode cX12_isAsked 52 = .ok (.iconst 1, 1) := by decide +kernel
theorem dX12_isAsked_53 : decode cX12_isAsked 53 = .ok (.goto 58, 3) := by decide +kernel
theorem dX12_isAsked_56 : decode cX12_isAsked 56 = .ok (.iconst 0, 1) := by decide +kernel
theorem dX12_isAsked_57 : decode cX12_isAsked 57 = .ok (.goto 54, 3) := by decide +kernel
theorem dX12_isAsked_60 : decode cX12_isAsked 60 = .ok (.iload_n 0, 1) := by decide +kernel
theorem dX12_isAsked_61 : decode cX12_isAsked 61 = .ok (.bipush 13, 2) := by decide +kernel
theorem dX12_isAsked_63 : decode cX12_isAsked 63 = .ok (.if_icmp .ne 17, 3) := by decide +kernel
theorem dX12_isAsked_66 : decode cX12_isAsked 66 = .ok (.lload_n 1, 1) := by decide +kernel
theorem dX12_isAsked_67 : decode cX12_isAsked 67 = .ok (.lload_n 3, 1) := by decide +kernel
theorem dX12_isAsked_68 : decode cX12_isAsked 68 = .ok (.lcmp, 1) := by decide +kernel
theorem dX12_isAsked_69 : decode cX12_isAsked 69 = .ok (.ifCond .lt 7, 3) := by decide +kernel
theorem dX12_isAsked_72 : decode cX12_isAsked 72 = .ok (.iconst 1, 1) := by decide +kernel
theorem dX12_isAsked_73 : decode cX12_isAsked 73 = .ok (.goto 38, 3) := by decide +kernel
theorem dX12_isAsked_76 : decode cX12_isAsked 76 = .ok (.iconst 0, 1) := by decide +kernel
theorem dX12_isAsked_77 : decode cX12_isAsked 77 = .ok (.goto 34, 3) := by decide +kernel
theorem dX12_isAsked_80 : decode cX12_isAsked 80 = .ok (.iload_n 0, 1) := by decide +kernel
theorem dX12_isAsked_81 : decode cX12_isAsked 81 = .ok (.bipush 14, 2) := by decide +kernel
theorem dX12_isAsked_83 : decode cX12_isAsked 83 = .ok (.if_icmp .ne 17, 3) := by decide +kernel
theorem dX12_isAsked_86 : decode cX12_isAsked 86 = .ok (.lload_n 1, 1) := by decide +kernel
theorem dX12_isAsked_87 : decode cX12_isAsked 87 = .ok (.lload_n 3, 1) := by decide +kernel
theorem dX12_isAsked_88 : decode cX12_isAsked 88 = .ok (.lcmp, 1) := by decide +kernel
theorem dX12_isAsked_89 : decode cX12_isAsked 89 = .ok (.ifCond .ne 7, 3) := by decide +kernel
theorem dX12_isAsked_92 : decode cX12_isAsked 92 = .ok (.iconst 1, 1) := by decide +kernel
theorem dX12_isAsked_93 : decode cX12_isAsked 93 = .ok (.goto 18, 3) := by decide +kernel
theorem dX12_isAsked_96 : decode cX12_isAsked 96 = .ok (.iconst 0, 1) := by decide +kernel
theorem dX12_isAsked_97 : decode cX12_isAsked 97 = .ok (.goto 14, 3) := by decide +kernel
theorem dX12_isAsked_100 : decode cX12_isAsked 100 = .ok (.lload_n 1, 1) := by decide +kernel
theorem dX12_isAsked_101 : decode cX12_isAsked 101 = .ok (.lload_n 3, 1) := by decide +kernel
theorem dX12_isAsked_102 : decode cX12_isAsked 102 = .ok (.lcmp, 1) := by decide +kernel
theorem dX12_isAsked_103 : decode cX12_isAsked 103 = .ok (.ifCond .eq 7, 3) := by decide +kernel
theorem dX12_isAsked_106 : decode cX12_isAsked 106 = .ok (.iconst 1, 1) := by decide +kernel
theorem dX12_isAsked_107 : decode cX12_isAsked 107 = .ok (.goto 4, 3) := by decide +kernel
theorem dX12_isAsked_110 : decode cX12_isAsked 110 = .ok (.iconst 0, 1) := by decide +kernel
theorem dX12_isAsked_111 : decode cX12_isAsked 111 = .ok (.ireturn, 1) := by decide +kernel
theorem dX12_roadsOf_0 : decode cX12_roadsOf 0 = .ok (.lload_n 1, 1) := by decide +kernel
theorem dX12_roadsOf_1 : decode cX12_roadsOf 1 = .ok (.lconst 0, 1) := by decide +kernel
theorem dX12_roadsOf_2 : decode cX12_roadsOf 2 = .ok (.lcmp, 1) := by decide +kernel
theorem dX12_roadsOf_3 : decode cX12_roadsOf 3 = .ok (.ifCond .lt 29, 3) := by decide +kernel
theorem dX12_roadsOf_6 : decode cX12_roadsOf 6 = .ok (.lload_n 1, 1) := by decide +kernel
theorem dX12_roadsOf_7 : decode cX12_roadsOf 7 = .ok (.aload_n 0, 1) := by decide +kernel
theorem dX12_roadsOf_8 : decode cX12_roadsOf 8 = .ok (.getfield 7, 3) := by decide +kernel
theorem dX12_roadsOf_11 : decode cX12_roadsOf 11 = .ok (.iconst 0, 1) := by decide +kernel
theorem dX12_roadsOf_12 : decode cX12_roadsOf 12 = .ok (.iaload, 1) := by decide +kernel
theorem dX12_roadsOf_13 : decode cX12_roadsOf 13 = .ok (.i2l, 1) := by decide +kernel
theorem dX12_roadsOf_14 : decode cX12_roadsOf 14 = .ok (.lcmp, 1) := by decide +kernel
theorem dX12_roadsOf_15 : decode cX12_roadsOf 15 = .ok (.ifCond .ge 17, 3) := by decide +kernel
theorem dX12_roadsOf_18 : decode cX12_roadsOf 18 = .ok (.aload_n 0, 1) := by decide +kernel
theorem dX12_roadsOf_19 : decode cX12_roadsOf 19 = .ok (.getfield 7, 3) := by decide +kernel
theorem dX12_roadsOf_22 : decode cX12_roadsOf 22 = .ok (.bipush 11, 2) := by decide +kernel
theorem dX12_roadsOf_24 : decode cX12_roadsOf 24 = .ok (.lload_n 1, 1) := by decide +kernel
theorem dX12_roadsOf_25 : decode cX12_roadsOf 25 = .ok (.l2i, 1) := by decide +kernel
theorem dX12_roadsOf_26 : decode cX12_roadsOf 26 = .ok (.iadd, 1) := by decide +kernel
theorem dX12_roadsOf_27 : decode cX12_roadsOf 27 = .ok (.iaload, 1) := by decide +kernel
theorem dX12_roadsOf_28 : decode cX12_roadsOf 28 = .ok (.i2l, 1) := by decide +kernel
theorem dX12_roadsOf_29 : decode cX12_roadsOf 29 = .ok (.goto 4, 3) := by decide +kernel
theorem dX12_roadsOf_32 : decode cX12_roadsOf 32 = .ok (.lconst 0, 1) := by decide +kernel
theorem dX12_roadsOf_33 : decode cX12_roadsOf 33 = .ok (.lreturn, 1) := by decide +kernel
theorem dX12_commonOf_0 : decode cX12_commonOf 0 = .ok (.lload_n 0, 1) := by decide +kernel
theorem dX12_commonOf_1 : decode cX12_commonOf 1 = .ok (.lconst 0, 1) := by decide +kernel
theorem dX12_commonOf_2 : decode cX12_commonOf 2 = .ok (.lcmp, 1) := by decide +kernel
theorem dX12_commonOf_3 : decode cX12_commonOf 3 = .ok (.ifCond .ge 8, 3) := by decide +kernel
theorem dX12_commonOf_6 : decode cX12_commonOf 6 = .ok (.lload_n 0, 1) := by decide +kernel
theorem dX12_commonOf_7 : decode cX12_commonOf 7 = .ok (.lneg, 1) := by decide +kernel
theorem dX12_commonOf_8 : decode cX12_commonOf 8 = .ok (.goto 4, 3) := by decide +kernel
theorem dX12_commonOf_11 : decode cX12_commonOf 11 = .ok (.lload_n 0, 1) := by decide +kernel
theorem dX12_commonOf_12 : decode cX12_commonOf 12 = .ok (.lstore 4, 2) := by decide +kernel
theorem dX12_commonOf_14 : decode cX12_commonOf 14 = .ok (.lload_n 2, 1) := by decide +kernel
theorem dX12_commonOf_15 : decode cX12_commonOf 15 = .ok (.lconst 0, 1) := by decide +kernel
theorem dX12_commonOf_16 : decode cX12_commonOf 16 = .ok (.lcmp, 1) := by decide +kernel
theorem dX12_commonOf_17 : decode cX12_commonOf 17 = .ok (.ifCond .ge 8, 3) := by decide +kernel
theorem dX12_commonOf_20 : decode cX12_commonOf 20 = .ok (.lload_n 2, 1) := by decide +kernel
theorem dX12_commonOf_21 : decode cX12_commonOf 21 = .ok (.lneg, 1) := by decide +kernel
theorem dX12_commonOf_22 : decode cX12_commonOf 22 = .ok (.goto 4, 3) := by decide +kernel
theorem dX12_commonOf_25 : decode cX12_commonOf 25 = .ok (.lload_n 2, 1) := by decide +kernel
theorem dX12_commonOf_26 : decode cX12_commonOf 26 = .ok (.lstore 6, 2) := by decide +kernel
theorem dX12_commonOf_28 : decode cX12_commonOf 28 = .ok (.lload 6, 2) := by decide +kernel
theorem dX12_commonOf_30 : decode cX12_commonOf 30 = .ok (.lconst 0, 1) := by decide +kernel
theorem dX12_commonOf_31 : decode cX12_commonOf 31 = .ok (.lcmp, 1) := by decide +kernel
theorem dX12_commonOf_32 : decode cX12_commonOf 32 = .ok (.ifCond .eq 21, 3) := by decide +kernel
theorem dX12_commonOf_35 : decode cX12_commonOf 35 = .ok (.lload 4, 2) := by decide +kernel
theorem dX12_commonOf_37 : decode cX12_commonOf 37 = .ok (.lload 6, 2) := by decide +kernel
theorem dX12_commonOf_39 : decode cX12_commonOf 39 = .ok (.lrem, 1) := by decide +kernel
theorem dX12_commonOf_40 : decode cX12_commonOf 40 = .ok (.lstore 8, 2) := by decide +kernel
theorem dX12_commonOf_42 : decode cX12_commonOf 42 = .ok (.lload 6, 2) := by decide +kernel
theorem dX12_commonOf_44 : decode cX12_commonOf 44 = .ok (.lstore 4, 2) := by decide +kernel
theorem dX12_commonOf_46 : decode cX12_commonOf 46 = .ok (.lload 8, 2) := by decide +kernel
theorem dX12_commonOf_48 : decode cX12_commonOf 48 = .ok (.lstore 6, 2) := by decide +kernel
theorem dX12_commonOf_50 : decode cX12_commonOf 50 = .ok (.goto (-22), 3) := by decide +kernel
theorem dX12_commonOf_53 : decode cX12_commonOf 53 = .ok (.lload 4, 2) := by decide +kernel
theorem dX12_commonOf_55 : decode cX12_commonOf 55 = .ok (.lreturn, 1) := by decide +kernel
theorem dX12_joined_0 : decode cX12_joined 0 = .ok (.iload_n 0, 1) := by decide +kernel
theorem dX12_joined_1 : decode cX12_joined 1 = .ok (.bipush 21, 2) := by decide +kernel
theorem dX12_joined_3 : decode cX12_joined 3 = .ok (.if_icmp .ne 19, 3) := by decide +kernel
theorem dX12_joined_6 : decode cX12_joined 6 = .ok (.iload_n 1, 1) := by decide +kernel
theorem dX12_joined_7 : decode cX12_joined 7 = .ok (.ifCond .eq 11, 3) := by decide +kernel
theorem dX12_joined_10 : decode cX12_joined 10 = .ok (.iload_n 2, 1) := by decide +kernel
theorem dX12_joined_11 : decode cX12_joined 11 = .ok (.ifCond .eq 7, 3) := by decide +kernel
theorem dX12_joined_14 : decode cX12_joined 14 = .ok (.iconst 1, 1) := by decide +kernel
theorem dX12_joined_15 : decode cX12_joined 15 = .ok (.goto 20, 3) := by decide +kernel
theorem dX12_joined_18 : decode cX12_joined 18 = .ok (.iconst 0, 1) := by decide +kernel
theorem dX12_joined_19 : decode cX12_joined 19 = .ok (.goto 16, 3) := by decide +kernel
theorem dX12_joined_22 : decode cX12_joined 22 = .ok (.iload_n 1, 1) := by decide +kernel
theorem dX12_joined_23 : decode cX12_joined 23 = .ok (.ifCond .ne 7, 3) := by decide +kernel
theorem dX12_joined_26 : decode cX12_joined 26 = .ok (.iload_n 2, 1) := by decide +kernel
theorem dX12_joined_27 : decode cX12_joined 27 = .ok (.ifCond .eq 7, 3) := by decide +kernel
theorem dX12_joined_30 : decode cX12_joined 30 = .ok (.iconst 1, 1) := by decide +kernel
theorem dX12_joined_31 : decode cX12_joined 31 = .ok (.goto 4, 3) := by decide +kernel
theorem dX12_joined_34 : decode cX12_joined 34 = .ok (.iconst 0, 1) := by decide +kernel
theorem dX12_joined_35 : decode cX12_joined 35 = .ok (.ireturn, 1) := by decide +kernel
theorem dX12_summedUp_0 : decode cX12_summedUp 0 = .ok (.sipush 729, 3) := by decide +kernel
theorem dX12_summedUp_3 : decode cX12_summedUp 3 = .ok (.iload_n 1, 1) := by decide +kernel
theorem dX12_summedUp_4 : decode cX12_summedUp 4 = .ok (.imul, 1) := by decide +kernel
theorem dX12_summedUp_5 : decode cX12_summedUp 5 = .ok (.iconst 1, 1) := by decide +kernel
theorem dX12_summedUp_6 : decode cX12_summedUp 6 = .ok (.iadd, 1) := by decide +kernel
theorem dX12_summedUp_7 : decode cX12_summedUp 7 = .ok (.iconst 5, 1) := by decide +kernel
theorem dX12_summedUp_8 : decode cX12_summedUp 8 = .ok (.iload_n 2, 1) := by decide +kernel
theorem dX12_summedUp_9 : decode cX12_summedUp 9 = .ok (.imul, 1) := by decide +kernel
theorem dX12_summedUp_10 : decode cX12_summedUp 10 = .ok (.iadd, 1) := by decide +kernel
theorem dX12_summedUp_11 : decode cX12_summedUp 11 = .ok (.istore_n 3, 1) := by decide +kernel
theorem dX12_summedUp_12 : decode cX12_summedUp 12 = .ok (.sipush 729, 3) := by decide +kernel
theorem dX12_summedUp_15 : decode cX12_summedUp 15 = .ok (.iload_n 1, 1) := by decide +kernel
theorem dX12_summedUp_16 : decode cX12_summedUp 16 = .ok (.imul, 1) := by decide +kernel
theorem dX12_summedUp_17 : decode cX12_summedUp 17 = .ok (.bipush 121, 2) := by decide +kernel
theorem dX12_summedUp_19 : decode cX12_summedUp 19 = .ok (.iadd, 1) := by decide +kernel
theorem dX12_summedUp_20 : decode cX12_summedUp 20 = .ok (.istore 4, 2) := by decide +kernel
theorem dX12_summedUp_22 : decode cX12_summedUp 22 = .ok (.iconst 0, 1) := by decide +kernel
theorem dX12_summedUp_23 : decode cX12_summedUp 23 = .ok (.istore 5, 2) := by decide +kernel
theorem dX12_summedUp_25 : decode cX12_summedUp 25 = .ok (.iconst 0, 1) := by decide +kernel
theorem dX12_summedUp_26 : decode cX12_summedUp 26 = .ok (.istore 6, 2) := by decide +kernel
theorem dX12_summedUp_28 : decode cX12_summedUp 28 = .ok (.aload_n 0, 1) := by decide +kernel
theorem dX12_summedUp_29 : decode cX12_summedUp 29 = .ok (.getfield 16, 3) := by decide +kernel
theorem dX12_summedUp_32 : decode cX12_summedUp 32 = .ok (.iload_n 3, 1) := by decide +kernel
theorem dX12_summedUp_33 : decode cX12_summedUp 33 = .ok (.iconst 1, 1) := by decide +kernel
theorem dX12_summedUp_34 : decode cX12_summedUp 34 = .ok (.iadd, 1) := by decide +kernel
theorem dX12_summedUp_35 : decode cX12_summedUp 35 = .ok (.iaload, 1) := by decide +kernel
theorem dX12_summedUp_36 : decode cX12_summedUp 36 = .ok (.istore 7, 2) := by decide +kernel
theorem dX12_summedUp_38 : decode cX12_summedUp 38 = .ok (.iload 7, 2) := by decide +kernel
theorem dX12_summedUp_40 : decode cX12_summedUp 40 = .ok (.aload_n 0, 1) := by decide +kernel
theorem dX12_summedUp_41 : decode cX12_summedUp 41 = .ok (.getfield 16, 3) := by decide +kernel
theorem dX12_summedUp_44 : decode cX12_summedUp 44 = .ok (.iload_n 3, 1) := by decide +kernel
theorem dX12_summedUp_45 : decode cX12_summedUp 45 = .ok (.iconst 2, 1) := by decide +kernel
theorem dX12_summedUp_46 : decode cX12_summedUp 46 = .ok (.iadd, 1) := by decide +kernel
theorem dX12_summedUp_47 : decode cX12_summedUp 47 = .ok (.iaload, 1) := by decide +kernel
theorem dX12_summedUp_48 : decode cX12_summedUp 48 = .ok (.if_icmp .ge 358, 3) := by decide +kernel
theorem dX12_summedUp_51 : decode cX12_summedUp 51 = .ok (.aload_n 0, 1) := by decide +kernel
theorem dX12_summedUp_52 : decode cX12_summedUp 52 = .ok (.getfield 16, 3) := by decide +kernel
theorem dX12_summedUp_55 : decode cX12_summedUp 55 = .ok (.iload 4, 2) := by decide +kernel
theorem dX12_summedUp_57 : decode cX12_summedUp 57 = .ok (.iconst 2, 1) := by decide +kernel
theorem dX12_summedUp_58 : decode cX12_summedUp 58 = .ok (.iload 7, 2) := by decide +kernel
theorem dX12_summedUp_60 : decode cX12_summedUp 60 = .ok (.imul, 1) := by decide +kernel
theorem dX12_summedUp_61 : decode cX12_summedUp 61 = .ok (.iadd, 1) := by decide +kernel
theorem dX12_summedUp_62 : decode cX12_summedUp 62 = .ok (.iaload, 1) := by decide +kernel
theorem dX12_summedUp_63 : decode cX12_summedUp 63 = .ok (.istore 8, 2) := by decide +kernel
theorem dX12_summedUp_65 : decode cX12_summedUp 65 = .ok (.aload_n 0, 1) := by decide +kernel
theorem dX12_summedUp_66 : decode cX12_summedUp 66 = .ok (.getfield 16, 3) := by decide +kernel
theorem dX12_summedUp_69 : decode cX12_summedUp 69 = .ok (.iload 4, 2) := by decide +kernel
theorem dX12_summedUp_71 : decode cX12_summedUp 71 = .ok (.iconst 2, 1) := by decide +kernel
theorem dX12_summedUp_72 : decode cX12_summedUp 72 = .ok (.iload 7, 2) := by decide +kernel
theorem dX12_summedUp_74 : decode cX12_summedUp 74 = .ok (.imul, 1) := by decide +kernel
theorem dX12_summedUp_75 : decode cX12_summedUp 75 = .ok (.iadd, 1) := by decide +kernel
theorem dX12_summedUp_76 : decode cX12_summedUp 76 = .ok (.iconst 1, 1) := by decide +kernel
theorem dX12_summedUp_77 : decode cX12_summedUp 77 = .ok (.iadd, 1) := by decide +kernel
theorem dX12_summedUp_78 : decode cX12_summedUp 78 = .ok (.iaload, 1) := by decide +kernel
theorem dX12_summedUp_79 : decode cX12_summedUp 79 = .ok (.istore 9, 2) := by decide +kernel
theorem dX12_summedUp_81 : decode cX12_summedUp 81 = .ok (.iload 8, 2) := by decide +kernel
theorem dX12_summedUp_83 : decode cX12_summedUp 83 = .ok (.iconst 1, 1) := by decide +kernel
theorem dX12_summedUp_84 : decode cX12_summedUp 84 = .ok (.if_icmp .gt 35, 3) := by decide +kernel
theorem dX12_summedUp_87 : decode cX12_summedUp 87 = .ok (.aload_n 0, 1) := by decide +kernel
theorem dX12_summedUp_88 : decode cX12_summedUp 88 = .ok (.getfield 35, 3) := by decide +kernel
theorem dX12_summedUp_91 : decode cX12_summedUp 91 = .ok (.iload 5, 2) := by decide +kernel
theorem dX12_summedUp_93 : decode cX12_summedUp 93 = .ok (.iload 8, 2) := by decide +kernel
theorem dX12_summedUp_95 : decode cX12_summedUp 95 = .ok (.ifCond .ne 9, 3) := by decide +kernel
theorem dX12_summedUp_98 : decode cX12_summedUp 98 = .ok (.iload 9, 2) := by decide +kernel
theorem dX12_summedUp_100 : decode cX12_summedUp 100 = .ok (.i2l, 1) := by decide +kernel
theorem dX12_summedUp_101 : decode cX12_summedUp 101 = .ok (.goto 11, 3) := by decide +kernel
theorem dX12_summedUp_104 : decode cX12_summedUp 104 = .ok (.aload_n 0, 1) := by decide +kernel
theorem dX12_summedUp_105 : decode cX12_summedUp 105 = .ok (.getfield 32, 3) := by decide +kernel
theorem dX12_summedUp_108 : decode cX12_summedUp 108 = .ok (.iload 9, 2) := by decide +kernel
theorem dX12_summedUp_110 : decode cX12_summedUp 110 = .ok (.iaload, 1) := by decide +kernel
theorem dX12_summedUp_111 : decode cX12_summedUp 111 = .ok (.i2l, 1) := by decide +kernel
theorem dX12_summedUp_112 : decode cX12_summedUp 112 = .ok (.lastore, 1) := by decide +kernel
theorem dX12_summedUp_113 : decode cX12_summedUp 113 = .ok (.iinc 5 1, 3) := by decide +kernel
theorem dX12_summedUp_116 : decode cX12_summedUp 116 = .ok (.goto 284, 3) := by decide +kernel
theorem dX12_summedUp_119 : decode cX12_summedUp 119 = .ok (.iload 8, 2) := by decide +kernel
theorem dX12_summedUp_121 : decode cX12_summedUp 121 = .ok (.iconst 3, 1) := by decide +kernel
theorem dX12_summedUp_122 : decode cX12_summedUp 122 = .ok (.if_icmp .ne 38, 3) := by decide +kernel
theorem dX12_summedUp_125 : decode cX12_summedUp 125 = .ok (.iinc 5 (-1), 3) := by decide +kernel
theorem dX12_summedUp_128 : decode cX12_summedUp 128 = .ok (.iinc 6 (-1), 3) := by decide +kernel
theorem dX12_summedUp_131 : decode cX12_summedUp 131 = .ok (.aload_n 0, 1) := by decide +kernel
theorem dX12_summedUp_132 : decode cX12_summedUp 132 = .ok (.getfield 39, 3) := by decide +kernel
theorem dX12_summedUp_135 : decode cX12_summedUp 135 = .ok (.iload 6, 2) := by decide +kernel
theorem dX12_summedUp_137 : decode cX12_summedUp 137 = .ok (.baload, 1) := by decide +kernel
theorem dX12_summedUp_138 : decode cX12_summedUp 138 = .ok (.ifCond .ne 262, 3) := by decide +kernel
theorem dX12_summedUp_141 : decode cX12_summedUp 141 = .ok (.aload_n 0, 1) := by decide +kernel
theorem dX12_summedUp_142 : decode cX12_summedUp 142 = .ok (.getfield 35, 3) := by decide +kernel
theorem dX12_summedUp_145 : decode cX12_summedUp 145 = .ok (.iload 5, 2) := by decide +kernel
theorem dX12_summedUp_147 : decode cX12_summedUp 147 = .ok (.iconst 1, 1) := by decide +kernel
theorem dX12_summedUp_148 : decode cX12_summedUp 148 = .ok (.isub, 1) := by decide +kernel
theorem dX12_summedUp_149 : decode cX12_summedUp 149 = .ok (.aload_n 0, 1) := by decide +kernel
theorem dX12_summedUp_150 : decode cX12_summedUp 150 = .ok (.getfield 35, 3) := by decide +kernel
theorem dX12_summedUp_153 : decode cX12_summedUp 153 = .ok (.iload 5, 2) := by decide +kernel
theorem dX12_summedUp_155 : decode cX12_summedUp 155 = .ok (.laload, 1) := by decide +kernel
theorem dX12_summedUp_156 : decode cX12_summedUp 156 = .ok (.lastore, 1) := by decide +kernel
theorem dX12_summedUp_157 : decode cX12_summedUp 157 = .ok (.goto 243, 3) := by decide +kernel
theorem dX12_summedUp_160 : decode cX12_summedUp 160 = .ok (.iload 8, 2) := by decide +kernel
theorem dX12_summedUp_162 : decode cX12_summedUp 162 = .ok (.iconst 5, 1) := by decide +kernel
theorem dX12_summedUp_163 : decode cX12_summedUp 163 = .ok (.if_icmp .eq 9, 3) := by decide +kernel
theorem dX12_summedUp_166 : decode cX12_summedUp 166 = .ok (.iload 8, 2) := by decide +kernel
theorem dX12_summedUp_168 : decode cX12_summedUp 168 = .ok (.iconst 2, 1) := by decide +kernel
theorem dX12_summedUp_169 : decode cX12_summedUp 169 = .ok (.if_icmp .ne 47, 3) := by decide +kernel
theorem dX12_summedUp_172 : decode cX12_summedUp 172 = .ok (.aload_n 0, 1) := by decide +kernel
theorem dX12_summedUp_173 : decode cX12_summedUp 173 = .ok (.getfield 35, 3) := by decide +kernel
theorem dX12_summedUp_176 : decode cX12_summedUp 176 = .ok (.iload 5, 2) := by decide +kernel
theorem dX12_summedUp_178 : decode cX12_summedUp 178 = .ok (.iconst 1, 1) := by decide +kernel
theorem dX12_summedUp_179 : decode cX12_summedUp 179 = .ok (.isub, 1) := by decide +kernel
theorem dX12_summedUp_180 : decode cX12_summedUp 180 = .ok (.iload 8, 2) := by decide +kernel
theorem dX12_summedUp_182 : decode cX12_summedUp 182 = .ok (.iconst 5, 1) := by decide +kernel
theorem dX12_summedUp_183 : decode cX12_summedUp 183 = .ok (.if_icmp .ne 16, 3) := by decide +kernel
theorem dX12_summedUp_186 : decode cX12_summedUp 186 = .ok (.aload_n 0, 1) := by decide +kernel
theorem dX12_summedUp_187 : decode cX12_summedUp 187 = .ok (.getfield 35, 3) := by decide +kernel
theorem dX12_summedUp_190 : decode cX12_summedUp 190 = .ok (.iload 5, 2) := by decide +kernel
theorem dX12_summedUp_192 : decode cX12_summedUp 192 = .ok (.iconst 1, 1) := by decide +kernel
theorem dX12_summedUp_193 : decode cX12_summedUp 193 = .ok (.isub, 1) := by decide +kernel
theorem dX12_summedUp_194 : decode cX12_summedUp 194 = .ok (.laload, 1) := by decide +kernel
theorem dX12_summedUp_195 : decode cX12_summedUp 195 = .ok (.lneg, 1) := by decide +kernel
theorem dX12_summedUp_196 : decode cX12_summedUp 196 = .ok (.goto 16, 3) := by decide +kernel
theorem dX12_summedUp_199 : decode cX12_summedUp 199 = .ok (.aload_n 0, 1) := by decide +kernel
theorem dX12_summedUp_200 : decode cX12_summedUp 200 = .ok (.aload_n 0, 1) := by decide +kernel
theorem dX12_summedUp_201 : decode cX12_summedUp 201 = .ok (.getfield 35, 3) := by decide +kernel
theorem dX12_summedUp_204 : decode cX12_summedUp 204 = .ok (.iload 5, 2) := by decide +kernel
theorem dX12_summedUp_206 : decode cX12_summedUp 206 = .ok (.iconst 1, 1) := by decide +kernel
theorem dX12_summedUp_207 : decode cX12_summedUp 207 = .ok (.isub, 1) := by decide +kernel
theorem dX12_summedUp_208 : decode cX12_summedUp 208 = .ok (.laload, 1) := by decide +kernel
theorem dX12_summedUp_209 : decode cX12_summedUp 209 = .ok (.invokevirtual 279, 3) := by decide +kernel
theorem dX12_summedUp_212 : decode cX12_summedUp 212 = .ok (.lastore, 1) := by decide +kernel
theorem dX12_summedUp_213 : decode cX12_summedUp 213 = .ok (.goto 187, 3) := by decide +kernel
theorem dX12_summedUp_216 : decode cX12_summedUp 216 = .ok (.iload 8, 2) := by decide +kernel
theorem dX12_summedUp_218 : decode cX12_summedUp 218 = .ok (.bipush 10, 2) := by decide +kernel
theorem dX12_summedUp_220 : decode cX12_summedUp 220 = .ok (.if_icmp .ge 67, 3) := by decide +kernel
theorem dX12_summedUp_223 : decode cX12_summedUp 223 = .ok (.iinc 5 (-1), 3) := by decide +kernel
theorem dX12_summedUp_226 : decode cX12_summedUp 226 = .ok (.aload_n 0, 1) := by decide +kernel
theorem dX12_summedUp_227 : decode cX12_summedUp 227 = .ok (.getfield 35, 3) := by decide +kernel
theorem dX12_summedUp_230 : decode cX12_summedUp 230 = .ok (.iload 5, 2) := by decide +kernel
theorem dX12_summedUp_232 : decode cX12_summedUp 232 = .ok (.iconst 1, 1) := by decide +kernel
theorem dX12_summedUp_233 : decode cX12_summedUp 233 = .ok (.isub, 1) := by decide +kernel
theorem dX12_summedUp_234 : decode cX12_summedUp 234 = .ok (.iload 8, 2) := by decide +kernel
theorem dX12_summedUp_236 : decode cX12_summedUp 236 = .ok (.iconst 4, 1) := by decide +kernel
theorem dX12_summedUp_237 : decode cX12_summedUp 237 = .ok (.if_icmp .ne 25, 3) := by decide +kernel
theorem dX12_summedUp_240 : decode cX12_summedUp 240 = .ok (.aload_n 0, 1) := by decide +kernel
theorem dX12_summedUp_241 : decode cX12_summedUp 241 = .ok (.getfield 35, 3) := by decide +kernel
theorem dX12_summedUp_244 : decode cX12_summedUp 244 = .ok (.iload 5, 2) := by decide +kernel
theorem dX12_summedUp_246 : decode cX12_summedUp 246 = .ok (.iconst 1, 1) := by decide +kernel
theorem dX12_summedUp_247 : decode cX12_summedUp 247 = .ok (.isub, 1) := by decide +kernel
theorem dX12_summedUp_248 : decode cX12_summedUp 248 = .ok (.laload, 1) := by decide +kernel
theorem dX12_summedUp_249 : decode cX12_summedUp 249 = .ok (.aload_n 0, 1) := by decide +kernel
theorem dX12_summedUp_250 : decode cX12_summedUp 250 = .ok (.getfield 35, 3) := by decide +kernel
theorem dX12_summedUp_253 : decode cX12_summedUp 253 = .ok (.iload 5, 2) := by decide +kernel
theorem dX12_summedUp_255 : decode cX12_summedUp 255 = .ok (.laload, 1) := by decide +kernel
theorem dX12_summedUp_256 : decode cX12_summedUp 256 = .ok (.invokestatic 282, 3) := by decide +kernel
theorem dX12_summedUp_259 : decode cX12_summedUp 259 = .ok (.goto 24, 3) := by decide +kernel
theorem dX12_summedUp_262 : decode cX12_summedUp 262 = .ok (.iload 8, 2) := by decide +kernel
theorem dX12_summedUp_264 : decode cX12_summedUp 264 = .ok (.aload_n 0, 1) := by decide +kernel
theorem dX12_summedUp_265 : decode cX12_summedUp 265 = .ok (.getfield 35, 3) := by decide +kernel
theorem dX12_summedUp_268 : decode cX12_summedUp 268 = .ok (.iload 5, 2) := by decide +kernel
theorem dX12_summedUp_270 : decode cX12_summedUp 270 = .ok (.iconst 1, 1) := by decide +kernel
theorem dX12_summedUp_271 : decode cX12_summedUp 271 = .ok (.isub, 1) := by decide +kernel
theorem dX12_summedUp_272 : decode cX12_summedUp 272 = .ok (.laload, 1) := by decide +kernel
theorem dX12_summedUp_273 : decode cX12_summedUp 273 = .ok (.aload_n 0, 1) := by decide +kernel
theorem dX12_summedUp_274 : decode cX12_summedUp 274 = .ok (.getfield 35, 3) := by decide +kernel
theorem dX12_summedUp_277 : decode cX12_summedUp 277 = .ok (.iload 5, 2) := by decide +kernel
theorem dX12_summedUp_279 : decode cX12_summedUp 279 = .ok (.laload, 1) := by decide +kernel
theorem dX12_summedUp_280 : decode cX12_summedUp 280 = .ok (.invokestatic 286, 3) := by decide +kernel
theorem dX12_summedUp_283 : decode cX12_summedUp 283 = .ok (.lastore, 1) := by decide +kernel
theorem dX12_summedUp_284 : decode cX12_summedUp 284 = .ok (.goto 116, 3) := by decide +kernel
theorem dX12_summedUp_287 : decode cX12_summedUp 287 = .ok (.iload 8, 2) := by decide +kernel
theorem dX12_summedUp_289 : decode cX12_summedUp 289 = .ok (.bipush 20, 2) := by decide +kernel
theorem dX12_summedUp_291 : decode cX12_summedUp 291 = .ok (.if_icmp .ge 40, 3) := by decide +kernel
theorem dX12_summedUp_294 : decode cX12_summedUp 294 = .ok (.iinc 5 (-2), 3) := by decide +kernel
theorem dX12_summedUp_297 : decode cX12_summedUp 297 = .ok (.aload_n 0, 1) := by decide +kernel
theorem dX12_summedUp_298 : decode cX12_summedUp 298 = .ok (.getfield 39, 3) := by decide +kernel
theorem dX12_summedUp_301 : decode cX12_summedUp 301 = .ok (.iload 6, 2) := by decide +kernel
theorem dX12_summedUp_303 : decode cX12_summedUp 303 = .ok (.iload 8, 2) := by decide +kernel
theorem dX12_summedUp_305 : decode cX12_summedUp 305 = .ok (.aload_n 0, 1) := by decide +kernel
theorem dX12_summedUp_306 : decode cX12_summedUp 306 = .ok (.getfield 35, 3) := by decide +kernel
theorem dX12_summedUp_309 : decode cX12_summedUp 309 = .ok (.iload 5, 2) := by decide +kernel
theorem dX12_summedUp_311 : decode cX12_summedUp 311 = .ok (.laload, 1) := by decide +kernel
theorem dX12_summedUp_312 : decode cX12_summedUp 312 = .ok (.aload_n 0, 1) := by decide +kernel
theorem dX12_summedUp_313 : decode cX12_summedUp 313 = .ok (.getfield 35, 3) := by decide +kernel
theorem dX12_summedUp_316 : decode cX12_summedUp 316 = .ok (.iload 5, 2) := by decide +kernel
theorem dX12_summedUp_318 : decode cX12_summedUp 318 = .ok (.iconst 1, 1) := by decide +kernel
theorem dX12_summedUp_319 : decode cX12_summedUp 319 = .ok (.iadd, 1) := by decide +kernel
theorem dX12_summedUp_320 : decode cX12_summedUp 320 = .ok (.laload, 1) := by decide +kernel
theorem dX12_summedUp_321 : decode cX12_summedUp 321 = .ok (.invokestatic 290, 3) := by decide +kernel
theorem dX12_summedUp_324 : decode cX12_summedUp 324 = .ok (.bastore, 1) := by decide +kernel
theorem dX12_summedUp_325 : decode cX12_summedUp 325 = .ok (.iinc 6 1, 3) := by decide +kernel
theorem dX12_summedUp_328 : decode cX12_summedUp 328 = .ok (.goto 72, 3) := by decide +kernel
theorem dX12_summedUp_331 : decode cX12_summedUp 331 = .ok (.iload 8, 2) := by decide +kernel
theorem dX12_summedUp_333 : decode cX12_summedUp 333 = .ok (.bipush 20, 2) := by decide +kernel
theorem dX12_summedUp_335 : decode cX12_summedUp 335 = .ok (.if_icmp .ne 32, 3) := by decide +kernel
theorem dX12_summedUp_338 : decode cX12_summedUp 338 = .ok (.aload_n 0, 1) := by decide +kernel
theorem dX12_summedUp_339 : decode cX12_summedUp 339 = .ok (.getfield 39, 3) := by decide +kernel
theorem dX12_summedUp_342 : decode cX12_summedUp 342 = .ok (.iload 6, 2) := by decide +kernel
theorem dX12_summedUp_344 : decode cX12_summedUp 344 = .ok (.iconst 1, 1) := by decide +kernel
theorem dX12_summedUp_345 : decode cX12_summedUp 345 = .ok (.isub, 1) := by decide +kernel
theorem dX12_summedUp_346 : decode cX12_summedUp 346 = .ok (.aload_n 0, 1) := by decide +kernel
theorem dX12_summedUp_347 : decode cX12_summedUp 347 = .ok (.getfield 39, 3) := by decide +kernel
theorem dX12_summedUp_350 : decode cX12_summedUp 350 = .ok (.iload 6, 2) := by decide +kernel
theorem dX12_summedUp_352 : decode cX12_summedUp 352 = .ok (.iconst 1, 1) := by decide +kernel
theorem dX12_summedUp_353 : decode cX12_summedUp 353 = .ok (.isub, 1) := by decide +kernel
theorem dX12_summedUp_354 : decode cX12_summedUp 354 = .ok (.baload, 1) := by decide +kernel
theorem dX12_summedUp_355 : decode cX12_summedUp 355 = .ok (.ifCond .ne 7, 3) := by decide +kernel
theorem dX12_summedUp_358 : decode cX12_summedUp 358 = .ok (.iconst 1, 1) := by decide +kernel
theorem dX12_summedUp_359 : decode cX12_summedUp 359 = .ok (.goto 4, 3) := by decide +kernel
theorem dX12_summedUp_362 : decode cX12_summedUp 362 = .ok (.iconst 0, 1) := by decide +kernel
theorem dX12_summedUp_363 : decode cX12_summedUp 363 = .ok (.bastore, 1) := by decide +kernel
theorem dX12_summedUp_364 : decode cX12_summedUp 364 = .ok (.goto 36, 3) := by decide +kernel
theorem dX12_summedUp_367 : decode cX12_summedUp 367 = .ok (.iinc 6 (-1), 3) := by decide +kernel
theorem dX12_summedUp_370 : decode cX12_summedUp 370 = .ok (.aload_n 0, 1) := by decide +kernel
theorem dX12_summedUp_371 : decode cX12_summedUp 371 = .ok (.getfield 39, 3) := by decide +kernel
theorem dX12_summedUp_374 : decode cX12_summedUp 374 = .ok (.iload 6, 2) := by decide +kernel
theorem dX12_summedUp_376 : decode cX12_summedUp 376 = .ok (.iconst 1, 1) := by decide +kernel
theorem dX12_summedUp_377 : decode cX12_summedUp 377 = .ok (.isub, 1) := by decide +kernel
theorem dX12_summedUp_378 : decode cX12_summedUp 378 = .ok (.iload 8, 2) := by decide +kernel
theorem dX12_summedUp_380 : decode cX12_summedUp 380 = .ok (.aload_n 0, 1) := by decide +kernel
theorem dX12_summedUp_381 : decode cX12_summedUp 381 = .ok (.getfield 39, 3) := by decide +kernel
theorem dX12_summedUp_384 : decode cX12_summedUp 384 = .ok (.iload 6, 2) := by decide +kernel
theorem dX12_summedUp_386 : decode cX12_summedUp 386 = .ok (.iconst 1, 1) := by decide +kernel
theorem dX12_summedUp_387 : decode cX12_summedUp 387 = .ok (.isub, 1) := by decide +kernel
theorem dX12_summedUp_388 : decode cX12_summedUp 388 = .ok (.baload, 1) := by decide +kernel
theorem dX12_summedUp_389 : decode cX12_summedUp 389 = .ok (.aload_n 0, 1) := by decide +kernel
theorem dX12_summedUp_390 : decode cX12_summedUp 390 = .ok (.getfield 39, 3) := by decide +kernel
theorem dX12_summedUp_393 : decode cX12_summedUp 393 = .ok (.iload 6, 2) := by decide +kernel
theorem dX12_summedUp_395 : decode cX12_summedUp 395 = .ok (.baload, 1) := by decide +kernel
theorem dX12_summedUp_396 : decode cX12_summedUp 396 = .ok (.invokestatic 294, 3) := by decide +kernel
theorem dX12_summedUp_399 : decode cX12_summedUp 399 = .ok (.bastore, 1) := by decide +kernel
theorem dX12_summedUp_400 : decode cX12_summedUp 400 = .ok (.iinc 7 1, 3) := by decide +kernel
theorem dX12_summedUp_403 : decode cX12_summedUp 403 = .ok (.goto (-365), 3) := by decide +kernel
theorem dX12_summedUp_406 : decode cX12_summedUp 406 = .ok (.aload_n 0, 1) := by decide +kernel
theorem dX12_summedUp_407 : decode cX12_summedUp 407 = .ok (.getfield 35, 3) := by decide +kernel
theorem dX12_summedUp_410 : decode cX12_summedUp 410 = .ok (.iconst 0, 1) := by decide +kernel
theorem dX12_summedUp_411 : decode cX12_summedUp 411 = .ok (.laload, 1) := by decide +kernel
theorem dX12_summedUp_412 : decode cX12_summedUp 412 = .ok (.lreturn, 1) := by decide +kernel
theorem dX12_says_0 : decode cX12_says 0 = .ok (.iconst 0, 1) := by decide +kernel
theorem dX12_says_1 : decode cX12_says 1 = .ok (.istore 5, 2) := by decide +kernel
theorem dX12_says_3 : decode cX12_says 3 = .ok (.iload_n 1, 1) := by decide +kernel
theorem dX12_says_4 : decode cX12_says 4 = .ok (.ifCond .lt 59, 3) := by decide +kernel
theorem dX12_says_7 : decode cX12_says 7 = .ok (.iload 5, 2) := by decide +kernel
theorem dX12_says_9 : decode cX12_says 9 = .ok (.aload_n 0, 1) := by decide +kernel
theorem dX12_says_10 : decode cX12_says 10 = .ok (.getfield 16, 3) := by decide +kernel
theorem dX12_says_13 : decode cX12_says 13 = .ok (.sipush 729, 3) := by decide +kernel
theorem dX12_says_16 : decode cX12_says 16 = .ok (.iload_n 1, 1) := by decide +kernel
theorem dX12_says_17 : decode cX12_says 17 = .ok (.imul, 1) := by decide +kernel
theorem dX12_says_18 : decode cX12_says 18 = .ok (.iaload, 1) := by decide +kernel
theorem dX12_says_19 : decode cX12_says 19 = .ok (.if_icmp .ge 44, 3) := by decide +kernel
theorem dX12_says_22 : decode cX12_says 22 = .ok (.aload_n 0, 1) := by decide +kernel
theorem dX12_says_23 : decode cX12_says 23 = .ok (.getfield 16, 3) := by decide +kernel
theorem dX12_says_26 : decode cX12_says 26 = .ok (.sipush 729, 3) := by decide +kernel
theorem dX12_says_29 : decode cX12_says 29 = .ok (.iload_n 1, 1) := by decide +kernel
theorem dX12_says_30 : decode cX12_says 30 = .ok (.imul, 1) := by decide +kernel
theorem dX12_says_31 : decode cX12_says 31 = .ok (.iconst 1, 1) := by decide +kernel
theorem dX12_says_32 : decode cX12_says 32 = .ok (.iadd, 1) := by decide +kernel
theorem dX12_says_33 : decode cX12_says 33 = .ok (.iconst 5, 1) := by decide +kernel
theorem dX12_says_34 : decode cX12_says 34 = .ok (.iload 5, 2) := by decide +kernel
theorem dX12_says_36 : decode cX12_says 36 = .ok (.imul, 1) := by decide +kernel
theorem dX12_says_37 : decode cX12_says 37 = .ok (.iadd, 1) := by decide +kernel
theorem dX12_says_38 : decode cX12_says 38 = .ok (.iaload, 1) := by decide +kernel
theorem dX12_says_39 : decode cX12_says 39 = .ok (.iload_n 2, 1) := by decide +kernel
theorem dX12_says_40 : decode cX12_says 40 = .ok (.if_icmp .ne 17, 3) := by decide +kernel
theorem dX12_says_43 : decode cX12_says 43 = .ok (.aload_n 0, 1) := by decide +kernel
theorem dX12_says_44 : decode cX12_says 44 = .ok (.iload_n 1, 1) := by decide +kernel
theorem dX12_says_45 : decode cX12_says 45 = .ok (.iload 5, 2) := by decide +kernel
theorem dX12_says_47 : decode cX12_says 47 = .ok (.invokevirtual 298, 3) := by decide +kernel
theorem dX12_says_50 : decode cX12_says 50 = .ok (.iconst 0, 1) := by decide +kernel
theorem dX12_says_51 : decode cX12_says 51 = .ok (.iload 4, 2) := by decide +kernel
theorem dX12_says_53 : decode cX12_says 53 = .ok (.invokestatic 301, 3) := by decide +kernel
theorem dX12_says_56 : decode cX12_says 56 = .ok (.ireturn, 1) := by decide +kernel
theorem dX12_says_57 : decode cX12_says 57 = .ok (.iinc 5 1, 3) := by decide +kernel
theorem dX12_says_60 : decode cX12_says 60 = .ok (.goto (-57), 3) := by decide +kernel
theorem dX12_says_63 : decode cX12_says 63 = .ok (.iload_n 3, 1) := by decide +kernel
theorem dX12_says_64 : decode cX12_says 64 = .ok (.ireturn, 1) := by decide +kernel
theorem dX12_name_0 : decode cX12_name 0 = .ok (.aload_n 0, 1) := by decide +kernel
theorem dX12_name_1 : decode cX12_name 1 = .ok (.getfield 32, 3) := by decide +kernel
theorem dX12_name_4 : decode cX12_name 4 = .ok (.iconst 0, 1) := by decide +kernel
theorem dX12_name_5 : decode cX12_name 5 = .ok (.aload_n 0, 1) := by decide +kernel
theorem dX12_name_6 : decode cX12_name 6 = .ok (.getfield 7, 3) := by decide +kernel
theorem dX12_name_9 : decode cX12_name 9 = .ok (.bipush 6, 2) := by decide +kernel
theorem dX12_name_11 : decode cX12_name 11 = .ok (.iaload, 1) := by decide +kernel
theorem dX12_name_12 : decode cX12_name 12 = .ok (.iastore, 1) := by decide +kernel
theorem dX12_name_13 : decode cX12_name 13 = .ok (.aload_n 0, 1) := by decide +kernel
theorem dX12_name_14 : decode cX12_name 14 = .ok (.getfield 32, 3) := by decide +kernel
theorem dX12_name_17 : decode cX12_name 17 = .ok (.iconst 1, 1) := by decide +kernel
theorem dX12_name_18 : decode cX12_name 18 = .ok (.aload_n 0, 1) := by decide +kernel
theorem dX12_name_19 : decode cX12_name 19 = .ok (.getfield 7, 3) := by decide +kernel
theorem dX12_name_22 : decode cX12_name 22 = .ok (.bipush 8, 2) := by decide +kernel
theorem dX12_name_24 : decode cX12_name 24 = .ok (.iaload, 1) := by decide +kernel
theorem dX12_name_25 : decode cX12_name 25 = .ok (.iastore, 1) := by decide +kernel
theorem dX12_name_26 : decode cX12_name 26 = .ok (.aload_n 0, 1) := by decide +kernel
theorem dX12_name_27 : decode cX12_name 27 = .ok (.getfield 32, 3) := by decide +kernel
theorem dX12_name_30 : decode cX12_name 30 = .ok (.iconst 2, 1) := by decide +kernel
theorem dX12_name_31 : decode cX12_name 31 = .ok (.iload_n 1, 1) := by decide +kernel
theorem dX12_name_32 : decode cX12_name 32 = .ok (.iastore, 1) := by decide +kernel
theorem dX12_name_33 : decode cX12_name 33 = .ok (.aload_n 0, 1) := by decide +kernel
theorem dX12_name_34 : decode cX12_name 34 = .ok (.getfield 32, 3) := by decide +kernel
theorem dX12_name_37 : decode cX12_name 37 = .ok (.iconst 3, 1) := by decide +kernel
theorem dX12_name_38 : decode cX12_name 38 = .ok (.aload_n 0, 1) := by decide +kernel
theorem dX12_name_39 : decode cX12_name 39 = .ok (.iload_n 1, 1) := by decide +kernel
theorem dX12_name_40 : decode cX12_name 40 = .ok (.iconst 2, 1) := by decide +kernel
theorem dX12_name_41 : decode cX12_name 41 = .ok (.invokevirtual 85, 3) := by decide +kernel
theorem dX12_name_44 : decode cX12_name 44 = .ok (.iastore, 1) := by decide +kernel
theorem dX12_name_45 : decode cX12_name 45 = .ok (.aload_n 0, 1) := by decide +kernel
theorem dX12_name_46 : decode cX12_name 46 = .ok (.getfield 32, 3) := by decide +kernel
theorem dX12_name_49 : decode cX12_name 49 = .ok (.iconst 4, 1) := by decide +kernel
theorem dX12_name_50 : decode cX12_name 50 = .ok (.aload_n 0, 1) := by decide +kernel
theorem dX12_name_51 : decode cX12_name 51 = .ok (.getfield 7, 3) := by decide +kernel
theorem dX12_name_54 : decode cX12_name 54 = .ok (.bipush 11, 2) := by decide +kernel
theorem dX12_name_56 : decode cX12_name 56 = .ok (.iload_n 1, 1) := by decide +kernel
theorem dX12_name_57 : decode cX12_name 57 = .ok (.iadd, 1) := by decide +kernel
theorem dX12_name_58 : decode cX12_name 58 = .ok (.iaload, 1) := by decide +kernel
theorem dX12_name_59 : decode cX12_name 59 = .ok (.iastore, 1) := by decide +kernel
theorem dX12_name_60 : decode cX12_name 60 = .ok (.aload_n 0, 1) := by decide +kernel
theorem dX12_name_61 : decode cX12_name 61 = .ok (.getfield 32, 3) := by decide +kernel
theorem dX12_name_64 : decode cX12_name 64 = .ok (.bipush 8, 2) := by decide +kernel
theorem dX12_name_66 : decode cX12_name 66 = .ok (.aload_n 0, 1) := by decide +kernel
theorem dX12_name_67 : decode cX12_name 67 = .ok (.iload_n 1, 1) := by decide +kernel
theorem dX12_name_68 : decode cX12_name 68 = .ok (.iconst 3, 1) := by decide +kernel
theorem dX12_name_69 : decode cX12_name 69 = .ok (.invokevirtual 85, 3) := by decide +kernel
theorem dX12_name_72 : decode cX12_name 72 = .ok (.iastore, 1) := by decide +kernel
theorem dX12_name_73 : decode cX12_name 73 = .ok (.return_, 1) := by decide +kernel
theorem dX12_sucksOf_0 : decode cX12_sucksOf 0 = .ok (.aload_n 0, 1) := by decide +kernel
theorem dX12_sucksOf_1 : decode cX12_sucksOf 1 = .ok (.iload_n 3, 1) := by decide +kernel
theorem dX12_sucksOf_2 : decode cX12_sucksOf 2 = .ok (.invokevirtual 305, 3) := by decide +kernel
theorem dX12_sucksOf_5 : decode cX12_sucksOf 5 = .ok (.aload_n 0, 1) := by decide +kernel
theorem dX12_sucksOf_6 : decode cX12_sucksOf 6 = .ok (.getfield 32, 3) := by decide +kernel
theorem dX12_sucksOf_9 : decode cX12_sucksOf 9 = .ok (.iconst 5, 1) := by decide +kernel
theorem dX12_sucksOf_10 : decode cX12_sucksOf 10 = .ok (.aload_n 0, 1) := by decide +kernel
theorem dX12_sucksOf_11 : decode cX12_sucksOf 11 = .ok (.iload_n 2, 1) := by decide +kernel
theorem dX12_sucksOf_12 : decode cX12_sucksOf 12 = .ok (.invokevirtual 308, 3) := by decide +kernel
theorem dX12_sucksOf_15 : decode cX12_sucksOf 15 = .ok (.iastore, 1) := by decide +kernel
theorem dX12_sucksOf_16 : decode cX12_sucksOf 16 = .ok (.aload_n 0, 1) := by decide +kernel
theorem dX12_sucksOf_17 : decode cX12_sucksOf 17 = .ok (.getfield 32, 3) := by decide +kernel
theorem dX12_sucksOf_20 : decode cX12_sucksOf 20 = .ok (.bipush 6, 2) := by decide +kernel
theorem dX12_sucksOf_22 : decode cX12_sucksOf 22 = .ok (.iload_n 2, 1) := by decide +kernel
theorem dX12_sucksOf_23 : decode cX12_sucksOf 23 = .ok (.iastore, 1) := by decide +kernel
theorem dX12_sucksOf_24 : decode cX12_sucksOf 24 = .ok (.aload_n 0, 1) := by decide +kernel
theorem dX12_sucksOf_25 : decode cX12_sucksOf 25 = .ok (.getfield 32, 3) := by decide +kernel
theorem dX12_sucksOf_28 : decode cX12_sucksOf 28 = .ok (.bipush 7, 2) := by decide +kernel
theorem dX12_sucksOf_30 : decode cX12_sucksOf 30 = .ok (.aload_n 0, 1) := by decide +kernel
theorem dX12_sucksOf_31 : decode cX12_sucksOf 31 = .ok (.iload_n 2, 1) := by decide +kernel
theorem dX12_sucksOf_32 : decode cX12_sucksOf 32 = .ok (.invokevirtual 311, 3) := by decide +kernel
theorem dX12_sucksOf_35 : decode cX12_sucksOf 35 = .ok (.iastore, 1) := by decide +kernel
theorem dX12_sucksOf_36 : decode cX12_sucksOf 36 = .ok (.aload_n 0, 1) := by decide +kernel
theorem dX12_sucksOf_37 : decode cX12_sucksOf 37 = .ok (.iload_n 1, 1) := by decide +kernel
theorem dX12_sucksOf_38 : decode cX12_sucksOf 38 = .ok (.iconst 0, 1) := by decide +kernel
theorem dX12_sucksOf_39 : decode cX12_sucksOf 39 = .ok (.iconst 1, 1) := by decide +kernel
theorem dX12_sucksOf_40 : decode cX12_sucksOf 40 = .ok (.aload_n 0, 1) := by decide +kernel
theorem dX12_sucksOf_41 : decode cX12_sucksOf 41 = .ok (.iload_n 2, 1) := by decide +kernel
theorem dX12_sucksOf_42 : decode cX12_sucksOf 42 = .ok (.invokevirtual 308, 3) := by decide +kernel
theorem dX12_sucksOf_45 : decode cX12_sucksOf 45 = .ok (.iconst 3, 1) := by decide +kernel
theorem dX12_sucksOf_46 : decode cX12_sucksOf 46 = .ok (.idiv, 1) := by decide +kernel
theorem dX12_sucksOf_47 : decode cX12_sucksOf 47 = .ok (.iadd, 1) := by decide +kernel
theorem dX12_sucksOf_48 : decode cX12_sucksOf 48 = .ok (.bipush 99, 2) := by decide +kernel
theorem dX12_sucksOf_50 : decode cX12_sucksOf 50 = .ok (.invokevirtual 314, 3) := by decide +kernel
theorem dX12_sucksOf_53 : decode cX12_sucksOf 53 = .ok (.ireturn, 1) := by decide +kernel
theorem dX12_swellsOf_0 : decode cX12_swellsOf 0 = .ok (.aload_n 0, 1) := by decide +kernel
theorem dX12_swellsOf_1 : decode cX12_swellsOf 1 = .ok (.iload_n 1, 1) := by decide +kernel
theorem dX12_swellsOf_2 : decode cX12_swellsOf 2 = .ok (.invokevirtual 305, 3) := by decide +kernel
theorem dX12_swellsOf_5 : decode cX12_swellsOf 5 = .ok (.aload_n 0, 1) := by decide +kernel
theorem dX12_swellsOf_6 : decode cX12_swellsOf 6 = .ok (.aload_n 0, 1) := by decide +kernel
theorem dX12_swellsOf_7 : decode cX12_swellsOf 7 = .ok (.getfield 7, 3) := by decide +kernel
theorem dX12_swellsOf_10 : decode cX12_swellsOf 10 = .ok (.iconst 3, 1) := by decide +kernel
theorem dX12_swellsOf_11 : decode cX12_swellsOf 11 = .ok (.iaload, 1) := by decide +kernel
theorem dX12_swellsOf_12 : decode cX12_swellsOf 12 = .ok (.iconst 1, 1) := by decide +kernel
theorem dX12_swellsOf_13 : decode cX12_swellsOf 13 = .ok (.aload_n 0, 1) := by decide +kernel
theorem dX12_swellsOf_14 : decode cX12_swellsOf 14 = .ok (.getfield 7, 3) := by decide +kernel
theorem dX12_swellsOf_17 : decode cX12_swellsOf 17 = .ok (.bipush 8, 2) := by decide +kernel
theorem dX12_swellsOf_19 : decode cX12_swellsOf 19 = .ok (.iaload, 1) := by decide +kernel
theorem dX12_swellsOf_20 : decode cX12_swellsOf 20 = .ok (.bipush 9, 2) := by decide +kernel
theorem dX12_swellsOf_22 : decode cX12_swellsOf 22 = .ok (.invokevirtual 314, 3) := by decide +kernel
theorem dX12_swellsOf_25 : decode cX12_swellsOf 25 = .ok (.ireturn, 1) := by decide +kernel
theorem dX12_write_0 : decode cX12_write 0 = .ok (.aload_n 0, 1) := by decide +kernel
theorem dX12_write_1 : decode cX12_write 1 = .ok (.getfield 43, 3) := by decide +kernel
theorem dX12_write_4 : decode cX12_write 4 = .ok (.ifCond .ne 4, 3) := by decide +kernel
theorem dX12_write_7 : decode cX12_write 7 = .ok (.return_, 1) := by decide +kernel
theorem dX12_write_8 : decode cX12_write 8 = .ok (.aload_n 0, 1) := by decide +kernel
theorem dX12_write_9 : decode cX12_write 9 = .ok (.getfield 7, 3) := by decide +kernel
theorem dX12_write_12 : decode cX12_write 12 = .ok (.bipush 10, 2) := by decide +kernel
theorem dX12_write_14 : decode cX12_write 14 = .ok (.iaload, 1) := by decide +kernel
theorem dX12_write_15 : decode cX12_write 15 = .ok (.bipush 30, 2) := by decide +kernel
theorem dX12_write_17 : decode cX12_write 17 = .ok (.if_icmp .ne 54, 3) := by decide +kernel
theorem dX12_write_20 : decode cX12_write 20 = .ok (.iconst 1, 1) := by decide +kernel
theorem dX12_write_21 : decode cX12_write 21 = .ok (.istore 4, 2) := by decide +kernel
theorem dX12_write_23 : decode cX12_write 23 = .ok (.iload 4, 2) := by decide +kernel
theorem dX12_write_25 : decode cX12_write 25 = .ok (.bipush 30, 2) := by decide +kernel
theorem dX12_write_27 : decode cX12_write 27 = .ok (.if_icmp .ge 33, 3) := by decide +kernel
theorem dX12_write_30 : decode cX12_write 30 = .ok (.aload_n 0, 1) := by decide +kernel
theorem dX12_write_31 : decode cX12_write 31 = .ok (.getfield 7, 3) := by decide +kernel
theorem dX12_write_34 : decode cX12_write 34 = .ok (.sipush 2089, 3) := by decide +kernel
theorem dX12_write_37 : decode cX12_write 37 = .ok (.iload 4, 2) := by decide +kernel
theorem dX12_write_39 : decode cX12_write 39 = .ok (.iadd, 1) := by decide +kernel
theorem dX12_write_40 : decode cX12_write 40 = .ok (.iconst 1, 1) := by decide +kernel
theorem dX12_write_41 : decode cX12_write 41 = .ok (.isub, 1) := by decide +kernel
theorem dX12_write_42 : decode cX12_write 42 = .ok (.aload_n 0, 1) := by decide +kernel
theorem dX12_write_43 : decode cX12_write 43 = .ok (.getfield 7, 3) := by decide +kernel
theorem dX12_write_46 : decode cX12_write 46 = .ok (.sipush 2089, 3) := by decide +kernel
theorem dX12_write_49 : decode cX12_write 49 = .ok (.iload 4, 2) := by decide +kernel
theorem dX12_write_51 : decode cX12_write 51 = .ok (.iadd, 1) := by decide +kernel
theorem dX12_write_52 : decode cX12_write 52 = .ok (.iaload, 1) := by decide +kernel
theorem dX12_write_53 : decode cX12_write 53 = .ok (.iastore, 1) := by decide +kernel
theorem dX12_write_54 : decode cX12_write 54 = .ok (.iinc 4 1, 3) := by decide +kernel
theorem dX12_write_57 : decode cX12_write 57 = .ok (.goto (-34), 3) := by decide +kernel
theorem dX12_write_60 : decode cX12_write 60 = .ok (.aload_n 0, 1) := by decide +kernel
theorem dX12_write_61 : decode cX12_write 61 = .ok (.getfield 7, 3) := by decide +kernel
theorem dX12_write_64 : decode cX12_write 64 = .ok (.bipush 10, 2) := by decide +kernel
theorem dX12_write_66 : decode cX12_write 66 = .ok (.dup2, 1) := by decide +kernel
theorem dX12_write_67 : decode cX12_write 67 = .ok (.iaload, 1) := by decide +kernel
theorem dX12_write_68 : decode cX12_write 68 = .ok (.iconst 1, 1) := by decide +kernel
theorem dX12_write_69 : decode cX12_write 69 = .ok (.isub, 1) := by decide +kernel
theorem dX12_write_70 : decode cX12_write 70 = .ok (.iastore, 1) := by decide +kernel
theorem dX12_write_71 : decode cX12_write 71 = .ok (.aload_n 0, 1) := by decide +kernel
theorem dX12_write_72 : decode cX12_write 72 = .ok (.getfield 7, 3) := by decide +kernel
theorem dX12_write_75 : decode cX12_write 75 = .ok (.sipush 2089, 3) := by decide +kernel
theorem dX12_write_78 : decode cX12_write 78 = .ok (.aload_n 0, 1) := by decide +kernel
theorem dX12_write_79 : decode cX12_write 79 = .ok (.getfield 7, 3) := by decide +kernel
theorem dX12_write_82 : decode cX12_write 82 = .ok (.bipush 10, 2) := by decide +kernel
theorem dX12_write_84 : decode cX12_write 84 = .ok (.iaload, 1) := by decide +kernel
theorem dX12_write_85 : decode cX12_write 85 = .ok (.iadd, 1) := by decide +kernel
theorem dX12_write_86 : decode cX12_write 86 = .ok (.aload_n 0, 1) := by decide +kernel
theorem dX12_write_87 : decode cX12_write 87 = .ok (.getfield 7, 3) := by decide +kernel
theorem dX12_write_90 : decode cX12_write 90 = .ok (.bipush 6, 2) := by decide +kernel
theorem dX12_write_92 : decode cX12_write 92 = .ok (.iaload, 1) := by decide +kernel
theorem dX12_write_93 : decode cX12_write 93 = .ok (.bipush 6, 2) := by decide +kernel
theorem dX12_write_95 : decode cX12_write 95 = .ok (.imul, 1) := by decide +kernel
theorem dX12_write_96 : decode cX12_write 96 = .ok (.iload_n 1, 1) := by decide +kernel
theorem dX12_write_97 : decode cX12_write 97 = .ok (.iadd, 1) := by decide +kernel
theorem dX12_write_98 : decode cX12_write 98 = .ok (.bipush 16, 2) := by decide +kernel
theorem dX12_write_100 : decode cX12_write 100 = .ok (.imul, 1) := by decide +kernel
theorem dX12_write_101 : decode cX12_write 101 = .ok (.iload_n 2, 1) := by decide +kernel
theorem dX12_write_102 : decode cX12_write 102 = .ok (.iadd, 1) := by decide +kernel
theorem dX12_write_103 : decode cX12_write 103 = .ok (.bipush 100, 2) := by decide +kernel
theorem dX12_write_105 : decode cX12_write 105 = .ok (.imul, 1) := by decide +kernel
theorem dX12_write_106 : decode cX12_write 106 = .ok (.iload_n 3, 1) := by decide +kernel
theorem dX12_write_107 : decode cX12_write 107 = .ok (.iadd, 1) := by decide +kernel
theorem dX12_write_108 : decode cX12_write 108 = .ok (.iastore, 1) := by decide +kernel
theorem dX12_write_109 : decode cX12_write 109 = .ok (.aload_n 0, 1) := by decide +kernel
theorem dX12_write_110 : decode cX12_write 110 = .ok (.getfield 7, 3) := by decide +kernel
theorem dX12_write_113 : decode cX12_write 113 = .ok (.bipush 10, 2) := by decide +kernel
theorem dX12_write_115 : decode cX12_write 115 = .ok (.dup2, 1) := by decide +kernel
theorem dX12_write_116 : decode cX12_write 116 = .ok (.iaload, 1) := by decide +kernel
theorem dX12_write_117 : decode cX12_write 117 = .ok (.iconst 1, 1) := by decide +kernel
theorem dX12_write_118 : decode cX12_write 118 = .ok (.iadd, 1) := by decide +kernel
theorem dX12_write_119 : decode cX12_write 119 = .ok (.iastore, 1) := by decide +kernel
theorem dX12_write_120 : decode cX12_write 120 = .ok (.return_, 1) := by decide +kernel
theorem dX12_drawnBy_0 : decode cX12_drawnBy 0 = .ok (.aload_n 0, 1) := by decide +kernel
theorem dX12_drawnBy_1 : decode cX12_drawnBy 1 = .ok (.getfield 7, 3) := by decide +kernel
theorem dX12_drawnBy_4 : decode cX12_drawnBy 4 = .ok (.bipush 7, 2) := by decide +kernel
theorem dX12_drawnBy_6 : decode cX12_drawnBy 6 = .ok (.iaload, 1) := by decide +kernel
theorem dX12_drawnBy_7 : decode cX12_drawnBy 7 = .ok (.iload_n 1, 1) := by decide +kernel
theorem dX12_drawnBy_8 : decode cX12_drawnBy 8 = .ok (.irem, 1) := by decide +kernel
theorem dX12_drawnBy_9 : decode cX12_drawnBy 9 = .ok (.istore_n 2, 1) := by decide +kernel
theorem dX12_drawnBy_10 : decode cX12_drawnBy 10 = .ok (.aload_n 0, 1) := by decide +kernel
theorem dX12_drawnBy_11 : decode cX12_drawnBy 11 = .ok (.invokevirtual 318, 3) := by decide +kernel
theorem dX12_drawnBy_14 : decode cX12_drawnBy 14 = .ok (.iload_n 2, 1) := by decide +kernel
theorem dX12_drawnBy_15 : decode cX12_drawnBy 15 = .ok (.ireturn, 1) := by decide +kernel
theorem dX12_anew_0 : decode cX12_anew 0 = .ok (.aload_n 0, 1) := by decide +kernel
theorem dX12_anew_1 : decode cX12_anew 1 = .ok (.getfield 7, 3) := by decide +kernel
theorem dX12_anew_4 : decode cX12_anew 4 = .ok (.bipush 7, 2) := by decide +kernel
theorem dX12_anew_6 : decode cX12_anew 6 = .ok (.aload_n 0, 1) := by decide +kernel
theorem dX12_anew_7 : decode cX12_anew 7 = .ok (.getfield 7, 3) := by decide +kernel
theorem dX12_anew_10 : decode cX12_anew 10 = .ok (.bipush 7, 2) := by decide +kernel
theorem dX12_anew_12 : decode cX12_anew 12 = .ok (.iaload, 1) := by decide +kernel
theorem dX12_anew_13 : decode cX12_anew 13 = .ok (.i2l, 1) := by decide +kernel
theorem dX12_anew_14 : decode cX12_anew 14 = .ok (.ldc2_w 321, 3) := by decide +kernel
theorem dX12_anew_17 : decode cX12_anew 17 = .ok (.lmul, 1) := by decide +kernel
theorem dX12_anew_18 : decode cX12_anew 18 = .ok (.ldc2_w 323, 3) := by decide +kernel
theorem dX12_anew_21 : decode cX12_anew 21 = .ok (.ladd, 1) := by decide +kernel
theorem dX12_anew_22 : decode cX12_anew 22 = .ok (.ldc2_w 325, 3) := by decide +kernel
theorem dX12_anew_25 : decode cX12_anew 25 = .ok (.lrem, 1) := by decide +kernel
theorem dX12_anew_26 : decode cX12_anew 26 = .ok (.l2i, 1) := by decide +kernel
theorem dX12_anew_27 : decode cX12_anew 27 = .ok (.iastore, 1) := by decide +kernel
theorem dX12_anew_28 : decode cX12_anew 28 = .ok (.return_, 1) := by decide +kernel
theorem dX12_isThick_0 : decode cX12_isThick 0 = .ok (.aload_n 0, 1) := by decide +kernel
theorem dX12_isThick_1 : decode cX12_isThick 1 = .ok (.getfield 7, 3) := by decide +kernel
theorem dX12_isThick_4 : decode cX12_isThick 4 = .ok (.bipush 11, 2) := by decide +kernel
theorem dX12_isThick_6 : decode cX12_isThick 6 = .ok (.iload_n 2, 1) := by decide +kernel
theorem dX12_isThick_7 : decode cX12_isThick 7 = .ok (.iadd, 1) := by decide +kernel
theorem dX12_isThick_8 : decode cX12_isThick 8 = .ok (.iaload, 1) := by decide +kernel
theorem dX12_isThick_9 : decode cX12_isThick 9 = .ok (.aload_n 0, 1) := by decide +kernel
theorem dX12_isThick_10 : decode cX12_isThick 10 = .ok (.aload_n 0, 1) := by decide +kernel
theorem dX12_isThick_11 : decode cX12_isThick 11 = .ok (.getfield 7, 3) := by decide +kernel
theorem dX12_isThick_14 : decode cX12_isThick 14 = .ok (.iconst 3, 1) := by decide +kernel
theorem dX12_isThick_15 : decode cX12_isThick 15 = .ok (.iaload, 1) := by decide +kernel
theorem dX12_isThick_16 : decode cX12_isThick 16 = .ok (.iload_n 1, 1) := by decide +kernel
theorem dX12_isThick_17 : decode cX12_isThick 17 = .ok (.iload_n 2, 1) := by decide +kernel
theorem dX12_isThick_18 : decode cX12_isThick 18 = .ok (.invokevirtual 327, 3) := by decide +kernel
theorem dX12_isThick_21 : decode cX12_isThick 21 = .ok (.if_icmp .lt 7, 3) := by decide +kernel
theorem dX12_isThick_24 : decode cX12_isThick 24 = .ok (.iconst 1, 1) := by decide +kernel
theorem dX12_isThick_25 : decode cX12_isThick 25 = .ok (.goto 4, 3) := by decide +kernel
theorem dX12_isThick_28 : decode cX12_isThick 28 = .ok (.iconst 0, 1) := by decide +kernel
theorem dX12_isThick_29 : decode cX12_isThick 29 = .ok (.ireturn, 1) := by decide +kernel
theorem dX12_canGo_0 : decode cX12_canGo 0 = .ok (.aload_n 0, 1) := by decide +kernel
theorem dX12_canGo_1 : decode cX12_canGo 1 = .ok (.iload_n 1, 1) := by decide +kernel
theorem dX12_canGo_2 : decode cX12_canGo 2 = .ok (.invokevirtual 330, 3) := by decide +kernel
theorem dX12_canGo_5 : decode cX12_canGo 5 = .ok (.ifCond .eq 38, 3) := by decide +kernel
theorem dX12_canGo_8 : decode cX12_canGo 8 = .ok (.aload_n 0, 1) := by decide +kernel
theorem dX12_canGo_9 : decode cX12_canGo 9 = .ok (.iload_n 2, 1) := by decide +kernel
theorem dX12_canGo_10 : decode cX12_canGo 10 = .ok (.invokevirtual 333, 3) := by decide +kernel
theorem dX12_canGo_13 : decode cX12_canGo 13 = .ok (.ifCond .eq 30, 3) := by decide +kernel
theorem dX12_canGo_16 : decode cX12_canGo 16 = .ok (.aload_n 0, 1) := by decide +kernel
theorem dX12_canGo_17 : decode cX12_canGo 17 = .ok (.iload_n 2, 1) := by decide +kernel
theorem dX12_canGo_18 : decode cX12_canGo 18 = .ok (.aload_n 0, 1) := by decide +kernel
theorem dX12_canGo_19 : decode cX12_canGo 19 = .ok (.iload_n 1, 1) := by decide +kernel
theorem dX12_canGo_20 : decode cX12_canGo 20 = .ok (.invokevirtual 336, 3) := by decide +kernel
theorem dX12_canGo_23 : decode cX12_canGo 23 = .ok (.invokevirtual 339, 3) := by decide +kernel
theorem dX12_canGo_26 : decode cX12_canGo 26 = .ok (.iconst (-1), 1) := by decide +kernel
theorem dX12_canGo_27 : decode cX12_canGo 27 = .ok (.if_icmp .eq 16, 3) := by decide +kernel
theorem dX12_canGo_30 : decode cX12_canGo 30 = .ok (.aload_n 0, 1) := by decide +kernel
theorem dX12_canGo_31 : decode cX12_canGo 31 = .ok (.iload_n 1, 1) := by decide +kernel
theorem dX12_canGo_32 : decode cX12_canGo 32 = .ok (.iload_n 2, 1) := by decide +kernel
theorem dX12_canGo_33 : decode cX12_canGo 33 = .ok (.invokevirtual 342, 3) := by decide +kernel
theorem dX12_canGo_36 : decode cX12_canGo 36 = .ok (.ifCond .eq 7, 3) := by decide +kernel
theorem dX12_canGo_39 : decode cX12_canGo 39 = .ok (.iconst 1, 1) := by decide +kernel
theorem dX12_canGo_40 : decode cX12_canGo 40 = .ok (.goto 4, 3) := by decide +kernel
theorem dX12_canGo_43 : decode cX12_canGo 43 = .ok (.iconst 0, 1) := by decide +kernel
theorem dX12_canGo_44 : decode cX12_canGo 44 = .ok (.ireturn, 1) := by decide +kernel
theorem dX12_goNow_0 : decode cX12_goNow 0 = .ok (.aload_n 0, 1) := by decide +kernel
theorem dX12_goNow_1 : decode cX12_goNow 1 = .ok (.aload_n 0, 1) := by decide +kernel
theorem dX12_goNow_2 : decode cX12_goNow 2 = .ok (.getfield 7, 3) := by decide +kernel
theorem dX12_goNow_5 : decode cX12_goNow 5 = .ok (.iconst 3, 1) := by decide +kernel
theorem dX12_goNow_6 : decode cX12_goNow 6 = .ok (.iaload, 1) := by decide +kernel
theorem dX12_goNow_7 : decode cX12_goNow 7 = .ok (.iload_n 1, 1) := by decide +kernel
theorem dX12_goNow_8 : decode cX12_goNow 8 = .ok (.iload_n 2, 1) := by decide +kernel
theorem dX12_goNow_9 : decode cX12_goNow 9 = .ok (.invokevirtual 327, 3) := by decide +kernel
theorem dX12_goNow_12 : decode cX12_goNow 12 = .ok (.istore_n 3, 1) := by decide +kernel
theorem dX12_goNow_13 : decode cX12_goNow 13 = .ok (.aload_n 0, 1) := by decide +kernel
theorem dX12_goNow_14 : decode cX12_goNow 14 = .ok (.getfield 7, 3) := by decide +kernel
theorem dX12_goNow_17 : decode cX12_goNow 17 = .ok (.bipush 11, 2) := by decide +kernel
theorem dX12_goNow_19 : decode cX12_goNow 19 = .ok (.iload_n 2, 1) := by decide +kernel
theorem dX12_goNow_20 : decode cX12_goNow 20 = .ok (.iadd, 1) := by decide +kernel
theorem dX12_goNow_21 : decode cX12_goNow 21 = .ok (.dup2, 1) := by decide +kernel
theorem dX12_goNow_22 : decode cX12_goNow 22 = .ok (.iaload, 1) := by decide +kernel
theorem dX12_goNow_23 : decode cX12_goNow 23 = .ok (.iload_n 3, 1) := by decide +kernel
theorem dX12_goNow_24 : decode cX12_goNow 24 = .ok (.isub, 1) := by decide +kernel
theorem dX12_goNow_25 : decode cX12_goNow 25 = .ok (.iastore, 1) := by decide +kernel
theorem dX12_goNow_26 : decode cX12_goNow 26 = .ok (.aload_n 0, 1) := by decide +kernel
theorem dX12_goNow_27 : decode cX12_goNow 27 = .ok (.getfield 7, 3) := by decide +kernel
theorem dX12_goNow_30 : decode cX12_goNow 30 = .ok (.bipush 27, 2) := by decide +kernel
theorem dX12_goNow_32 : decode cX12_goNow 32 = .ok (.iconst 2, 1) := by decide +kernel
theorem dX12_goNow_33 : decode cX12_goNow 33 = .ok (.iload_n 1, 1) := by decide +kernel
theorem dX12_goNow_34 : decode cX12_goNow 34 = .ok (.imul, 1) := by decide +kernel
theorem dX12_goNow_35 : decode cX12_goNow 35 = .ok (.iadd, 1) := by decide +kernel
theorem dX12_goNow_36 : decode cX12_goNow 36 = .ok (.aload_n 0, 1) := by decide +kernel
theorem dX12_goNow_37 : decode cX12_goNow 37 = .ok (.iload_n 2, 1) := by decide +kernel
theorem dX12_goNow_38 : decode cX12_goNow 38 = .ok (.aload_n 0, 1) := by decide +kernel
theorem dX12_goNow_39 : decode cX12_goNow 39 = .ok (.iload_n 1, 1) := by decide +kernel
theorem dX12_goNow_40 : decode cX12_goNow 40 = .ok (.invokevirtual 336, 3) := by decide +kernel
theorem dX12_goNow_43 : decode cX12_goNow 43 = .ok (.invokevirtual 339, 3) := by decide +kernel
theorem dX12_goNow_46 : decode cX12_goNow 46 = .ok (.iastore, 1) := by decide +kernel
theorem dX12_goNow_47 : decode cX12_goNow 47 = .ok (.aload_n 0, 1) := by decide +kernel
theorem dX12_goNow_48 : decode cX12_goNow 48 = .ok (.getfield 7, 3) := by decide +kernel
theorem dX12_goNow_51 : decode cX12_goNow 51 = .ok (.bipush 27, 2) := by decide +kernel
theorem dX12_goNow_53 : decode cX12_goNow 53 = .ok (.iconst 2, 1) := by decide +kernel
theorem dX12_goNow_54 : decode cX12_goNow 54 = .ok (.iload_n 1, 1) := by decide +kernel
theorem dX12_goNow_55 : decode cX12_goNow 55 = .ok (.imul, 1) := by decide +kernel
theorem dX12_goNow_56 : decode cX12_goNow 56 = .ok (.iadd, 1) := by decide +kernel
theorem dX12_goNow_57 : decode cX12_goNow 57 = .ok (.iconst 1, 1) := by decide +kernel
theorem dX12_goNow_58 : decode cX12_goNow 58 = .ok (.iadd, 1) := by decide +kernel
theorem dX12_goNow_59 : decode cX12_goNow 59 = .ok (.aload_n 0, 1) := by decide +kernel
theorem dX12_goNow_60 : decode cX12_goNow 60 = .ok (.iload_n 1, 1) := by decide +kernel
theorem dX12_goNow_61 : decode cX12_goNow 61 = .ok (.invokevirtual 311, 3) := by decide +kernel
theorem dX12_goNow_64 : decode cX12_goNow 64 = .ok (.iconst 1, 1) := by decide +kernel
theorem dX12_goNow_65 : decode cX12_goNow 65 = .ok (.iadd, 1) := by decide +kernel
theorem dX12_goNow_66 : decode cX12_goNow 66 = .ok (.i2l, 1) := by decide +kernel
theorem dX12_goNow_67 : decode cX12_goNow 67 = .ok (.iconst 0, 1) := by decide +kernel
theorem dX12_goNow_68 : decode cX12_goNow 68 = .ok (.sipush 9999, 3) := by decide +kernel
theorem dX12_goNow_71 : decode cX12_goNow 71 = .ok (.invokestatic 301, 3) := by decide +kernel
theorem dX12_goNow_74 : decode cX12_goNow 74 = .ok (.iastore, 1) := by decide +kernel
theorem dX12_goNow_75 : decode cX12_goNow 75 = .ok (.aload_n 0, 1) := by decide +kernel
theorem dX12_goNow_76 : decode cX12_goNow 76 = .ok (.dup, 1) := by decide +kernel
theorem dX12_goNow_77 : decode cX12_goNow 77 = .ok (.getfield 345, 3) := by decide +kernel
theorem dX12_goNow_80 : decode cX12_goNow 80 = .ok (.iconst 1, 1) := by decide +kernel
theorem dX12_goNow_81 : decode cX12_goNow 81 = .ok (.iadd, 1) := by decide +kernel
theorem dX12_goNow_82 : decode cX12_goNow 82 = .ok (.putfield 345, 3) := by decide +kernel
theorem dX12_goNow_85 : decode cX12_goNow 85 = .ok (.aload_n 0, 1) := by decide +kernel
theorem dX12_goNow_86 : decode cX12_goNow 86 = .ok (.iload_n 1, 1) := by decide +kernel
theorem dX12_goNow_87 : decode cX12_goNow 87 = .ok (.iload_n 2, 1) := by decide +kernel
theorem dX12_goNow_88 : decode cX12_goNow 88 = .ok (.iload_n 3, 1) := by decide +kernel
theorem dX12_goNow_89 : decode cX12_goNow 89 = .ok (.invokevirtual 348, 3) := by decide +kernel
theorem dX12_goNow_92 : decode cX12_goNow 92 = .ok (.aload_n 0, 1) := by decide +kernel
theorem dX12_goNow_93 : decode cX12_goNow 93 = .ok (.iload_n 1, 1) := by decide +kernel
theorem dX12_goNow_94 : decode cX12_goNow 94 = .ok (.invokevirtual 336, 3) := by decide +kernel
theorem dX12_goNow_97 : decode cX12_goNow 97 = .ok (.ireturn, 1) := by decide +kernel
theorem dX12_roadsFor_0 : decode cX12_roadsFor 0 = .ok (.iconst 0, 1) := by decide +kernel
theorem dX12_roadsFor_1 : decode cX12_roadsFor 1 = .ok (.istore_n 2, 1) := by decide +kernel
theorem dX12_roadsFor_2 : decode cX12_roadsFor 2 = .ok (.iconst 0, 1) := by decide +kernel
theorem dX12_roadsFor_3 : decode cX12_roadsFor 3 = .ok (.istore_n 3, 1) := by decide +kernel
theorem dX12_roadsFor_4 : decode cX12_roadsFor 4 = .ok (.iload_n 3, 1) := by decide +kernel
theorem dX12_roadsFor_5 : decode cX12_roadsFor 5 = .ok (.aload_n 0, 1) := by decide +kernel
theorem dX12_roadsFor_6 : decode cX12_roadsFor 6 = .ok (.getfield 7, 3) := by decide +kernel
theorem dX12_roadsFor_9 : decode cX12_roadsFor 9 = .ok (.iconst 0, 1) := by decide +kernel
theorem dX12_roadsFor_10 : decode cX12_roadsFor 10 = .ok (.iaload, 1) := by decide +kernel
theorem dX12_roadsFor_11 : decode cX12_roadsFor 11 = .ok (.if_icmp .ge 28, 3) := by decide +kernel
theorem dX12_roadsFor_14 : decode cX12_roadsFor 14 = .ok (.iload_n 2, 1) := by decide +kernel
theorem dX12_roadsFor_15 : decode cX12_roadsFor 15 = .ok (.aload_n 0, 1) := by decide +kernel
theorem dX12_roadsFor_16 : decode cX12_roadsFor 16 = .ok (.iload_n 1, 1) := by decide +kernel
theorem dX12_roadsFor_17 : decode cX12_roadsFor 17 = .ok (.iload_n 3, 1) := by decide +kernel
theorem dX12_roadsFor_18 : decode cX12_roadsFor 18 = .ok (.invokevirtual 352, 3) := by decide +kernel
theorem dX12_roadsFor_21 : decode cX12_roadsFor 21 = .ok (.ifCond .eq 9, 3) := by decide +kernel
theorem dX12_roadsFor_24 : decode cX12_roadsFor 24 = .ok (.iconst 1, 1) := by decide +kernel
theorem dX12_roadsFor_25 : decode cX12_roadsFor 25 = .ok (.iload_n 3, 1) := by decide +kernel
theorem dX12_roadsFor_26 : decode cX12_roadsFor 26 = .ok (.ishl, 1) := by decide +kernel
theorem dX12_roadsFor_27 : decode cX12_roadsFor 27 = .ok (.goto 4, 3) := by decide +kernel
theorem dX12_roadsFor_30 : decode cX12_roadsFor 30 = .ok (.iconst 0, 1) := by decide +kernel
theorem dX12_roadsFor_31 : decode cX12_roadsFor 31 = .ok (.ior, 1) := by decide +kernel
theorem dX12_roadsFor_32 : decode cX12_roadsFor 32 = .ok (.istore_n 2, 1) := by decide +kernel
theorem dX12_roadsFor_33 : decode cX12_roadsFor 33 = .ok (.iinc 3 1, 3) := by decide +kernel
theorem dX12_roadsFor_36 : decode cX12_roadsFor 36 = .ok (.goto (-32), 3) := by decide +kernel
theorem dX12_roadsFor_39 : decode cX12_roadsFor 39 = .ok (.iload_n 2, 1) := by decide +kernel
theorem dX12_roadsFor_40 : decode cX12_roadsFor 40 = .ok (.ireturn, 1) := by decide +kernel
theorem dX12_kth_0 : decode cX12_kth 0 = .ok (.iload_n 0, 1) := by decide +kernel
theorem dX12_kth_1 : decode cX12_kth 1 = .ok (.istore_n 2, 1) := by decide +kernel
theorem dX12_kth_2 : decode cX12_kth 2 = .ok (.iconst 0, 1) := by decide +kernel
theorem dX12_kth_3 : decode cX12_kth 3 = .ok (.istore_n 3, 1) := by decide +kernel
theorem dX12_kth_4 : decode cX12_kth 4 = .ok (.iload_n 3, 1) := by decide +kernel
theorem dX12_kth_5 : decode cX12_kth 5 = .ok (.iload_n 1, 1) := by decide +kernel
theorem dX12_kth_6 : decode cX12_kth 6 = .ok (.if_icmp .ge 15, 3) := by decide +kernel
theorem dX12_kth_9 : decode cX12_kth 9 = .ok (.iload_n 2, 1) := by decide +kernel
theorem dX12_kth_10 : decode cX12_kth 10 = .ok (.iload_n 2, 1) := by decide +kernel
theorem dX12_kth_11 : decode cX12_kth 11 = .ok (.iconst 1, 1) := by decide +kernel
theorem dX12_kth_12 : decode cX12_kth 12 = .ok (.isub, 1) := by decide +kernel
theorem dX12_kth_13 : decode cX12_kth 13 = .ok (.iand, 1) := by decide +kernel
theorem dX12_kth_14 : decode cX12_kth 14 = .ok (.istore_n 2, 1) := by decide +kernel
theorem dX12_kth_15 : decode cX12_kth 15 = .ok (.iinc 3 1, 3) := by decide +kernel
theorem dX12_kth_18 : decode cX12_kth 18 = .ok (.goto (-14), 3) := by decide +kernel
theorem dX12_kth_21 : decode cX12_kth 21 = .ok (.iconst 0, 1) := by decide +kernel
theorem dX12_kth_22 : decode cX12_kth 22 = .ok (.istore_n 3, 1) := by decide +kernel
theorem dX12_kth_23 : decode cX12_kth 23 = .ok (.iload_n 2, 1) := by decide +kernel
theorem dX12_kth_24 : decode cX12_kth 24 = .ok (.iload_n 3, 1) := by decide +kernel
theorem dX12_kth_25 : decode cX12_kth 25 = .ok (.invokestatic 258, 3) := by decide +kernel
theorem dX12_kth_28 : decode cX12_kth 28 = .ok (.ifCond .ne 9, 3) := by decide +kernel
theorem dX12_kth_31 : decode cX12_kth 31 = .ok (.iinc 3 1, 3) := by decide +kernel
theorem dX12_kth_34 : decode cX12_kth 34 = .ok (.goto (-11), 3) := by decide +kernel
theorem dX12_kth_37 : decode cX12_kth 37 = .ok (.iload_n 3, 1) := by decide +kernel
theorem dX12_kth_38 : decode cX12_kth 38 = .ok (.ireturn, 1) := by decide +kernel
theorem dX12_pass_0 : decode cX12_pass 0 = .ok (.aload_n 0, 1) := by decide +kernel
theorem dX12_pass_1 : decode cX12_pass 1 = .ok (.getfield 7, 3) := by decide +kernel
theorem dX12_pass_4 : decode cX12_pass 4 = .ok (.bipush 8, 2) := by decide +kernel
theorem dX12_pass_6 : decode cX12_pass 6 = .ok (.aload_n 0, 1) := by decide +kernel
theorem dX12_pass_7 : decode cX12_pass 7 = .ok (.bipush 10, 2) := by decide +kernel
theorem dX12_pass_9 : decode cX12_pass 9 = .ok (.invokevirtual 355, 3) := by decide +kernel
theorem dX12_pass_12 : decode cX12_pass 12 = .ok (.iconst 3, 1) := by decide +kernel
theorem dX12_pass_13 : decode cX12_pass 13 = .ok (.if_icmp .ge 7, 3) := by decide +kernel
theorem dX12_pass_16 : decode cX12_pass 16 = .ok (.iconst 1, 1) := by decide +kernel
theorem dX12_pass_17 : decode cX12_pass 17 = .ok (.goto 4, 3) := by decide +kernel
theorem dX12_pass_20 : decode cX12_pass 20 = .ok (.iconst 0, 1) := by decide +kernel
theorem dX12_pass_21 : decode cX12_pass 21 = .ok (.iastore, 1) := by decide +kernel
theorem dX12_pass_22 : decode cX12_pass 22 = .ok (.iconst 0, 1) := by decide +kernel
theorem dX12_pass_23 : decode cX12_pass 23 = .ok (.istore_n 1, 1) := by decide +kernel
theorem dX12_pass_24 : decode cX12_pass 24 = .ok (.iload_n 1, 1) := by decide +kernel
theorem dX12_pass_25 : decode cX12_pass 25 = .ok (.aload_n 0, 1) := by decide +kernel
theorem dX12_pass_26 : decode cX12_pass 26 = .ok (.getfield 7, 3) := by decide +kernel
theorem dX12_pass_29 : decode cX12_pass 29 = .ok (.iconst 1, 1) := by decide +kernel
theorem dX12_pass_30 : decode cX12_pass 30 = .ok (.iaload, 1) := by decide +kernel
theorem dX12_pass_31 : decode cX12_pass 31 = .ok (.if_icmp .ge 40, 3) := by decide +kernel
theorem dX12_pass_34 : decode cX12_pass 34 = .ok (.aload_n 0, 1) := by decide +kernel
theorem dX12_pass_35 : decode cX12_pass 35 = .ok (.iload_n 1, 1) := by decide +kernel
theorem dX12_pass_36 : decode cX12_pass 36 = .ok (.invokevirtual 358, 3) := by decide +kernel
theorem dX12_pass_39 : decode cX12_pass 39 = .ok (.istore_n 2, 1) := by decide +kernel
theorem dX12_pass_40 : decode cX12_pass 40 = .ok (.iload_n 2, 1) := by decide +kernel
theorem dX12_pass_41 : decode cX12_pass 41 = .ok (.ifCond .eq 24, 3) := by decide +kernel
theorem dX12_pass_44 : decode cX12_pass 44 = .ok (.aload_n 0, 1) := by decide +kernel
theorem dX12_pass_45 : decode cX12_pass 45 = .ok (.iload_n 1, 1) := by decide +kernel
theorem dX12_pass_46 : decode cX12_pass 46 = .ok (.iload_n 2, 1) := by decide +kernel
theorem dX12_pass_47 : decode cX12_pass 47 = .ok (.aload_n 0, 1) := by decide +kernel
theorem dX12_pass_48 : decode cX12_pass 48 = .ok (.iload_n 2, 1) := by decide +kernel
theorem dX12_pass_49 : decode cX12_pass 49 = .ok (.invokestatic 361, 3) := by decide +kernel
theorem dX12_pass_52 : decode cX12_pass 52 = .ok (.invokevirtual 355, 3) := by decide +kernel
theorem dX12_pass_55 : decode cX12_pass 55 = .ok (.invokestatic 364, 3) := by decide +kernel
theorem dX12_pass_58 : decode cX12_pass 58 = .ok (.invokevirtual 367, 3) := by decide +kernel
theorem dX12_pass_61 : decode cX12_pass 61 = .ok (.ifCond .ge 4, 3) := by decide +kernel
theorem dX12_pass_64 : decode cX12_pass 64 = .ok (.return_, 1) := by decide +kernel
theorem dX12_pass_65 : decode cX12_pass 65 = .ok (.iinc 1 1, 3) := by decide +kernel
theorem dX12_pass_68 : decode cX12_pass 68 = .ok (.goto (-44), 3) := by decide +kernel
theorem dX12_pass_71 : decode cX12_pass 71 = .ok (.iconst 0, 1) := by decide +kernel
theorem dX12_pass_72 : decode cX12_pass 72 = .ok (.istore_n 1, 1) := by decide +kernel
theorem dX12_pass_73 : decode cX12_pass 73 = .ok (.iload_n 1, 1) := by decide +kernel
theorem dX12_pass_74 : decode cX12_pass 74 = .ok (.aload_n 0, 1) := by decide +kernel
theorem dX12_pass_75 : decode cX12_pass 75 = .ok (.getfield 7, 3) := by decide +kernel
theorem dX12_pass_78 : decode cX12_pass 78 = .ok (.iconst 0, 1) := by decide +kernel
theorem dX12_pass_79 : decode cX12_pass 79 = .ok (.iaload, 1) := by decide +kernel
theorem dX12_pass_80 : decode cX12_pass 80 = .ok (.if_icmp .ge 44, 3) := by decide +kernel
theorem dX12_pass_83 : decode cX12_pass 83 = .ok (.aload_n 0, 1) := by decide +kernel
theorem dX12_pass_84 : decode cX12_pass 84 = .ok (.getfield 7, 3) := by decide +kernel
theorem dX12_pass_87 : decode cX12_pass 87 = .ok (.bipush 11, 2) := by decide +kernel
theorem dX12_pass_89 : decode cX12_pass 89 = .ok (.iload_n 1, 1) := by decide +kernel
theorem dX12_pass_90 : decode cX12_pass 90 = .ok (.iadd, 1) := by decide +kernel
theorem dX12_pass_91 : decode cX12_pass 91 = .ok (.aload_n 0, 1) := by decide +kernel
theorem dX12_pass_92 : decode cX12_pass 92 = .ok (.getfield 7, 3) := by decide +kernel
theorem dX12_pass_95 : decode cX12_pass 95 = .ok (.bipush 11, 2) := by decide +kernel
theorem dX12_pass_97 : decode cX12_pass 97 = .ok (.iload_n 1, 1) := by decide +kernel
theorem dX12_pass_98 : decode cX12_pass 98 = .ok (.iadd, 1) := by decide +kernel
theorem dX12_pass_99 : decode cX12_pass 99 = .ok (.iaload, 1) := by decide +kernel
theorem dX12_pass_100 : decode cX12_pass 100 = .ok (.aload_n 0, 1) := by decide +kernel
theorem dX12_pass_101 : decode cX12_pass 101 = .ok (.iload_n 1, 1) := by decide +kernel
theorem dX12_pass_102 : decode cX12_pass 102 = .ok (.invokevirtual 370, 3) := by decide +kernel
theorem dX12_pass_105 : decode cX12_pass 105 = .ok (.iadd, 1) := by decide +kernel
theorem dX12_pass_106 : decode cX12_pass 106 = .ok (.i2l, 1) := by decide +kernel
theorem dX12_pass_107 : decode cX12_pass 107 = .ok (.iconst 0, 1) := by decide +kernel
theorem dX12_pass_108 : decode cX12_pass 108 = .ok (.aload_n 0, 1) := by decide +kernel
theorem dX12_pass_109 : decode cX12_pass 109 = .ok (.iload_n 1, 1) := by decide +kernel
theorem dX12_pass_110 : decode cX12_pass 110 = .ok (.iconst 3, 1) := by decide +kernel
theorem dX12_pass_111 : decode cX12_pass 111 = .ok (.invokevirtual 85, 3) := by decide +kernel
theorem dX12_pass_114 : decode cX12_pass 114 = .ok (.invokestatic 301, 3) := by decide +kernel
theorem dX12_pass_117 : decode cX12_pass 117 = .ok (.iastore, 1) := by decide +kernel
theorem dX12_pass_118 : decode cX12_pass 118 = .ok (.iinc 1 1, 3) := by decide +kernel
theorem dX12_pass_121 : decode cX12_pass 121 = .ok (.goto (-48), 3) := by decide +kernel
theorem dX12_pass_124 : decode cX12_pass 124 = .ok (.aload_n 0, 1) := by decide +kernel
theorem dX12_pass_125 : decode cX12_pass 125 = .ok (.getfield 7, 3) := by decide +kernel
theorem dX12_pass_128 : decode cX12_pass 128 = .ok (.bipush 6, 2) := by decide +kernel
theorem dX12_pass_130 : decode cX12_pass 130 = .ok (.dup2, 1) := by decide +kernel
theorem dX12_pass_131 : decode cX12_pass 131 = .ok (.iaload, 1) := by decide +kernel
theorem dX12_pass_132 : decode cX12_pass 132 = .ok (.iconst 1, 1) := by decide +kernel
theorem dX12_pass_133 : decode cX12_pass 133 = .ok (.iadd, 1) := by decide +kernel
theorem dX12_pass_134 : decode cX12_pass 134 = .ok (.iastore, 1) := by decide +kernel
theorem dX12_pass_135 : decode cX12_pass 135 = .ok (.return_, 1) := by decide +kernel
theorem dX12_keep_0 : decode cX12_keep 0 = .ok (.aload_n 0, 1) := by decide +kernel
theorem dX12_keep_1 : decode cX12_keep 1 = .ok (.getfield 7, 3) := by decide +kernel
theorem dX12_keep_4 : decode cX12_keep 4 = .ok (.iconst 4, 1) := by decide +kernel
theorem dX12_keep_5 : decode cX12_keep 5 = .ok (.iaload, 1) := by decide +kernel
theorem dX12_keep_6 : decode cX12_keep 6 = .ok (.bipush 30, 2) := by decide +kernel
theorem dX12_keep_8 : decode cX12_keep 8 = .ok (.if_icmp .ne 48, 3) := by decide +kernel
theorem dX12_keep_11 : decode cX12_keep 11 = .ok (.iconst 0, 1) := by decide +kernel
theorem dX12_keep_12 : decode cX12_keep 12 = .ok (.istore_n 1, 1) := by decide +kernel
theorem dX12_keep_13 : decode cX12_keep 13 = .ok (.iload_n 1, 1) := by decide +kernel
theorem dX12_keep_14 : decode cX12_keep 14 = .ok (.sipush 1885, 3) := by decide +kernel
theorem dX12_keep_17 : decode cX12_keep 17 = .ok (.if_icmp .ge 29, 3) := by decide +kernel
theorem dX12_keep_20 : decode cX12_keep 20 = .ok (.aload_n 0, 1) := by decide +kernel
theorem dX12_keep_21 : decode cX12_keep 21 = .ok (.getfield 7, 3) := by decide +kernel
theorem dX12_keep_24 : decode cX12_keep 24 = .ok (.sipush 139, 3) := by decide +kernel
theorem dX12_keep_27 : decode cX12_keep 27 = .ok (.iload_n 1, 1) := by decide +kernel
theorem dX12_keep_28 : decode cX12_keep 28 = .ok (.iadd, 1) := by decide +kernel
theorem dX12_keep_29 : decode cX12_keep 29 = .ok (.aload_n 0, 1) := by decide +kernel
theorem dX12_keep_30 : decode cX12_keep 30 = .ok (.getfield 7, 3) := by decide +kernel
theorem dX12_keep_33 : decode cX12_keep 33 = .ok (.sipush 204, 3) := by decide +kernel
theorem dX12_keep_36 : decode cX12_keep 36 = .ok (.iload_n 1, 1) := by decide +kernel
theorem dX12_keep_37 : decode cX12_keep 37 = .ok (.iadd, 1) := by decide +kernel
theorem dX12_keep_38 : decode cX12_keep 38 = .ok (.iaload, 1) := by decide +kernel
theorem dX12_keep_39 : decode cX12_keep 39 = .ok (.iastore, 1) := by decide +kernel
theorem dX12_keep_40 : decode cX12_keep 40 = .ok (.iinc 1 1, 3) := by decide +kernel
theorem dX12_keep_43 : decode cX12_keep 43 = .ok (.goto (-30), 3) := by decide +kernel
theorem dX12_keep_46 : decode cX12_keep 46 = .ok (.aload_n 0, 1) := by decide +kernel
theorem dX12_keep_47 : decode cX12_keep 47 = .ok (.getfield 7, 3) := by decide +kernel
theorem dX12_keep_50 : decode cX12_keep 50 = .ok (.iconst 4, 1) := by decide +kernel
theorem dX12_keep_51 : decode cX12_keep 51 = .ok (.dup2, 1) := by decide +kernel
theorem dX12_keep_52 : decode cX12_keep 52 = .ok (.iaload, 1) := by decide +kernel
theorem dX12_keep_53 : decode cX12_keep 53 = .ok (.iconst 1, 1) := by decide +kernel
theorem dX12_keep_54 : decode cX12_keep 54 = .ok (.isub, 1) := by decide +kernel
theorem dX12_keep_55 : decode cX12_keep 55 = .ok (.iastore, 1) := by decide +kernel
theorem dX12_keep_56 : decode cX12_keep 56 = .ok (.sipush 139, 3) := by decide +kernel
theorem dX12_keep_59 : decode cX12_keep 59 = .ok (.bipush 65, 2) := by decide +kernel
theorem dX12_keep_61 : decode cX12_keep 61 = .ok (.aload_n 0, 1) := by decide +kernel
theorem dX12_keep_62 : decode cX12_keep 62 = .ok (.getfield 7, 3) := by decide +kernel
theorem dX12_keep_65 : decode cX12_keep 65 = .ok (.iconst 4, 1) := by decide +kernel
theorem dX12_keep_66 : decode cX12_keep 66 = .ok (.iaload, 1) := by decide +kernel
theorem dX12_keep_67 : decode cX12_keep 67 = .ok (.imul, 1) := by decide +kernel
theorem dX12_keep_68 : decode cX12_keep 68 = .ok (.iadd, 1) := by decide +kernel
theorem dX12_keep_69 : decode cX12_keep 69 = .ok (.istore_n 1, 1) := by decide +kernel
theorem dX12_keep_70 : decode cX12_keep 70 = .ok (.aload_n 0, 1) := by decide +kernel
theorem dX12_keep_71 : decode cX12_keep 71 = .ok (.getfield 7, 3) := by decide +kernel
theorem dX12_keep_74 : decode cX12_keep 74 = .ok (.iload_n 1, 1) := by decide +kernel
theorem dX12_keep_75 : decode cX12_keep 75 = .ok (.aload_n 0, 1) := by decide +kernel
theorem dX12_keep_76 : decode cX12_keep 76 = .ok (.getfield 7, 3) := by decide +kernel
theorem dX12_keep_79 : decode cX12_keep 79 = .ok (.iconst 0, 1) := by decide +kernel
theorem dX12_keep_80 : decode cX12_keep 80 = .ok (.iaload, 1) := by decide +kernel
theorem dX12_keep_81 : decode cX12_keep 81 = .ok (.iastore, 1) := by decide +kernel
theorem dX12_keep_82 : decode cX12_keep 82 = .ok (.aload_n 0, 1) := by decide +kernel
theorem dX12_keep_83 : decode cX12_keep 83 = .ok (.getfield 7, 3) := by decide +kernel
theorem dX12_keep_86 : decode cX12_keep 86 = .ok (.iload_n 1, 1) := by decide +kernel
theorem dX12_keep_87 : decode cX12_keep 87 = .ok (.iconst 1, 1) := by decide +kernel
theorem dX12_keep_88 : decode cX12_keep 88 = .ok (.iadd, 1) := by decide +kernel
theorem dX12_keep_89 : decode cX12_keep 89 = .ok (.aload_n 0, 1) := by decide +kernel
theorem dX12_keep_90 : decode cX12_keep 90 = .ok (.getfield 7, 3) := by decide +kernel
theorem dX12_keep_93 : decode cX12_keep 93 = .ok (.iconst 1, 1) := by decide +kernel
theorem dX12_keep_94 : decode cX12_keep 94 = .ok (.iaload, 1) := by decide +kernel
theorem dX12_keep_95 : decode cX12_keep 95 = .ok (.iastore, 1) := by decide +kernel
theorem dX12_keep_96 : decode cX12_keep 96 = .ok (.iconst 0, 1) := by decide +kernel
theorem dX12_keep_97 : decode cX12_keep 97 = .ok (.istore_n 2, 1) := by decide +kernel
theorem dX12_keep_98 : decode cX12_keep 98 = .ok (.iload_n 2, 1) := by decide +kernel
theorem dX12_keep_99 : decode cX12_keep 99 = .ok (.bipush 33, 2) := by decide +kernel
theorem dX12_keep_101 : decode cX12_keep 101 = .ok (.if_icmp .ge 28, 3) := by decide +kernel
theorem dX12_keep_104 : decode cX12_keep 104 = .ok (.aload_n 0, 1) := by decide +kernel
theorem dX12_keep_105 : decode cX12_keep 105 = .ok (.getfield 7, 3) := by decide +kernel
theorem dX12_keep_108 : decode cX12_keep 108 = .ok (.iload_n 1, 1) := by decide +kernel
theorem dX12_keep_109 : decode cX12_keep 109 = .ok (.iconst 2, 1) := by decide +kernel
theorem dX12_keep_110 : decode cX12_keep 110 = .ok (.iadd, 1) := by decide +kernel
theorem dX12_keep_111 : decode cX12_keep 111 = .ok (.iload_n 2, 1) := by decide +kernel
theorem dX12_keep_112 : decode cX12_keep 112 = .ok (.iadd, 1) := by decide +kernel
theorem dX12_keep_113 : decode cX12_keep 113 = .ok (.aload_n 0, 1) := by decide +kernel
theorem dX12_keep_114 : decode cX12_keep 114 = .ok (.getfield 7, 3) := by decide +kernel
theorem dX12_keep_117 : decode cX12_keep 117 = .ok (.bipush 6, 2) := by decide +kernel
theorem dX12_keep_119 : decode cX12_keep 119 = .ok (.iload_n 2, 1) := by decide +kernel
theorem dX12_keep_120 : decode cX12_keep 120 = .ok (.iadd, 1) := by decide +kernel
theorem dX12_keep_121 : decode cX12_keep 121 = .ok (.iaload, 1) := by decide +kernel
theorem dX12_keep_122 : decode cX12_keep 122 = .ok (.iastore, 1) := by decide +kernel
theorem dX12_keep_123 : decode cX12_keep 123 = .ok (.iinc 2 1, 3) := by decide +kernel
theorem dX12_keep_126 : decode cX12_keep 126 = .ok (.goto (-28), 3) := by decide +kernel
theorem dX12_keep_129 : decode cX12_keep 129 = .ok (.iconst 0, 1) := by decide +kernel
theorem dX12_keep_130 : decode cX12_keep 130 = .ok (.istore_n 2, 1) := by decide +kernel
theorem dX12_keep_131 : decode cX12_keep 131 = .ok (.iload_n 2, 1) := by decide +kernel
theorem dX12_keep_132 : decode cX12_keep 132 = .ok (.bipush 30, 2) := by decide +kernel
theorem dX12_keep_134 : decode cX12_keep 134 = .ok (.if_icmp .ge 30, 3) := by decide +kernel
theorem dX12_keep_137 : decode cX12_keep 137 = .ok (.aload_n 0, 1) := by decide +kernel
theorem dX12_keep_138 : decode cX12_keep 138 = .ok (.getfield 7, 3) := by decide +kernel
theorem dX12_keep_141 : decode cX12_keep 141 = .ok (.iload_n 1, 1) := by decide +kernel
theorem dX12_keep_142 : decode cX12_keep 142 = .ok (.bipush 35, 2) := by decide +kernel
theorem dX12_keep_144 : decode cX12_keep 144 = .ok (.iadd, 1) := by decide +kernel
theorem dX12_keep_145 : decode cX12_keep 145 = .ok (.iload_n 2, 1) := by decide +kernel
theorem dX12_keep_146 : decode cX12_keep 146 = .ok (.iadd, 1) := by decide +kernel
theorem dX12_keep_147 : decode cX12_keep 147 = .ok (.aload_n 0, 1) := by decide +kernel
theorem dX12_keep_148 : decode cX12_keep 148 = .ok (.getfield 7, 3) := by decide +kernel
theorem dX12_keep_151 : decode cX12_keep 151 = .ok (.sipush 2089, 3) := by decide +kernel
theorem dX12_keep_154 : decode cX12_keep 154 = .ok (.iload_n 2, 1) := by decide +kernel
theorem dX12_keep_155 : decode cX12_keep 155 = .ok (.iadd, 1) := by decide +kernel
theorem dX12_keep_156 : decode cX12_keep 156 = .ok (.iaload, 1) := by decide +kernel
theorem dX12_keep_157 : decode cX12_keep 157 = .ok (.iastore, 1) := by decide +kernel
theorem dX12_keep_158 : decode cX12_keep 158 = .ok (.iinc 2 1, 3) := by decide +kernel
theorem dX12_keep_161 : decode cX12_keep 161 = .ok (.goto (-30), 3) := by decide +kernel
theorem dX12_keep_164 : decode cX12_keep 164 = .ok (.aload_n 0, 1) := by decide +kernel
theorem dX12_keep_165 : decode cX12_keep 165 = .ok (.getfield 7, 3) := by decide +kernel
theorem dX12_keep_168 : decode cX12_keep 168 = .ok (.iconst 4, 1) := by decide +kernel
theorem dX12_keep_169 : decode cX12_keep 169 = .ok (.dup2, 1) := by decide +kernel
theorem dX12_keep_170 : decode cX12_keep 170 = .ok (.iaload, 1) := by decide +kernel
theorem dX12_keep_171 : decode cX12_keep 171 = .ok (.iconst 1, 1) := by decide +kernel
theorem dX12_keep_172 : decode cX12_keep 172 = .ok (.iadd, 1) := by decide +kernel
theorem dX12_keep_173 : decode cX12_keep 173 = .ok (.iastore, 1) := by decide +kernel
theorem dX12_keep_174 : decode cX12_keep 174 = .ok (.return_, 1) := by decide +kernel
theorem dX12_undo_0 : decode cX12_undo 0 = .ok (.aload_n 0, 1) := by decide +kernel
theorem dX12_undo_1 : decode cX12_undo 1 = .ok (.getfield 7, 3) := by decide +kernel
theorem dX12_undo_4 : decode cX12_undo 4 = .ok (.iconst 4, 1) := by decide +kernel
theorem dX12_undo_5 : decode cX12_undo 5 = .ok (.iaload, 1) := by decide +kernel
theorem dX12_undo_6 : decode cX12_undo 6 = .ok (.ifCond .ne 5, 3) := by decide +kernel
theorem dX12_undo_9 : decode cX12_undo 9 = .ok (.iconst (-1), 1) := by decide +kernel
theorem dX12_undo_10 : decode cX12_undo 10 = .ok (.ireturn, 1) := by decide +kernel
theorem dX12_undo_11 : decode cX12_undo 11 = .ok (.aload_n 0, 1) := by decide +kernel
theorem dX12_undo_12 : decode cX12_undo 12 = .ok (.getfield 7, 3) := by decide +kernel
theorem dX12_undo_15 : decode cX12_undo 15 = .ok (.iconst 4, 1) := by decide +kernel
theorem dX12_undo_16 : decode cX12_undo 16 = .ok (.dup2, 1) := by decide +kernel
theorem dX12_undo_17 : decode cX12_undo 17 = .ok (.iaload, 1) := by decide +kernel
theorem dX12_undo_18 : decode cX12_undo 18 = .ok (.iconst 1, 1) := by decide +kernel
theorem dX12_undo_19 : decode cX12_undo 19 = .ok (.isub, 1) := by decide +kernel
theorem dX12_undo_20 : decode cX12_undo 20 = .ok (.iastore, 1) := by decide +kernel
theorem dX12_undo_21 : decode cX12_undo 21 = .ok (.sipush 139, 3) := by decide +kernel
theorem dX12_undo_24 : decode cX12_undo 24 = .ok (.bipush 65, 2) := by decide +kernel
theorem dX12_undo_26 : decode cX12_undo 26 = .ok (.aload_n 0, 1) := by decide +kernel
theorem dX12_undo_27 : decode cX12_undo 27 = .ok (.getfield 7, 3) := by decide +kernel
theorem dX12_undo_30 : decode cX12_undo 30 = .ok (.iconst 4, 1) := by decide +kernel
theorem dX12_undo_31 : decode cX12_undo 31 = .ok (.iaload, 1) := by decide +kernel
theorem dX12_undo_32 : decode cX12_undo 32 = .ok (.imul, 1) := by decide +kernel
theorem dX12_undo_33 : decode cX12_undo 33 = .ok (.iadd, 1) := by decide +kernel
theorem dX12_undo_34 : decode cX12_undo 34 = .ok (.istore_n 1, 1) := by decide +kernel
theorem dX12_undo_35 : decode cX12_undo 35 = .ok (.iconst 0, 1) := by decide +kernel
theorem dX12_undo_36 : decode cX12_undo 36 = .ok (.istore_n 2, 1) := by decide +kernel
theorem dX12_undo_37 : decode cX12_undo 37 = .ok (.iload_n 2, 1) := by decide +kernel
theorem dX12_undo_38 : decode cX12_undo 38 = .ok (.bipush 33, 2) := by decide +kernel
theorem dX12_undo_40 : decode cX12_undo 40 = .ok (.if_icmp .ge 28, 3) := by decide +kernel
theorem dX12_undo_43 : decode cX12_undo 43 = .ok (.aload_n 0, 1) := by decide +kernel
theorem dX12_undo_44 : decode cX12_undo 44 = .ok (.getfield 7, 3) := by decide +kernel
theorem dX12_undo_47 : decode cX12_undo 47 = .ok (.bipush 6, 2) := by decide +kernel
theorem dX12_undo_49 : decode cX12_undo 49 = .ok (.iload_n 2, 1) := by decide +kernel
theorem dX12_undo_50 : decode cX12_undo 50 = .ok (.iadd, 1) := by decide +kernel
theorem dX12_undo_51 : decode cX12_undo 51 = .ok (.aload_n 0, 1) := by decide +kernel
theorem dX12_undo_52 : decode cX12_undo 52 = .ok (.getfield 7, 3) := by decide +kernel
theorem dX12_undo_55 : decode cX12_undo 55 = .ok (.iload_n 1, 1) := by decide +kernel
theorem dX12_undo_56 : decode cX12_undo 56 = .ok (.iconst 2, 1) := by decide +kernel
theorem dX12_undo_57 : decode cX12_undo 57 = .ok (.iadd, 1) := by decide +kernel
theorem dX12_undo_58 : decode cX12_undo 58 = .ok (.iload_n 2, 1) := by decide +kernel
theorem dX12_undo_59 : decode cX12_undo 59 = .ok (.iadd, 1) := by decide +kernel
theorem dX12_undo_60 : decode cX12_undo 60 = .ok (.iaload, 1) := by decide +kernel
theorem dX12_undo_61 : decode cX12_undo 61 = .ok (.iastore, 1) := by decide +kernel
theorem dX12_undo_62 : decode cX12_undo 62 = .ok (.iinc 2 1, 3) := by decide +kernel
theorem dX12_undo_65 : decode cX12_undo 65 = .ok (.goto (-28), 3) := by decide +kernel
theorem dX12_undo_68 : decode cX12_undo 68 = .ok (.aload_n 0, 1) := by decide +kernel
theorem dX12_undo_69 : decode cX12_undo 69 = .ok (.getfield 7, 3) := by decide +kernel
theorem dX12_undo_72 : decode cX12_undo 72 = .ok (.iload_n 1, 1) := by decide +kernel
theorem dX12_undo_73 : decode cX12_undo 73 = .ok (.iaload, 1) := by decide +kernel
theorem dX12_undo_74 : decode cX12_undo 74 = .ok (.istore_n 2, 1) := by decide +kernel
theorem dX12_undo_75 : decode cX12_undo 75 = .ok (.iload_n 2, 1) := by decide +kernel
theorem dX12_undo_76 : decode cX12_undo 76 = .ok (.aload_n 0, 1) := by decide +kernel
theorem dX12_undo_77 : decode cX12_undo 77 = .ok (.getfield 7, 3) := by decide +kernel
theorem dX12_undo_80 : decode cX12_undo 80 = .ok (.iconst 0, 1) := by decide +kernel
theorem dX12_undo_81 : decode cX12_undo 81 = .ok (.iaload, 1) := by decide +kernel
theorem dX12_undo_82 : decode cX12_undo 82 = .ok (.if_icmp .ge 24, 3) := by decide +kernel
theorem dX12_undo_85 : decode cX12_undo 85 = .ok (.aload_n 0, 1) := by decide +kernel
theorem dX12_undo_86 : decode cX12_undo 86 = .ok (.getfield 7, 3) := by decide +kernel
theorem dX12_undo_89 : decode cX12_undo 89 = .ok (.bipush 11, 2) := by decide +kernel
theorem dX12_undo_91 : decode cX12_undo 91 = .ok (.iload_n 2, 1) := by decide +kernel
theorem dX12_undo_92 : decode cX12_undo 92 = .ok (.iadd, 1) := by decide +kernel
theorem dX12_undo_93 : decode cX12_undo 93 = .ok (.aload_n 0, 1) := by decide +kernel
theorem dX12_undo_94 : decode cX12_undo 94 = .ok (.iload_n 2, 1) := by decide +kernel
theorem dX12_undo_95 : decode cX12_undo 95 = .ok (.iconst 3, 1) := by decide +kernel
theorem dX12_undo_96 : decode cX12_undo 96 = .ok (.invokevirtual 85, 3) := by decide +kernel
theorem dX12_undo_99 : decode cX12_undo 99 = .ok (.iastore, 1) := by decide +kernel
theorem dX12_undo_100 : decode cX12_undo 100 = .ok (.iinc 2 1, 3) := by decide +kernel
theorem dX12_undo_103 : decode cX12_undo 103 = .ok (.goto (-28), 3) := by decide +kernel
theorem dX12_undo_106 : decode cX12_undo 106 = .ok (.aload_n 0, 1) := by decide +kernel
theorem dX12_undo_107 : decode cX12_undo 107 = .ok (.getfield 7, 3) := by decide +kernel
theorem dX12_undo_110 : decode cX12_undo 110 = .ok (.iload_n 1, 1) := by decide +kernel
theorem dX12_undo_111 : decode cX12_undo 111 = .ok (.iconst 1, 1) := by decide +kernel
theorem dX12_undo_112 : decode cX12_undo 112 = .ok (.iadd, 1) := by decide +kernel
theorem dX12_undo_113 : decode cX12_undo 113 = .ok (.iaload, 1) := by decide +kernel
theorem dX12_undo_114 : decode cX12_undo 114 = .ok (.istore_n 2, 1) := by decide +kernel
theorem dX12_undo_115 : decode cX12_undo 115 = .ok (.iload_n 2, 1) := by decide +kernel
theorem dX12_undo_116 : decode cX12_undo 116 = .ok (.aload_n 0, 1) := by decide +kernel
theorem dX12_undo_117 : decode cX12_undo 117 = .ok (.getfield 7, 3) := by decide +kernel
theorem dX12_undo_120 : decode cX12_undo 120 = .ok (.iconst 1, 1) := by decide +kernel
theorem dX12_undo_121 : decode cX12_undo 121 = .ok (.iaload, 1) := by decide +kernel
theorem dX12_undo_122 : decode cX12_undo 122 = .ok (.if_icmp .ge 14, 3) := by decide +kernel
theorem dX12_undo_125 : decode cX12_undo 125 = .ok (.aload_n 0, 1) := by decide +kernel
theorem dX12_undo_126 : decode cX12_undo 126 = .ok (.iload_n 2, 1) := by decide +kernel
theorem dX12_undo_127 : decode cX12_undo 127 = .ok (.invokevirtual 93, 3) := by decide +kernel
theorem dX12_undo_130 : decode cX12_undo 130 = .ok (.iinc 2 1, 3) := by decide +kernel
theorem dX12_undo_133 : decode cX12_undo 133 = .ok (.goto (-18), 3) := by decide +kernel
theorem dX12_undo_136 : decode cX12_undo 136 = .ok (.iconst 0, 1) := by decide +kernel
theorem dX12_undo_137 : decode cX12_undo 137 = .ok (.istore_n 2, 1) := by decide +kernel
theorem dX12_undo_138 : decode cX12_undo 138 = .ok (.iload_n 2, 1) := by decide +kernel
theorem dX12_undo_139 : decode cX12_undo 139 = .ok (.bipush 30, 2) := by decide +kernel
theorem dX12_undo_141 : decode cX12_undo 141 = .ok (.if_icmp .ge 30, 3) := by decide +kernel
theorem dX12_undo_144 : decode cX12_undo 144 = .ok (.aload_n 0, 1) := by decide +kernel
theorem dX12_undo_145 : decode cX12_undo 145 = .ok (.getfield 7, 3) := by decide +kernel
theorem dX12_undo_148 : decode cX12_undo 148 = .ok (.sipush 2089, 3) := by decide +kernel
theorem dX12_undo_151 : decode cX12_undo 151 = .ok (.iload_n 2, 1) := by decide +kernel
theorem dX12_undo_152 : decode cX12_undo 152 = .ok (.iadd, 1) := by decide +kernel
theorem dX12_undo_153 : decode cX12_undo 153 = .ok (.aload_n 0, 1) := by decide +kernel
theorem dX12_undo_154 : decode cX12_undo 154 = .ok (.getfield 7, 3) := by decide +kernel
theorem dX12_undo_157 : decode cX12_undo 157 = .ok (.iload_n 1, 1) := by decide +kernel
theorem dX12_undo_158 : decode cX12_undo 158 = .ok (.bipush 35, 2) := by decide +kernel
theorem dX12_undo_160 : decode cX12_undo 160 = .ok (.iadd, 1) := by decide +kernel
theorem dX12_undo_161 : decode cX12_undo 161 = .ok (.iload_n 2, 1) := by decide +kernel
theorem dX12_undo_162 : decode cX12_undo 162 = .ok (.iadd, 1) := by decide +kernel
theorem dX12_undo_163 : decode cX12_undo 163 = .ok (.iaload, 1) := by decide +kernel
theorem dX12_undo_164 : decode cX12_undo 164 = .ok (.iastore, 1) := by decide +kernel
theorem dX12_undo_165 : decode cX12_undo 165 = .ok (.iinc 2 1, 3) := by decide +kernel
theorem dX12_undo_168 : decode cX12_undo 168 = .ok (.goto (-30), 3) := by decide +kernel
theorem dX12_undo_171 : decode cX12_undo 171 = .ok (.aload_n 0, 1) := by decide +kernel
theorem dX12_undo_172 : decode cX12_undo 172 = .ok (.getfield 7, 3) := by decide +kernel
theorem dX12_undo_175 : decode cX12_undo 175 = .ok (.iconst 4, 1) := by decide +kernel
theorem dX12_undo_176 : decode cX12_undo 176 = .ok (.iaload, 1) := by decide +kernel
theorem dX12_undo_177 : decode cX12_undo 177 = .ok (.ireturn, 1) := by decide +kernel
theorem dX12_go_0 : decode cX12_go 0 = .ok (.aload_n 0, 1) := by decide +kernel
theorem dX12_go_1 : decode cX12_go 1 = .ok (.iload_n 1, 1) := by decide +kernel
theorem dX12_go_2 : decode cX12_go 2 = .ok (.iload_n 2, 1) := by decide +kernel
theorem dX12_go_3 : decode cX12_go 3 = .ok (.invokevirtual 352, 3) := by decide +kernel
theorem dX12_go_6 : decode cX12_go 6 = .ok (.ifCond .ne 5, 3) := by decide +kernel
theorem dX12_go_9 : decode cX12_go 9 = .ok (.iconst (-1), 1) := by decide +kernel
theorem dX12_go_10 : decode cX12_go 10 = .ok (.ireturn, 1) := by decide +kernel
theorem dX12_go_11 : decode cX12_go 11 = .ok (.aload_n 0, 1) := by decide +kernel
theorem dX12_go_12 : decode cX12_go 12 = .ok (.invokevirtual 373, 3) := by decide +kernel
theorem dX12_go_15 : decode cX12_go 15 = .ok (.aload_n 0, 1) := by decide +kernel
theorem dX12_go_16 : decode cX12_go 16 = .ok (.iload_n 1, 1) := by decide +kernel
theorem dX12_go_17 : decode cX12_go 17 = .ok (.iload_n 2, 1) := by decide +kernel
theorem dX12_go_18 : decode cX12_go 18 = .ok (.invokevirtual 367, 3) := by decide +kernel
theorem dX12_go_21 : decode cX12_go 21 = .ok (.ireturn, 1) := by decide +kernel
theorem dX12_canRelay_0 : decode cX12_canRelay 0 = .ok (.aload_n 0, 1) := by decide +kernel
theorem dX12_canRelay_1 : decode cX12_canRelay 1 = .ok (.iload_n 1, 1) := by decide +kernel
theorem dX12_canRelay_2 : decode cX12_canRelay 2 = .ok (.invokevirtual 333, 3) := by decide +kernel
theorem dX12_canRelay_5 : decode cX12_canRelay 5 = .ok (.ifCond .eq 41, 3) := by decide +kernel
theorem dX12_canRelay_8 : decode cX12_canRelay 8 = .ok (.aload_n 0, 1) := by decide +kernel
theorem dX12_canRelay_9 : decode cX12_canRelay 9 = .ok (.getfield 7, 3) := by decide +kernel
theorem dX12_canRelay_12 : decode cX12_canRelay 12 = .ok (.bipush 11, 2) := by decide +kernel
theorem dX12_canRelay_14 : decode cX12_canRelay 14 = .ok (.iload_n 1, 1) := by decide +kernel
theorem dX12_canRelay_15 : decode cX12_canRelay 15 = .ok (.iadd, 1) := by decide +kernel
theorem dX12_canRelay_16 : decode cX12_canRelay 16 = .ok (.iaload, 1) := by decide +kernel
theorem dX12_canRelay_17 : decode cX12_canRelay 17 = .ok (.aload_n 0, 1) := by decide +kernel
theorem dX12_canRelay_18 : decode cX12_canRelay 18 = .ok (.iload_n 1, 1) := by decide +kernel
theorem dX12_canRelay_19 : decode cX12_canRelay 19 = .ok (.iconst 3, 1) := by decide +kernel
theorem dX12_canRelay_20 : decode cX12_canRelay 20 = .ok (.invokevirtual 85, 3) := by decide +kernel
theorem dX12_canRelay_23 : decode cX12_canRelay 23 = .ok (.if_icmp .ge 23, 3) := by decide +kernel
theorem dX12_canRelay_26 : decode cX12_canRelay 26 = .ok (.aload_n 0, 1) := by decide +kernel
theorem dX12_canRelay_27 : decode cX12_canRelay 27 = .ok (.getfield 7, 3) := by decide +kernel
theorem dX12_canRelay_30 : decode cX12_canRelay 30 = .ok (.bipush 9, 2) := by decide +kernel
theorem dX12_canRelay_32 : decode cX12_canRelay 32 = .ok (.iaload, 1) := by decide +kernel
theorem dX12_canRelay_33 : decode cX12_canRelay 33 = .ok (.aload_n 0, 1) := by decide +kernel
theorem dX12_canRelay_34 : decode cX12_canRelay 34 = .ok (.iload_n 1, 1) := by decide +kernel
theorem dX12_canRelay_35 : decode cX12_canRelay 35 = .ok (.iconst 2, 1) := by decide +kernel
theorem dX12_canRelay_36 : decode cX12_canRelay 36 = .ok (.invokevirtual 85, 3) := by decide +kernel
theorem dX12_canRelay_39 : decode cX12_canRelay 39 = .ok (.if_icmp .lt 7, 3) := by decide +kernel
theorem dX12_canRelay_42 : decode cX12_canRelay 42 = .ok (.iconst 1, 1) := by decide +kernel
theorem dX12_canRelay_43 : decode cX12_canRelay 43 = .ok (.goto 4, 3) := by decide +kernel
theorem dX12_canRelay_46 : decode cX12_canRelay 46 = .ok (.iconst 0, 1) := by decide +kernel
theorem dX12_canRelay_47 : decode cX12_canRelay 47 = .ok (.ireturn, 1) := by decide +kernel
theorem dX12_relayNow_0 : decode cX12_relayNow 0 = .ok (.aload_n 0, 1) := by decide +kernel
theorem dX12_relayNow_1 : decode cX12_relayNow 1 = .ok (.getfield 7, 3) := by decide +kernel
theorem dX12_relayNow_4 : decode cX12_relayNow 4 = .ok (.bipush 11, 2) := by decide +kernel
theorem dX12_relayNow_6 : decode cX12_relayNow 6 = .ok (.iload_n 1, 1) := by decide +kernel
theorem dX12_relayNow_7 : decode cX12_relayNow 7 = .ok (.iadd, 1) := by decide +kernel
theorem dX12_relayNow_8 : decode cX12_relayNow 8 = .ok (.aload_n 0, 1) := by decide +kernel
theorem dX12_relayNow_9 : decode cX12_relayNow 9 = .ok (.iload_n 1, 1) := by decide +kernel
theorem dX12_relayNow_10 : decode cX12_relayNow 10 = .ok (.iconst 3, 1) := by decide +kernel
theorem dX12_relayNow_11 : decode cX12_relayNow 11 = .ok (.invokevirtual 85, 3) := by decide +kernel
theorem dX12_relayNow_14 : decode cX12_relayNow 14 = .ok (.iastore, 1) := by decide +kernel
theorem dX12_relayNow_15 : decode cX12_relayNow 15 = .ok (.aload_n 0, 1) := by decide +kernel
theorem dX12_relayNow_16 : decode cX12_relayNow 16 = .ok (.getfield 7, 3) := by decide +kernel
theorem dX12_relayNow_19 : decode cX12_relayNow 19 = .ok (.bipush 9, 2) := by decide +kernel
theorem dX12_relayNow_21 : decode cX12_relayNow 21 = .ok (.dup2, 1) := by decide +kernel
theorem dX12_relayNow_22 : decode cX12_relayNow 22 = .ok (.iaload, 1) := by decide +kernel
theorem dX12_relayNow_23 : decode cX12_relayNow 23 = .ok (.aload_n 0, 1) := by decide +kernel
theorem dX12_relayNow_24 : decode cX12_relayNow 24 = .ok (.iload_n 1, 1) := by decide +kernel
theorem dX12_relayNow_25 : decode cX12_relayNow 25 = .ok (.iconst 2, 1) := by decide +kernel
theorem dX12_relayNow_26 : decode cX12_relayNow 26 = .ok (.invokevirtual 85, 3) := by decide +kernel
theorem dX12_relayNow_29 : decode cX12_relayNow 29 = .ok (.isub, 1) := by decide +kernel
theorem dX12_relayNow_30 : decode cX12_relayNow 30 = .ok (.iastore, 1) := by decide +kernel
theorem dX12_relayNow_31 : decode cX12_relayNow 31 = .ok (.return_, 1) := by decide +kernel
theorem dX12_relay_0 : decode cX12_relay 0 = .ok (.aload_n 0, 1) := by decide +kernel
theorem dX12_relay_1 : decode cX12_relay 1 = .ok (.iload_n 1, 1) := by decide +kernel
theorem dX12_relay_2 : decode cX12_relay 2 = .ok (.invokevirtual 376, 3) := by decide +kernel
theorem dX12_relay_5 : decode cX12_relay 5 = .ok (.ifCond .ne 5, 3) := by decide +kernel
theorem dX12_relay_8 : decode cX12_relay 8 = .ok (.iconst 0, 1) := by decide +kernel
theorem dX12_relay_9 : decode cX12_relay 9 = .ok (.ireturn, 1) := by decide +kernel
theorem dX12_relay_10 : decode cX12_relay 10 = .ok (.aload_n 0, 1) := by decide +kernel
theorem dX12_relay_11 : decode cX12_relay 11 = .ok (.invokevirtual 373, 3) := by decide +kernel
theorem dX12_relay_14 : decode cX12_relay 14 = .ok (.aload_n 0, 1) := by decide +kernel
theorem dX12_relay_15 : decode cX12_relay 15 = .ok (.iload_n 1, 1) := by decide +kernel
theorem dX12_relay_16 : decode cX12_relay 16 = .ok (.invokevirtual 379, 3) := by decide +kernel
theorem dX12_relay_19 : decode cX12_relay 19 = .ok (.iconst 1, 1) := by decide +kernel
theorem dX12_relay_20 : decode cX12_relay 20 = .ok (.ireturn, 1) := by decide +kernel
theorem dX12_coil_0 : decode cX12_coil 0 = .ok (.iload_n 1, 1) := by decide +kernel
theorem dX12_coil_1 : decode cX12_coil 1 = .ok (.iconst 1, 1) := by decide +kernel
theorem dX12_coil_2 : decode cX12_coil 2 = .ok (.bipush 99, 2) := by decide +kernel
theorem dX12_coil_4 : decode cX12_coil 4 = .ok (.invokestatic 81, 3) := by decide +kernel
theorem dX12_coil_7 : decode cX12_coil 7 = .ok (.ifCond .eq 18, 3) := by decide +kernel
theorem dX12_coil_10 : decode cX12_coil 10 = .ok (.aload_n 0, 1) := by decide +kernel
theorem dX12_coil_11 : decode cX12_coil 11 = .ok (.getfield 7, 3) := by decide +kernel
theorem dX12_coil_14 : decode cX12_coil 14 = .ok (.bipush 9, 2) := by decide +kernel
theorem dX12_coil_16 : decode cX12_coil 16 = .ok (.iaload, 1) := by decide +kernel
theorem dX12_coil_17 : decode cX12_coil 17 = .ok (.iload_n 1, 1) := by decide +kernel
theorem dX12_coil_18 : decode cX12_coil 18 = .ok (.iadd, 1) := by decide +kernel
theorem dX12_coil_19 : decode cX12_coil 19 = .ok (.sipush 999, 3) := by decide +kernel
theorem dX12_coil_22 : decode cX12_coil 22 = .ok (.if_icmp .le 5, 3) := by decide +kernel
theorem dX12_coil_25 : decode cX12_coil 25 = .ok (.iconst 0, 1) := by decide +kernel
theorem dX12_coil_26 : decode cX12_coil 26 = .ok (.ireturn, 1) := by decide +kernel
theorem dX12_coil_27 : decode cX12_coil 27 = .ok (.aload_n 0, 1) := by decide +kernel
theorem dX12_coil_28 : decode cX12_coil 28 = .ok (.invokevirtual 373, 3) := by decide +kernel
theorem dX12_coil_31 : decode cX12_coil 31 = .ok (.aload_n 0, 1) := by decide +kernel
theorem dX12_coil_32 : decode cX12_coil 32 = .ok (.getfield 7, 3) := by decide +kernel
theorem dX12_coil_35 : decode cX12_coil 35 = .ok (.bipush 9, 2) := by decide +kernel
theorem dX12_coil_37 : decode cX12_coil 37 = .ok (.dup2, 1) := by decide +kernel
theorem dX12_coil_38 : decode cX12_coil 38 = .ok (.iaload, 1) := by decide +kernel
theorem dX12_coil_39 : decode cX12_coil 39 = .ok (.iload_n 1, 1) := by decide +kernel
theorem dX12_coil_40 : decode cX12_coil 40 = .ok (.iadd, 1) := by decide +kernel
theorem dX12_coil_41 : decode cX12_coil 41 = .ok (.iastore, 1) := by decide +kernel
theorem dX12_coil_42 : decode cX12_coil 42 = .ok (.iconst 1, 1) := by decide +kernel
theorem dX12_coil_43 : decode cX12_coil 43 = .ok (.ireturn, 1) := by decide +kernel
theorem dX12_arePassed_0 : decode cX12_arePassed 0 = .ok (.aload_n 0, 1) := by decide +kernel
theorem dX12_arePassed_1 : decode cX12_arePassed 1 = .ok (.iconst 0, 1) := by decide +kernel
theorem dX12_arePassed_2 : decode cX12_arePassed 2 = .ok (.putfield 345, 3) := by decide +kernel
theorem dX12_arePassed_5 : decode cX12_arePassed 5 = .ok (.iconst 0, 1) := by decide +kernel
theorem dX12_arePassed_6 : decode cX12_arePassed 6 = .ok (.istore_n 2, 1) := by decide +kernel
theorem dX12_arePassed_7 : decode cX12_arePassed 7 = .ok (.iload_n 2, 1) := by decide +kernel
theorem dX12_arePassed_8 : decode cX12_arePassed 8 = .ok (.iload_n 1, 1) := by decide +kernel
theorem dX12_arePassed_9 : decode cX12_arePassed 9 = .ok (.if_icmp .ge 32, 3) := by decide +kernel
theorem dX12_arePassed_12 : decode cX12_arePassed 12 = .ok (.aload_n 0, 1) := by decide +kernel
theorem dX12_arePassed_13 : decode cX12_arePassed 13 = .ok (.getfield 7, 3) := by decide +kernel
theorem dX12_arePassed_16 : decode cX12_arePassed 16 = .ok (.bipush 6, 2) := by decide +kernel
theorem dX12_arePassed_18 : decode cX12_arePassed 18 = .ok (.iaload, 1) := by decide +kernel
theorem dX12_arePassed_19 : decode cX12_arePassed 19 = .ok (.sipush 9999, 3) := by decide +kernel
theorem dX12_arePassed_22 : decode cX12_arePassed 22 = .ok (.if_icmp .ne 5, 3) := by decide +kernel
theorem dX12_arePassed_25 : decode cX12_arePassed 25 = .ok (.iconst 0, 1) := by decide +kernel
theorem dX12_arePassed_26 : decode cX12_arePassed 26 = .ok (.ireturn, 1) := by decide +kernel
theorem dX12_arePassed_27 : decode cX12_arePassed 27 = .ok (.aload_n 0, 1) := by decide +kernel
theorem dX12_arePassed_28 : decode cX12_arePassed 28 = .ok (.invokevirtual 373, 3) := by decide +kernel
theorem dX12_arePassed_31 : decode cX12_arePassed 31 = .ok (.aload_n 0, 1) := by decide +kernel
theorem dX12_arePassed_32 : decode cX12_arePassed 32 = .ok (.invokevirtual 382, 3) := by decide +kernel
theorem dX12_arePassed_35 : decode cX12_arePassed 35 = .ok (.iinc 2 1, 3) := by decide +kernel
theorem dX12_arePassed_38 : decode cX12_arePassed 38 = .ok (.goto (-31), 3) := by decide +kernel
theorem dX12_arePassed_41 : decode cX12_arePassed 41 = .ok (.iconst 1, 1) := by decide +kernel
theorem dX12_arePassed_42 : decode cX12_arePassed 42 = .ok (.ireturn, 1) := by decide +kernel
theorem dX12_day_0 : decode cX12_day 0 = .ok (.iload_n 1, 1) := by decide +kernel
theorem dX12_day_1 : decode cX12_day 1 = .ok (.iconst 1, 1) := by decide +kernel
theorem dX12_day_2 : decode cX12_day 2 = .ok (.bipush 60, 2) := by decide +kernel
theorem dX12_day_4 : decode cX12_day 4 = .ok (.invokestatic 81, 3) := by decide +kernel
theorem dX12_day_7 : decode cX12_day 7 = .ok (.ifCond .eq 33, 3) := by decide +kernel
theorem dX12_day_10 : decode cX12_day 10 = .ok (.aload_n 0, 1) := by decide +kernel
theorem dX12_day_11 : decode cX12_day 11 = .ok (.getfield 7, 3) := by decide +kernel
theorem dX12_day_14 : decode cX12_day 14 = .ok (.bipush 6, 2) := by decide +kernel
theorem dX12_day_16 : decode cX12_day 16 = .ok (.iaload, 1) := by decide +kernel
theorem dX12_day_17 : decode cX12_day 17 = .ok (.iload_n 1, 1) := by decide +kernel
theorem dX12_day_18 : decode cX12_day 18 = .ok (.iadd, 1) := by decide +kernel
theorem dX12_day_19 : decode cX12_day 19 = .ok (.sipush 9999, 3) := by decide +kernel
theorem dX12_day_22 : decode cX12_day 22 = .ok (.if_icmp .gt 18, 3) := by decide +kernel
theorem dX12_day_25 : decode cX12_day 25 = .ok (.aload_n 0, 1) := by decide +kernel
theorem dX12_day_26 : decode cX12_day 26 = .ok (.iload_n 1, 1) := by decide +kernel
theorem dX12_day_27 : decode cX12_day 27 = .ok (.invokevirtual 385, 3) := by decide +kernel
theorem dX12_day_30 : decode cX12_day 30 = .ok (.ifCond .eq 10, 3) := by decide +kernel
theorem dX12_day_33 : decode cX12_day 33 = .ok (.aload_n 0, 1) := by decide +kernel
theorem dX12_day_34 : decode cX12_day 34 = .ok (.getfield 345, 3) := by decide +kernel
theorem dX12_day_37 : decode cX12_day 37 = .ok (.goto 4, 3) := by decide +kernel
theorem dX12_day_40 : decode cX12_day 40 = .ok (.iconst (-1), 1) := by decide +kernel
theorem dX12_day_41 : decode cX12_day 41 = .ok (.ireturn, 1) := by decide +kernel
theorem dX12_isPlayed_0 : decode cX12_isPlayed 0 = .ok (.aload_n 0, 1) := by decide +kernel
theorem dX12_isPlayed_1 : decode cX12_isPlayed 1 = .ok (.getfield 16, 3) := by decide +kernel
theorem dX12_isPlayed_4 : decode cX12_isPlayed 4 = .ok (.iload_n 1, 1) := by decide +kernel
theorem dX12_isPlayed_5 : decode cX12_isPlayed 5 = .ok (.iconst 1, 1) := by decide +kernel
theorem dX12_isPlayed_6 : decode cX12_isPlayed 6 = .ok (.iadd, 1) := by decide +kernel
theorem dX12_isPlayed_7 : decode cX12_isPlayed 7 = .ok (.iaload, 1) := by decide +kernel
theorem dX12_isPlayed_8 : decode cX12_isPlayed 8 = .ok (.istore_n 2, 1) := by decide +kernel
theorem dX12_isPlayed_9 : decode cX12_isPlayed 9 = .ok (.aload_n 0, 1) := by decide +kernel
theorem dX12_isPlayed_10 : decode cX12_isPlayed 10 = .ok (.getfield 16, 3) := by decide +kernel
theorem dX12_isPlayed_13 : decode cX12_isPlayed 13 = .ok (.iload_n 1, 1) := by decide +kernel
theorem dX12_isPlayed_14 : decode cX12_isPlayed 14 = .ok (.iconst 2, 1) := by decide +kernel
theorem dX12_isPlayed_15 : decode cX12_isPlayed 15 = .ok (.iadd, 1) := by decide +kernel
theorem dX12_isPlayed_16 : decode cX12_isPlayed 16 = .ok (.iaload, 1) := by decide +kernel
theorem dX12_isPlayed_17 : decode cX12_isPlayed 17 = .ok (.istore_n 3, 1) := by decide +kernel
theorem dX12_isPlayed_18 : decode cX12_isPlayed 18 = .ok (.aload_n 0, 1) := by decide +kernel
theorem dX12_isPlayed_19 : decode cX12_isPlayed 19 = .ok (.getfield 16, 3) := by decide +kernel
theorem dX12_isPlayed_22 : decode cX12_isPlayed 22 = .ok (.iload_n 1, 1) := by decide +kernel
theorem dX12_isPlayed_23 : decode cX12_isPlayed 23 = .ok (.iaload, 1) := by decide +kernel
theorem dX12_isPlayed_24 : decode cX12_isPlayed 24 = .ok (.tableswitch 119 2 7 #[40, 71, 86, 101, 107, 113], 40) := by decide +kernel
theorem dX12_isPlayed_64 : decode cX12_isPlayed 64 = .ok (.aload_n 0, 1) := by decide +kernel
theorem dX12_isPlayed_65 : decode cX12_isPlayed 65 = .ok (.iload_n 2, 1) := by decide +kernel
theorem dX12_isPlayed_66 : decode cX12_isPlayed 66 = .ok (.iload_n 3, 1) := by decide +kernel
theorem dX12_isPlayed_67 : decode cX12_isPlayed 67 = .ok (.aload_n 0, 1) := by decide +kernel
theorem dX12_isPlayed_68 : decode cX12_isPlayed 68 = .ok (.getfield 16, 3) := by decide +kernel
theorem dX12_isPlayed_71 : decode cX12_isPlayed 71 = .ok (.iload_n 1, 1) := by decide +kernel
theorem dX12_isPlayed_72 : decode cX12_isPlayed 72 = .ok (.iconst 3, 1) := by decide +kernel
theorem dX12_isPlayed_73 : decode cX12_isPlayed 73 = .ok (.iadd, 1) := by decide +kernel
theorem dX12_isPlayed_74 : decode cX12_isPlayed 74 = .ok (.iaload, 1) := by decide +kernel
theorem dX12_isPlayed_75 : decode cX12_isPlayed 75 = .ok (.aload_n 0, 1) := by decide +kernel
theorem dX12_isPlayed_76 : decode cX12_isPlayed 76 = .ok (.getfield 16, 3) := by decide +kernel
theorem dX12_isPlayed_79 : decode cX12_isPlayed 79 = .ok (.iload_n 1, 1) := by decide +kernel
theorem dX12_isPlayed_80 : decode cX12_isPlayed 80 = .ok (.iconst 4, 1) := by decide +kernel
theorem dX12_isPlayed_81 : decode cX12_isPlayed 81 = .ok (.iadd, 1) := by decide +kernel
theorem dX12_isPlayed_82 : decode cX12_isPlayed 82 = .ok (.iaload, 1) := by decide +kernel
theorem dX12_isPlayed_83 : decode cX12_isPlayed 83 = .ok (.invokevirtual 388, 3) := by decide +kernel
theorem dX12_isPlayed_86 : decode cX12_isPlayed 86 = .ok (.ifCond .lt 7, 3) := by decide +kernel
theorem dX12_isPlayed_89 : decode cX12_isPlayed 89 = .ok (.iconst 1, 1) := by decide +kernel
theorem dX12_isPlayed_90 : decode cX12_isPlayed 90 = .ok (.goto 4, 3) := by decide +kernel
theorem dX12_isPlayed_93 : decode cX12_isPlayed 93 = .ok (.iconst 0, 1) := by decide +kernel
theorem dX12_isPlayed_94 : decode cX12_isPlayed 94 = .ok (.ireturn, 1) := by decide +kernel
theorem dX12_isPlayed_95 : decode cX12_isPlayed 95 = .ok (.aload_n 0, 1) := by decide +kernel
theorem dX12_isPlayed_96 : decode cX12_isPlayed 96 = .ok (.iload_n 2, 1) := by decide +kernel
theorem dX12_isPlayed_97 : decode cX12_isPlayed 97 = .ok (.iload_n 3, 1) := by decide +kernel
theorem dX12_isPlayed_98 : decode cX12_isPlayed 98 = .ok (.invokevirtual 391, 3) := by decide +kernel
theorem dX12_isPlayed_101 : decode cX12_isPlayed 101 = .ok (.ifCond .lt 7, 3) := by decide +kernel
theorem dX12_isPlayed_104 : decode cX12_isPlayed 104 = .ok (.iconst 1, 1) := by decide +kernel
theorem dX12_isPlayed_105 : decode cX12_isPlayed 105 = .ok (.goto 4, 3) := by decide +kernel
theorem dX12_isPlayed_108 : decode cX12_isPlayed 108 = .ok (.iconst 0, 1) := by decide +kernel
theorem dX12_isPlayed_109 : decode cX12_isPlayed 109 = .ok (.ireturn, 1) := by decide +kernel
theorem dX12_isPlayed_110 : decode cX12_isPlayed 110 = .ok (.aload_n 0, 1) := by decide +kernel
theorem dX12_isPlayed_111 : decode cX12_isPlayed 111 = .ok (.iload_n 3, 1) := by decide +kernel
theorem dX12_isPlayed_112 : decode cX12_isPlayed 112 = .ok (.iload_n 2, 1) := by decide +kernel
theorem dX12_isPlayed_113 : decode cX12_isPlayed 113 = .ok (.invokevirtual 394, 3) := by decide +kernel
theorem dX12_isPlayed_116 : decode cX12_isPlayed 116 = .ok (.ifCond .lt 7, 3) := by decide +kernel
theorem dX12_isPlayed_119 : decode cX12_isPlayed 119 = .ok (.iconst 1, 1) := by decide +kernel
theorem dX12_isPlayed_120 : decode cX12_isPlayed 120 = .ok (.goto 4, 3) := by decide +kernel
theorem dX12_isPlayed_123 : decode cX12_isPlayed 123 = .ok (.iconst 0, 1) := by decide +kernel
theorem dX12_isPlayed_124 : decode cX12_isPlayed 124 = .ok (.ireturn, 1) := by decide +kernel
theorem dX12_isPlayed_125 : decode cX12_isPlayed 125 = .ok (.aload_n 0, 1) := by decide +kernel
theorem dX12_isPlayed_126 : decode cX12_isPlayed 126 = .ok (.iload_n 2, 1) := by decide +kernel
theorem dX12_isPlayed_127 : decode cX12_isPlayed 127 = .ok (.invokevirtual 397, 3) := by decide +kernel
theorem dX12_isPlayed_130 : decode cX12_isPlayed 130 = .ok (.ireturn, 1) := by decide +kernel
theorem dX12_isPlayed_131 : decode cX12_isPlayed 131 = .ok (.aload_n 0, 1) := by decide +kernel
theorem dX12_isPlayed_132 : decode cX12_isPlayed 132 = .ok (.iload_n 2, 1) := by decide +kernel
theorem dX12_isPlayed_133 : decode cX12_isPlayed 133 = .ok (.invokevirtual 400, 3) := by decide +kernel
theorem dX12_isPlayed_136 : decode cX12_isPlayed 136 = .ok (.ireturn, 1) := by decide +kernel
theorem dX12_isPlayed_137 : decode cX12_isPlayed 137 = .ok (.aload_n 0, 1) := by decide +kernel
theorem dX12_isPlayed_138 : decode cX12_isPlayed 138 = .ok (.iload_n 2, 1) := by decide +kernel
theorem dX12_isPlayed_139 : decode cX12_isPlayed 139 = .ok (.invokevirtual 385, 3) := by decide +kernel
theorem dX12_isPlayed_142 : decode cX12_isPlayed 142 = .ok (.ireturn, 1) := by decide +kernel
theorem dX12_isPlayed_143 : decode cX12_isPlayed 143 = .ok (.iconst 1, 1) := by decide +kernel
theorem dX12_isPlayed_144 : decode cX12_isPlayed 144 = .ok (.ireturn, 1) := by decide +kernel
theorem dX12_played_0 : decode cX12_played 0 = .ok (.iload_n 1, 1) := by decide +kernel
theorem dX12_played_1 : decode cX12_played 1 = .ok (.iconst 0, 1) := by decide +kernel
theorem dX12_played_2 : decode cX12_played 2 = .ok (.aload_n 0, 1) := by decide +kernel
theorem dX12_played_3 : decode cX12_played 3 = .ok (.getfield 7, 3) := by decide +kernel
theorem dX12_played_6 : decode cX12_played 6 = .ok (.iconst 2, 1) := by decide +kernel
theorem dX12_played_7 : decode cX12_played 7 = .ok (.iaload, 1) := by decide +kernel
theorem dX12_played_8 : decode cX12_played 8 = .ok (.iconst 1, 1) := by decide +kernel
theorem dX12_played_9 : decode cX12_played 9 = .ok (.isub, 1) := by decide +kernel
theorem dX12_played_10 : decode cX12_played 10 = .ok (.invokestatic 81, 3) := by decide +kernel
theorem dX12_played_13 : decode cX12_played 13 = .ok (.ifCond .ne 6, 3) := by decide +kernel
theorem dX12_played_16 : decode cX12_played 16 = .ok (.bipush (-2), 2) := by decide +kernel
theorem dX12_played_18 : decode cX12_played 18 = .ok (.ireturn, 1) := by decide +kernel
theorem dX12_played_19 : decode cX12_played 19 = .ok (.iconst 0, 1) := by decide +kernel
theorem dX12_played_20 : decode cX12_played 20 = .ok (.istore_n 2, 1) := by decide +kernel
theorem dX12_played_21 : decode cX12_played 21 = .ok (.iload_n 2, 1) := by decide +kernel
theorem dX12_played_22 : decode cX12_played 22 = .ok (.aload_n 0, 1) := by decide +kernel
theorem dX12_played_23 : decode cX12_played 23 = .ok (.getfield 16, 3) := by decide +kernel
theorem dX12_played_26 : decode cX12_played 26 = .ok (.sipush 729, 3) := by decide +kernel
theorem dX12_played_29 : decode cX12_played 29 = .ok (.iload_n 1, 1) := by decide +kernel
theorem dX12_played_30 : decode cX12_played 30 = .ok (.imul, 1) := by decide +kernel
theorem dX12_played_31 : decode cX12_played 31 = .ok (.iaload, 1) := by decide +kernel
theorem dX12_played_32 : decode cX12_played 32 = .ok (.if_icmp .ge 29, 3) := by decide +kernel
theorem dX12_played_35 : decode cX12_played 35 = .ok (.aload_n 0, 1) := by decide +kernel
theorem dX12_played_36 : decode cX12_played 36 = .ok (.sipush 729, 3) := by decide +kernel
theorem dX12_played_39 : decode cX12_played 39 = .ok (.iload_n 1, 1) := by decide +kernel
theorem dX12_played_40 : decode cX12_played 40 = .ok (.imul, 1) := by decide +kernel
theorem dX12_played_41 : decode cX12_played 41 = .ok (.iconst 1, 1) := by decide +kernel
theorem dX12_played_42 : decode cX12_played 42 = .ok (.iadd, 1) := by decide +kernel
theorem dX12_played_43 : decode cX12_played 43 = .ok (.iconst 5, 1) := by decide +kernel
theorem dX12_played_44 : decode cX12_played 44 = .ok (.iload_n 2, 1) := by decide +kernel
theorem dX12_played_45 : decode cX12_played 45 = .ok (.imul, 1) := by decide +kernel
theorem dX12_played_46 : decode cX12_played 46 = .ok (.iadd, 1) := by decide +kernel
theorem dX12_played_47 : decode cX12_played 47 = .ok (.invokevirtual 403, 3) := by decide +kernel
theorem dX12_played_50 : decode cX12_played 50 = .ok (.ifCond .ne 5, 3) := by decide +kernel
theorem dX12_played_53 : decode cX12_played 53 = .ok (.iload_n 2, 1) := by decide +kernel
theorem dX12_played_54 : decode cX12_played 54 = .ok (.ireturn, 1) := by decide +kernel
theorem dX12_played_55 : decode cX12_played 55 = .ok (.iinc 2 1, 3) := by decide +kernel
theorem dX12_played_58 : decode cX12_played 58 = .ok (.goto (-37), 3) := by decide +kernel
theorem dX12_played_61 : decode cX12_played 61 = .ok (.iconst (-1), 1) := by decide +kernel
theorem dX12_played_62 : decode cX12_played 62 = .ok (.ireturn, 1) := by decide +kernel
theorem dX12_happens_0 : decode cX12_happens 0 = .ok (.iload_n 1, 1) := by decide +kernel
theorem dX12_happens_1 : decode cX12_happens 1 = .ok (.bipush 6, 2) := by decide +kernel
theorem dX12_happens_3 : decode cX12_happens 3 = .ok (.irem, 1) := by decide +kernel
theorem dX12_happens_4 : decode cX12_happens 4 = .ok (.iconst 3, 1) := by decide +kernel
theorem dX12_happens_5 : decode cX12_happens 5 = .ok (.if_icmp .le 21, 3) := by decide +kernel
theorem dX12_happens_8 : decode cX12_happens 8 = .ok (.aload_n 0, 1) := by decide +kernel
theorem dX12_happens_9 : decode cX12_happens 9 = .ok (.getfield 7, 3) := by decide +kernel
theorem dX12_happens_12 : decode cX12_happens 12 = .ok (.bipush 6, 2) := by decide +kernel
theorem dX12_happens_14 : decode cX12_happens 14 = .ok (.iaload, 1) := by decide +kernel
theorem dX12_happens_15 : decode cX12_happens 15 = .ok (.sipush 9999, 3) := by decide +kernel
theorem dX12_happens_18 : decode cX12_happens 18 = .ok (.if_icmp .ge 7, 3) := by decide +kernel
theorem dX12_happens_21 : decode cX12_happens 21 = .ok (.aload_n 0, 1) := by decide +kernel
theorem dX12_happens_22 : decode cX12_happens 22 = .ok (.invokevirtual 382, 3) := by decide +kernel
theorem dX12_happens_25 : decode cX12_happens 25 = .ok (.return_, 1) := by decide +kernel
theorem dX12_happens_26 : decode cX12_happens 26 = .ok (.iload_n 1, 1) := by decide +kernel
theorem dX12_happens_27 : decode cX12_happens 27 = .ok (.bipush 6, 2) := by decide +kernel
theorem dX12_happens_29 : decode cX12_happens 29 = .ok (.irem, 1) := by decide +kernel
theorem dX12_happens_30 : decode cX12_happens 30 = .ok (.iconst 3, 1) := by decide +kernel
theorem dX12_happens_31 : decode cX12_happens 31 = .ok (.if_icmp .ne 40, 3) := by decide +kernel
theorem dX12_happens_34 : decode cX12_happens 34 = .ok (.aload_n 0, 1) := by decide +kernel
theorem dX12_happens_35 : decode cX12_happens 35 = .ok (.getfield 7, 3) := by decide +kernel
theorem dX12_happens_38 : decode cX12_happens 38 = .ok (.bipush 9, 2) := by decide +kernel
theorem dX12_happens_40 : decode cX12_happens 40 = .ok (.iaload, 1) := by decide +kernel
theorem dX12_happens_41 : decode cX12_happens 41 = .ok (.iconst 1, 1) := by decide +kernel
theorem dX12_happens_42 : decode cX12_happens 42 = .ok (.iadd, 1) := by decide +kernel
theorem dX12_happens_43 : decode cX12_happens 43 = .ok (.iload_n 1, 1) := by decide +kernel
theorem dX12_happens_44 : decode cX12_happens 44 = .ok (.bipush 9, 2) := by decide +kernel
theorem dX12_happens_46 : decode cX12_happens 46 = .ok (.irem, 1) := by decide +kernel
theorem dX12_happens_47 : decode cX12_happens 47 = .ok (.iadd, 1) := by decide +kernel
theorem dX12_happens_48 : decode cX12_happens 48 = .ok (.sipush 999, 3) := by decide +kernel
theorem dX12_happens_51 : decode cX12_happens 51 = .ok (.if_icmp .gt 19, 3) := by decide +kernel
theorem dX12_happens_54 : decode cX12_happens 54 = .ok (.aload_n 0, 1) := by decide +kernel
theorem dX12_happens_55 : decode cX12_happens 55 = .ok (.getfield 7, 3) := by decide +kernel
theorem dX12_happens_58 : decode cX12_happens 58 = .ok (.bipush 9, 2) := by decide +kernel
theorem dX12_happens_60 : decode cX12_happens 60 = .ok (.dup2, 1) := by decide +kernel
theorem dX12_happens_61 : decode cX12_happens 61 = .ok (.iaload, 1) := by decide +kernel
theorem dX12_happens_62 : decode cX12_happens 62 = .ok (.iconst 1, 1) := by decide +kernel
theorem dX12_happens_63 : decode cX12_happens 63 = .ok (.iload_n 1, 1) := by decide +kernel
theorem dX12_happens_64 : decode cX12_happens 64 = .ok (.bipush 9, 2) := by decide +kernel
theorem dX12_happens_66 : decode cX12_happens 66 = .ok (.irem, 1) := by decide +kernel
theorem dX12_happens_67 : decode cX12_happens 67 = .ok (.iadd, 1) := by decide +kernel
theorem dX12_happens_68 : decode cX12_happens 68 = .ok (.iadd, 1) := by decide +kernel
theorem dX12_happens_69 : decode cX12_happens 69 = .ok (.iastore, 1) := by decide +kernel
theorem dX12_happens_70 : decode cX12_happens 70 = .ok (.return_, 1) := by decide +kernel
theorem dX12_happens_71 : decode cX12_happens 71 = .ok (.aload_n 0, 1) := by decide +kernel
theorem dX12_happens_72 : decode cX12_happens 72 = .ok (.getfield 7, 3) := by decide +kernel
theorem dX12_happens_75 : decode cX12_happens 75 = .ok (.iconst 0, 1) := by decide +kernel
theorem dX12_happens_76 : decode cX12_happens 76 = .ok (.iaload, 1) := by decide +kernel
theorem dX12_happens_77 : decode cX12_happens 77 = .ok (.ifCond .ne 4, 3) := by decide +kernel
theorem dX12_happens_80 : decode cX12_happens 80 = .ok (.return_, 1) := by decide +kernel
theorem dX12_happens_81 : decode cX12_happens 81 = .ok (.iload_n 1, 1) := by decide +kernel
theorem dX12_happens_82 : decode cX12_happens 82 = .ok (.bipush 6, 2) := by decide +kernel
theorem dX12_happens_84 : decode cX12_happens 84 = .ok (.idiv, 1) := by decide +kernel
theorem dX12_happens_85 : decode cX12_happens 85 = .ok (.aload_n 0, 1) := by decide +kernel
theorem dX12_happens_86 : decode cX12_happens 86 = .ok (.getfield 7, 3) := by decide +kernel
theorem dX12_happens_89 : decode cX12_happens 89 = .ok (.iconst 0, 1) := by decide +kernel
theorem dX12_happens_90 : decode cX12_happens 90 = .ok (.iaload, 1) := by decide +kernel
theorem dX12_happens_91 : decode cX12_happens 91 = .ok (.irem, 1) := by decide +kernel
theorem dX12_happens_92 : decode cX12_happens 92 = .ok (.istore_n 2, 1) := by decide +kernel
theorem dX12_happens_93 : decode cX12_happens 93 = .ok (.iload_n 1, 1) := by decide +kernel
theorem dX12_happens_94 : decode cX12_happens 94 = .ok (.bipush 6, 2) := by decide +kernel
theorem dX12_happens_96 : decode cX12_happens 96 = .ok (.irem, 1) := by decide +kernel
theorem dX12_happens_97 : decode cX12_happens 97 = .ok (.iconst 2, 1) := by decide +kernel
theorem dX12_happens_98 : decode cX12_happens 98 = .ok (.if_icmp .ne 19, 3) := by decide +kernel
theorem dX12_happens_101 : decode cX12_happens 101 = .ok (.aload_n 0, 1) := by decide +kernel
theorem dX12_happens_102 : decode cX12_happens 102 = .ok (.iload_n 2, 1) := by decide +kernel
theorem dX12_happens_103 : decode cX12_happens 103 = .ok (.invokevirtual 376, 3) := by decide +kernel
theorem dX12_happens_106 : decode cX12_happens 106 = .ok (.ifCond .eq 50, 3) := by decide +kernel
theorem dX12_happens_109 : decode cX12_happens 109 = .ok (.aload_n 0, 1) := by decide +kernel
theorem dX12_happens_110 : decode cX12_happens 110 = .ok (.iload_n 2, 1) := by decide +kernel
theorem dX12_happens_111 : decode cX12_happens 111 = .ok (.invokevirtual 379, 3) := by decide +kernel
theorem dX12_happens_114 : decode cX12_happens 114 = .ok (.goto 42, 3) := by decide +kernel
theorem dX12_happens_117 : decode cX12_happens 117 = .ok (.aload_n 0, 1) := by decide +kernel
theorem dX12_happens_118 : decode cX12_happens 118 = .ok (.getfield 7, 3) := by decide +kernel
theorem dX12_happens_121 : decode cX12_happens 121 = .ok (.iconst 1, 1) := by decide +kernel
theorem dX12_happens_122 : decode cX12_happens 122 = .ok (.iaload, 1) := by decide +kernel
theorem dX12_happens_123 : decode cX12_happens 123 = .ok (.ifCond .le 33, 3) := by decide +kernel
theorem dX12_happens_126 : decode cX12_happens 126 = .ok (.aload_n 0, 1) := by decide +kernel
theorem dX12_happens_127 : decode cX12_happens 127 = .ok (.iload_n 1, 1) := by decide +kernel
theorem dX12_happens_128 : decode cX12_happens 128 = .ok (.aload_n 0, 1) := by decide +kernel
theorem dX12_happens_129 : decode cX12_happens 129 = .ok (.getfield 7, 3) := by decide +kernel
theorem dX12_happens_132 : decode cX12_happens 132 = .ok (.iconst 1, 1) := by decide +kernel
theorem dX12_happens_133 : decode cX12_happens 133 = .ok (.iaload, 1) := by decide +kernel
theorem dX12_happens_134 : decode cX12_happens 134 = .ok (.irem, 1) := by decide +kernel
theorem dX12_happens_135 : decode cX12_happens 135 = .ok (.iload_n 2, 1) := by decide +kernel
theorem dX12_happens_136 : decode cX12_happens 136 = .ok (.invokevirtual 352, 3) := by decide +kernel
theorem dX12_happens_139 : decode cX12_happens 139 = .ok (.ifCond .eq 17, 3) := by decide +kernel
theorem dX12_happens_142 : decode cX12_happens 142 = .ok (.aload_n 0, 1) := by decide +kernel
theorem dX12_happens_143 : decode cX12_happens 143 = .ok (.iload_n 1, 1) := by decide +kernel
theorem dX12_happens_144 : decode cX12_happens 144 = .ok (.aload_n 0, 1) := by decide +kernel
theorem dX12_happens_145 : decode cX12_happens 145 = .ok (.getfield 7, 3) := by decide +kernel
theorem dX12_happens_148 : decode cX12_happens 148 = .ok (.iconst 1, 1) := by decide +kernel
theorem dX12_happens_149 : decode cX12_happens 149 = .ok (.iaload, 1) := by decide +kernel
theorem dX12_happens_150 : decode cX12_happens 150 = .ok (.irem, 1) := by decide +kernel
theorem dX12_happens_151 : decode cX12_happens 151 = .ok (.iload_n 2, 1) := by decide +kernel
theorem dX12_happens_152 : decode cX12_happens 152 = .ok (.invokevirtual 367, 3) := by decide +kernel
theorem dX12_happens_155 : decode cX12_happens 155 = .ok (.pop, 1) := by decide +kernel
theorem dX12_happens_156 : decode cX12_happens 156 = .ok (.return_, 1) := by decide +kernel
theorem dX12_years_0 : decode cX12_years 0 = .ok (.iload_n 1, 1) := by decide +kernel
theorem dX12_years_1 : decode cX12_years 1 = .ok (.iconst 0, 1) := by decide +kernel
theorem dX12_years_2 : decode cX12_years 2 = .ok (.sipush 9999, 3) := by decide +kernel
theorem dX12_years_5 : decode cX12_years 5 = .ok (.invokestatic 81, 3) := by decide +kernel
theorem dX12_years_8 : decode cX12_years 8 = .ok (.ifCond .eq 13, 3) := by decide +kernel
theorem dX12_years_11 : decode cX12_years 11 = .ok (.iload_n 2, 1) := by decide +kernel
theorem dX12_years_12 : decode cX12_years 12 = .ok (.iconst 1, 1) := by decide +kernel
theorem dX12_years_13 : decode cX12_years 13 = .ok (.bipush 40, 2) := by decide +kernel
theorem dX12_years_15 : decode cX12_years 15 = .ok (.invokestatic 81, 3) := by decide +kernel
theorem dX12_years_18 : decode cX12_years 18 = .ok (.ifCond .ne 5, 3) := by decide +kernel
theorem dX12_years_21 : decode cX12_years 21 = .ok (.iconst (-1), 1) := by decide +kernel
theorem dX12_years_22 : decode cX12_years 22 = .ok (.ireturn, 1) := by decide +kernel
theorem dX12_years_23 : decode cX12_years 23 = .ok (.aload_n 0, 1) := by decide +kernel
theorem dX12_years_24 : decode cX12_years 24 = .ok (.invokevirtual 373, 3) := by decide +kernel
theorem dX12_years_27 : decode cX12_years 27 = .ok (.aload_n 0, 1) := by decide +kernel
theorem dX12_years_28 : decode cX12_years 28 = .ok (.getfield 7, 3) := by decide +kernel
theorem dX12_years_31 : decode cX12_years 31 = .ok (.bipush 7, 2) := by decide +kernel
theorem dX12_years_33 : decode cX12_years 33 = .ok (.iload_n 1, 1) := by decide +kernel
theorem dX12_years_34 : decode cX12_years 34 = .ok (.iconst 2, 1) := by decide +kernel
theorem dX12_years_35 : decode cX12_years 35 = .ok (.imul, 1) := by decide +kernel
theorem dX12_years_36 : decode cX12_years 36 = .ok (.sipush 283, 3) := by decide +kernel
theorem dX12_years_39 : decode cX12_years 39 = .ok (.iadd, 1) := by decide +kernel
theorem dX12_years_40 : decode cX12_years 40 = .ok (.iastore, 1) := by decide +kernel
theorem dX12_years_41 : decode cX12_years 41 = .ok (.iconst 0, 1) := by decide +kernel
theorem dX12_years_42 : decode cX12_years 42 = .ok (.istore_n 3, 1) := by decide +kernel
theorem dX12_years_43 : decode cX12_years 43 = .ok (.iload_n 3, 1) := by decide +kernel
theorem dX12_years_44 : decode cX12_years 44 = .ok (.iload_n 2, 1) := by decide +kernel
theorem dX12_years_45 : decode cX12_years 45 = .ok (.if_icmp .ge 28, 3) := by decide +kernel
theorem dX12_years_48 : decode cX12_years 48 = .ok (.aload_n 0, 1) := by decide +kernel
theorem dX12_years_49 : decode cX12_years 49 = .ok (.getfield 7, 3) := by decide +kernel
theorem dX12_years_52 : decode cX12_years 52 = .ok (.bipush 7, 2) := by decide +kernel
theorem dX12_years_54 : decode cX12_years 54 = .ok (.iaload, 1) := by decide +kernel
theorem dX12_years_55 : decode cX12_years 55 = .ok (.istore 4, 2) := by decide +kernel
theorem dX12_years_57 : decode cX12_years 57 = .ok (.aload_n 0, 1) := by decide +kernel
theorem dX12_years_58 : decode cX12_years 58 = .ok (.invokevirtual 318, 3) := by decide +kernel
theorem dX12_years_61 : decode cX12_years 61 = .ok (.aload_n 0, 1) := by decide +kernel
theorem dX12_years_62 : decode cX12_years 62 = .ok (.iload 4, 2) := by decide +kernel
theorem dX12_years_64 : decode cX12_years 64 = .ok (.invokevirtual 406, 3) := by decide +kernel
theorem dX12_years_67 : decode cX12_years 67 = .ok (.iinc 3 1, 3) := by decide +kernel
theorem dX12_years_70 : decode cX12_years 70 = .ok (.goto (-27), 3) := by decide +kernel
theorem dX12_years_73 : decode cX12_years 73 = .ok (.aload_n 0, 1) := by decide +kernel
theorem dX12_years_74 : decode cX12_years 74 = .ok (.getfield 7, 3) := by decide +kernel
theorem dX12_years_77 : decode cX12_years 77 = .ok (.bipush 6, 2) := by decide +kernel
theorem dX12_years_79 : decode cX12_years 79 = .ok (.iaload, 1) := by decide +kernel
theorem dX12_years_80 : decode cX12_years 80 = .ok (.ireturn, 1) := by decide +kernel
theorem dX12_of_0 : decode cX12_of 0 = .ok (.aload_n 0, 1) := by decide +kernel
theorem dX12_of_1 : decode cX12_of 1 = .ok (.iload_n 1, 1) := by decide +kernel
theorem dX12_of_2 : decode cX12_of 2 = .ok (.invokevirtual 333, 3) := by decide +kernel
theorem dX12_of_5 : decode cX12_of 5 = .ok (.ifCond .ne 5, 3) := by decide +kernel
theorem dX12_of_8 : decode cX12_of 8 = .ok (.iconst (-1), 1) := by decide +kernel
theorem dX12_of_9 : decode cX12_of 9 = .ok (.ireturn, 1) := by decide +kernel
theorem dX12_of_10 : decode cX12_of 10 = .ok (.iload_n 2, 1) := by decide +kernel
theorem dX12_of_11 : decode cX12_of 11 = .ok (.iconst 0, 1) := by decide +kernel
theorem dX12_of_12 : decode cX12_of 12 = .ok (.iconst 2, 1) := by decide +kernel
theorem dX12_of_13 : decode cX12_of 13 = .ok (.invokestatic 81, 3) := by decide +kernel
theorem dX12_of_16 : decode cX12_of 16 = .ok (.ifCond .eq 12, 3) := by decide +kernel
theorem dX12_of_19 : decode cX12_of 19 = .ok (.aload_n 0, 1) := by decide +kernel
theorem dX12_of_20 : decode cX12_of 20 = .ok (.iload_n 1, 1) := by decide +kernel
theorem dX12_of_21 : decode cX12_of 21 = .ok (.iload_n 2, 1) := by decide +kernel
theorem dX12_of_22 : decode cX12_of 22 = .ok (.invokevirtual 85, 3) := by decide +kernel
theorem dX12_of_25 : decode cX12_of 25 = .ok (.goto 48, 3) := by decide +kernel
theorem dX12_of_28 : decode cX12_of 28 = .ok (.iload_n 2, 1) := by decide +kernel
theorem dX12_of_29 : decode cX12_of 29 = .ok (.iconst 3, 1) := by decide +kernel
theorem dX12_of_30 : decode cX12_of 30 = .ok (.if_icmp .ne 15, 3) := by decide +kernel
theorem dX12_of_33 : decode cX12_of 33 = .ok (.aload_n 0, 1) := by decide +kernel
theorem dX12_of_34 : decode cX12_of 34 = .ok (.getfield 7, 3) := by decide +kernel
theorem dX12_of_37 : decode cX12_of 37 = .ok (.bipush 11, 2) := by decide +kernel
theorem dX12_of_39 : decode cX12_of 39 = .ok (.iload_n 1, 1) := by decide +kernel
theorem dX12_of_40 : decode cX12_of 40 = .ok (.iadd, 1) := by decide +kernel
theorem dX12_of_41 : decode cX12_of 41 = .ok (.iaload, 1) := by decide +kernel
theorem dX12_of_42 : decode cX12_of 42 = .ok (.goto 31, 3) := by decide +kernel
theorem dX12_of_45 : decode cX12_of 45 = .ok (.iload_n 2, 1) := by decide +kernel
theorem dX12_of_46 : decode cX12_of 46 = .ok (.iconst 4, 1) := by decide +kernel
theorem dX12_of_47 : decode cX12_of 47 = .ok (.if_icmp .ne 12, 3) := by decide +kernel
theorem dX12_of_50 : decode cX12_of 50 = .ok (.aload_n 0, 1) := by decide +kernel
theorem dX12_of_51 : decode cX12_of 51 = .ok (.iload_n 1, 1) := by decide +kernel
theorem dX12_of_52 : decode cX12_of 52 = .ok (.iconst 3, 1) := by decide +kernel
theorem dX12_of_53 : decode cX12_of 53 = .ok (.invokevirtual 85, 3) := by decide +kernel
theorem dX12_of_56 : decode cX12_of 56 = .ok (.goto 17, 3) := by decide +kernel
theorem dX12_of_59 : decode cX12_of 59 = .ok (.iload_n 2, 1) := by decide +kernel
theorem dX12_of_60 : decode cX12_of 60 = .ok (.iconst 5, 1) := by decide +kernel
theorem dX12_of_61 : decode cX12_of 61 = .ok (.if_icmp .ne 11, 3) := by decide +kernel
theorem dX12_of_64 : decode cX12_of 64 = .ok (.aload_n 0, 1) := by decide +kernel
theorem dX12_of_65 : decode cX12_of 65 = .ok (.iload_n 1, 1) := by decide +kernel
theorem dX12_of_66 : decode cX12_of 66 = .ok (.invokevirtual 370, 3) := by decide +kernel
theorem dX12_of_69 : decode cX12_of 69 = .ok (.goto 4, 3) := by decide +kernel
theorem dX12_of_72 : decode cX12_of 72 = .ok (.iconst (-1), 1) := by decide +kernel
theorem dX12_of_73 : decode cX12_of 73 = .ok (.ireturn, 1) := by decide +kernel
theorem dX12_ofGoer_0 : decode cX12_ofGoer 0 = .ok (.aload_n 0, 1) := by decide +kernel
theorem dX12_ofGoer_1 : decode cX12_ofGoer 1 = .ok (.iload_n 1, 1) := by decide +kernel
theorem dX12_ofGoer_2 : decode cX12_ofGoer 2 = .ok (.invokevirtual 330, 3) := by decide +kernel
theorem dX12_ofGoer_5 : decode cX12_ofGoer 5 = .ok (.ifCond .ne 5, 3) := by decide +kernel
theorem dX12_ofGoer_8 : decode cX12_ofGoer 8 = .ok (.iconst (-1), 1) := by decide +kernel
theorem dX12_ofGoer_9 : decode cX12_ofGoer 9 = .ok (.ireturn, 1) := by decide +kernel
theorem dX12_ofGoer_10 : decode cX12_ofGoer 10 = .ok (.iload_n 2, 1) := by decide +kernel
theorem dX12_ofGoer_11 : decode cX12_ofGoer 11 = .ok (.ifCond .ne 11, 3) := by decide +kernel
theorem dX12_ofGoer_14 : decode cX12_ofGoer 14 = .ok (.aload_n 0, 1) := by decide +kernel
theorem dX12_ofGoer_15 : decode cX12_ofGoer 15 = .ok (.iload_n 1, 1) := by decide +kernel
theorem dX12_ofGoer_16 : decode cX12_ofGoer 16 = .ok (.invokevirtual 336, 3) := by decide +kernel
theorem dX12_ofGoer_19 : decode cX12_ofGoer 19 = .ok (.goto 43, 3) := by decide +kernel
theorem dX12_ofGoer_22 : decode cX12_ofGoer 22 = .ok (.iload_n 2, 1) := by decide +kernel
theorem dX12_ofGoer_23 : decode cX12_ofGoer 23 = .ok (.iconst 1, 1) := by decide +kernel
theorem dX12_ofGoer_24 : decode cX12_ofGoer 24 = .ok (.if_icmp .ne 11, 3) := by decide +kernel
theorem dX12_ofGoer_27 : decode cX12_ofGoer 27 = .ok (.aload_n 0, 1) := by decide +kernel
theorem dX12_ofGoer_28 : decode cX12_ofGoer 28 = .ok (.iload_n 1, 1) := by decide +kernel
theorem dX12_ofGoer_29 : decode cX12_ofGoer 29 = .ok (.invokevirtual 308, 3) := by decide +kernel
theorem dX12_ofGoer_32 : decode cX12_ofGoer 32 = .ok (.goto 30, 3) := by decide +kernel
theorem dX12_ofGoer_35 : decode cX12_ofGoer 35 = .ok (.iload_n 2, 1) := by decide +kernel
theorem dX12_ofGoer_36 : decode cX12_ofGoer 36 = .ok (.iconst 2, 1) := by decide +kernel
theorem dX12_ofGoer_37 : decode cX12_ofGoer 37 = .ok (.if_icmp .ne 11, 3) := by decide +kernel
theorem dX12_ofGoer_40 : decode cX12_ofGoer 40 = .ok (.aload_n 0, 1) := by decide +kernel
theorem dX12_ofGoer_41 : decode cX12_ofGoer 41 = .ok (.iload_n 1, 1) := by decide +kernel
theorem dX12_ofGoer_42 : decode cX12_ofGoer 42 = .ok (.invokevirtual 311, 3) := by decide +kernel
theorem dX12_ofGoer_45 : decode cX12_ofGoer 45 = .ok (.goto 17, 3) := by decide +kernel
theorem dX12_ofGoer_48 : decode cX12_ofGoer 48 = .ok (.iload_n 2, 1) := by decide +kernel
theorem dX12_ofGoer_49 : decode cX12_ofGoer 49 = .ok (.iconst 3, 1) := by decide +kernel
theorem dX12_ofGoer_50 : decode cX12_ofGoer 50 = .ok (.if_icmp .ne 11, 3) := by decide +kernel
theorem dX12_ofGoer_53 : decode cX12_ofGoer 53 = .ok (.aload_n 0, 1) := by decide +kernel
theorem dX12_ofGoer_54 : decode cX12_ofGoer 54 = .ok (.iload_n 1, 1) := by decide +kernel
theorem dX12_ofGoer_55 : decode cX12_ofGoer 55 = .ok (.invokevirtual 358, 3) := by decide +kernel
theorem dX12_ofGoer_58 : decode cX12_ofGoer 58 = .ok (.goto 4, 3) := by decide +kernel
theorem dX12_ofGoer_61 : decode cX12_ofGoer 61 = .ok (.iconst (-1), 1) := by decide +kernel
theorem dX12_ofGoer_62 : decode cX12_ofGoer 62 = .ok (.ireturn, 1) := by decide +kernel
theorem dX12_sucks_0 : decode cX12_sucks 0 = .ok (.aload_n 0, 1) := by decide +kernel
theorem dX12_sucks_1 : decode cX12_sucks 1 = .ok (.iload_n 1, 1) := by decide +kernel
theorem dX12_sucks_2 : decode cX12_sucks 2 = .ok (.invokevirtual 330, 3) := by decide +kernel
theorem dX12_sucks_5 : decode cX12_sucks 5 = .ok (.ifCond .eq 26, 3) := by decide +kernel
theorem dX12_sucks_8 : decode cX12_sucks 8 = .ok (.aload_n 0, 1) := by decide +kernel
theorem dX12_sucks_9 : decode cX12_sucks 9 = .ok (.iload_n 2, 1) := by decide +kernel
theorem dX12_sucks_10 : decode cX12_sucks 10 = .ok (.invokevirtual 333, 3) := by decide +kernel
theorem dX12_sucks_13 : decode cX12_sucks 13 = .ok (.ifCond .eq 18, 3) := by decide +kernel
theorem dX12_sucks_16 : decode cX12_sucks 16 = .ok (.aload_n 0, 1) := by decide +kernel
theorem dX12_sucks_17 : decode cX12_sucks 17 = .ok (.aload_n 0, 1) := by decide +kernel
theorem dX12_sucks_18 : decode cX12_sucks 18 = .ok (.getfield 7, 3) := by decide +kernel
theorem dX12_sucks_21 : decode cX12_sucks 21 = .ok (.iconst 3, 1) := by decide +kernel
theorem dX12_sucks_22 : decode cX12_sucks 22 = .ok (.iaload, 1) := by decide +kernel
theorem dX12_sucks_23 : decode cX12_sucks 23 = .ok (.iload_n 1, 1) := by decide +kernel
theorem dX12_sucks_24 : decode cX12_sucks 24 = .ok (.iload_n 2, 1) := by decide +kernel
theorem dX12_sucks_25 : decode cX12_sucks 25 = .ok (.invokevirtual 327, 3) := by decide +kernel
theorem dX12_sucks_28 : decode cX12_sucks 28 = .ok (.goto 4, 3) := by decide +kernel
theorem dX12_sucks_31 : decode cX12_sucks 31 = .ok (.iconst (-1), 1) := by decide +kernel
theorem dX12_sucks_32 : decode cX12_sucks 32 = .ok (.ireturn, 1) := by decide +kernel
theorem dX12_is_0 : decode cX12_is 0 = .ok (.iload_n 1, 1) := by decide +kernel
theorem dX12_is_1 : decode cX12_is 1 = .ok (.iconst 0, 1) := by decide +kernel
theorem dX12_is_2 : decode cX12_is 2 = .ok (.iconst 3, 1) := by decide +kernel
theorem dX12_is_3 : decode cX12_is 3 = .ok (.invokestatic 81, 3) := by decide +kernel
theorem dX12_is_6 : decode cX12_is 6 = .ok (.ifCond .eq 15, 3) := by decide +kernel
theorem dX12_is_9 : decode cX12_is 9 = .ok (.aload_n 0, 1) := by decide +kernel
theorem dX12_is_10 : decode cX12_is 10 = .ok (.getfield 7, 3) := by decide +kernel
theorem dX12_is_13 : decode cX12_is 13 = .ok (.bipush 6, 2) := by decide +kernel
theorem dX12_is_15 : decode cX12_is 15 = .ok (.iload_n 1, 1) := by decide +kernel
theorem dX12_is_16 : decode cX12_is 16 = .ok (.iadd, 1) := by decide +kernel
theorem dX12_is_17 : decode cX12_is 17 = .ok (.iaload, 1) := by decide +kernel
theorem dX12_is_18 : decode cX12_is 18 = .ok (.goto 5, 3) := by decide +kernel
theorem dX12_is_21 : decode cX12_is 21 = .ok (.bipush (-2), 2) := by decide +kernel
theorem dX12_is_23 : decode cX12_is 23 = .ok (.ireturn, 1) := by decide +kernel
theorem dX12_entry_0 : decode cX12_entry 0 = .ok (.aload_n 0, 1) := by decide +kernel
theorem dX12_entry_1 : decode cX12_entry 1 = .ok (.getfield 7, 3) := by decide +kernel
theorem dX12_entry_4 : decode cX12_entry 4 = .ok (.sipush 2089, 3) := by decide +kernel
theorem dX12_entry_7 : decode cX12_entry 7 = .ok (.iload_n 1, 1) := by decide +kernel
theorem dX12_entry_8 : decode cX12_entry 8 = .ok (.iadd, 1) := by decide +kernel
theorem dX12_entry_9 : decode cX12_entry 9 = .ok (.iaload, 1) := by decide +kernel
theorem dX12_entry_10 : decode cX12_entry 10 = .ok (.istore_n 3, 1) := by decide +kernel
theorem dX12_entry_11 : decode cX12_entry 11 = .ok (.iload_n 2, 1) := by decide +kernel
theorem dX12_entry_12 : decode cX12_entry 12 = .ok (.ifCond .ne 11, 3) := by decide +kernel
theorem dX12_entry_15 : decode cX12_entry 15 = .ok (.iload_n 3, 1) := by decide +kernel
theorem dX12_entry_16 : decode cX12_entry 16 = .ok (.sipush 9600, 3) := by decide +kernel
theorem dX12_entry_19 : decode cX12_entry 19 = .ok (.idiv, 1) := by decide +kernel
theorem dX12_entry_20 : decode cX12_entry 20 = .ok (.goto 38, 3) := by decide +kernel
theorem dX12_entry_23 : decode cX12_entry 23 = .ok (.iload_n 2, 1) := by decide +kernel
theorem dX12_entry_24 : decode cX12_entry 24 = .ok (.iconst 1, 1) := by decide +kernel
theorem dX12_entry_25 : decode cX12_entry 25 = .ok (.if_icmp .ne 14, 3) := by decide +kernel
theorem dX12_entry_28 : decode cX12_entry 28 = .ok (.iload_n 3, 1) := by decide +kernel
theorem dX12_entry_29 : decode cX12_entry 29 = .ok (.sipush 1600, 3) := by decide +kernel
theorem dX12_entry_32 : decode cX12_entry 32 = .ok (.idiv, 1) := by decide +kernel
theorem dX12_entry_33 : decode cX12_entry 33 = .ok (.bipush 6, 2) := by decide +kernel
theorem dX12_entry_35 : decode cX12_entry 35 = .ok (.irem, 1) := by decide +kernel
theorem dX12_entry_36 : decode cX12_entry 36 = .ok (.goto 22, 3) := by decide +kernel
theorem dX12_entry_39 : decode cX12_entry 39 = .ok (.iload_n 2, 1) := by decide +kernel
theorem dX12_entry_40 : decode cX12_entry 40 = .ok (.iconst 2, 1) := by decide +kernel
theorem dX12_entry_41 : decode cX12_entry 41 = .ok (.if_icmp .ne 13, 3) := by decide +kernel
theorem dX12_entry_44 : decode cX12_entry 44 = .ok (.iload_n 3, 1) := by decide +kernel
theorem dX12_entry_45 : decode cX12_entry 45 = .ok (.bipush 100, 2) := by decide +kernel
theorem dX12_entry_47 : decode cX12_entry 47 = .ok (.idiv, 1) := by decide +kernel
theorem dX12_entry_48 : decode cX12_entry 48 = .ok (.bipush 16, 2) := by decide +kernel
theorem dX12_entry_50 : decode cX12_entry 50 = .ok (.irem, 1) := by decide +kernel
theorem dX12_entry_51 : decode cX12_entry 51 = .ok (.goto 7, 3) := by decide +kernel
theorem dX12_entry_54 : decode cX12_entry 54 = .ok (.iload_n 3, 1) := by decide +kernel
theorem dX12_entry_55 : decode cX12_entry 55 = .ok (.bipush 100, 2) := by decide +kernel
theorem dX12_entry_57 : decode cX12_entry 57 = .ok (.irem, 1) := by decide +kernel
theorem dX12_entry_58 : decode cX12_entry 58 = .ok (.ireturn, 1) := by decide +kernel
theorem dX12_book_0 : decode cX12_book 0 = .ok (.iload_n 1, 1) := by decide +kernel
theorem dX12_book_1 : decode cX12_book 1 = .ok (.iconst (-1), 1) := by decide +kernel
theorem dX12_book_2 : decode cX12_book 2 = .ok (.if_icmp .ne 11, 3) := by decide +kernel
theorem dX12_book_5 : decode cX12_book 5 = .ok (.aload_n 0, 1) := by decide +kernel
theorem dX12_book_6 : decode cX12_book 6 = .ok (.getfield 7, 3) := by decide +kernel
theorem dX12_book_9 : decode cX12_book 9 = .ok (.bipush 10, 2) := by decide +kernel
theorem dX12_book_11 : decode cX12_book 11 = .ok (.iaload, 1) := by decide +kernel
theorem dX12_book_12 : decode cX12_book 12 = .ok (.ireturn, 1) := by decide +kernel
theorem dX12_book_13 : decode cX12_book 13 = .ok (.iload_n 1, 1) := by decide +kernel
theorem dX12_book_14 : decode cX12_book 14 = .ok (.iconst 0, 1) := by decide +kernel
theorem dX12_book_15 : decode cX12_book 15 = .ok (.aload_n 0, 1) := by decide +kernel
theorem dX12_book_16 : decode cX12_book 16 = .ok (.getfield 7, 3) := by decide +kernel
theorem dX12_book_19 : decode cX12_book 19 = .ok (.bipush 10, 2) := by decide +kernel
theorem dX12_book_21 : decode cX12_book 21 = .ok (.iaload, 1) := by decide +kernel
theorem dX12_book_22 : decode cX12_book 22 = .ok (.iconst 1, 1) := by decide +kernel
theorem dX12_book_23 : decode cX12_book 23 = .ok (.isub, 1) := by decide +kernel
theorem dX12_book_24 : decode cX12_book 24 = .ok (.invokestatic 81, 3) := by decide +kernel
theorem dX12_book_27 : decode cX12_book 27 = .ok (.ifCond .eq 21, 3) := by decide +kernel
theorem dX12_book_30 : decode cX12_book 30 = .ok (.iload_n 2, 1) := by decide +kernel
theorem dX12_book_31 : decode cX12_book 31 = .ok (.iconst 0, 1) := by decide +kernel
theorem dX12_book_32 : decode cX12_book 32 = .ok (.iconst 3, 1) := by decide +kernel
theorem dX12_book_33 : decode cX12_book 33 = .ok (.invokestatic 81, 3) := by decide +kernel
theorem dX12_book_36 : decode cX12_book 36 = .ok (.ifCond .eq 12, 3) := by decide +kernel
theorem dX12_book_39 : decode cX12_book 39 = .ok (.aload_n 0, 1) := by decide +kernel
theorem dX12_book_40 : decode cX12_book 40 = .ok (.iload_n 1, 1) := by decide +kernel
theorem dX12_book_41 : decode cX12_book 41 = .ok (.iload_n 2, 1) := by decide +kernel
theorem dX12_book_42 : decode cX12_book 42 = .ok (.invokevirtual 409, 3) := by decide +kernel
theorem dX12_book_45 : decode cX12_book 45 = .ok (.goto 5, 3) := by decide +kernel
theorem dX12_book_48 : decode cX12_book 48 = .ok (.bipush (-2), 2) := by decide +kernel
theorem dX12_book_50 : decode cX12_book 50 = .ok (.ireturn, 1) := by decide +kernel
theorem dX12_ledger_0 : decode cX12_ledger 0 = .ok (.iload_n 1, 1) := by decide +kernel
theorem dX12_ledger_1 : decode cX12_ledger 1 = .ok (.iconst (-1), 1) := by decide +kernel
theorem dX12_ledger_2 : decode cX12_ledger 2 = .ok (.if_icmp .eq 14, 3) := by decide +kernel
theorem dX12_ledger_5 : decode cX12_ledger 5 = .ok (.aload_n 0, 1) := by decide +kernel
theorem dX12_ledger_6 : decode cX12_ledger 6 = .ok (.iload_n 1, 1) := by decide +kernel
theorem dX12_ledger_7 : decode cX12_ledger 7 = .ok (.invokevirtual 330, 3) := by decide +kernel
theorem dX12_ledger_10 : decode cX12_ledger 10 = .ok (.ifCond .ne 6, 3) := by decide +kernel
theorem dX12_ledger_13 : decode cX12_ledger 13 = .ok (.bipush (-2), 2) := by decide +kernel
theorem dX12_ledger_15 : decode cX12_ledger 15 = .ok (.ireturn, 1) := by decide +kernel
theorem dX12_ledger_16 : decode cX12_ledger 16 = .ok (.iconst 0, 1) := by decide +kernel
theorem dX12_ledger_17 : decode cX12_ledger 17 = .ok (.istore_n 2, 1) := by decide +kernel
theorem dX12_ledger_18 : decode cX12_ledger 18 = .ok (.iconst 0, 1) := by decide +kernel
theorem dX12_ledger_19 : decode cX12_ledger 19 = .ok (.istore_n 3, 1) := by decide +kernel
theorem dX12_ledger_20 : decode cX12_ledger 20 = .ok (.iload_n 3, 1) := by decide +kernel
theorem dX12_ledger_21 : decode cX12_ledger 21 = .ok (.aload_n 0, 1) := by decide +kernel
theorem dX12_ledger_22 : decode cX12_ledger 22 = .ok (.getfield 7, 3) := by decide +kernel
theorem dX12_ledger_25 : decode cX12_ledger 25 = .ok (.bipush 10, 2) := by decide +kernel
theorem dX12_ledger_27 : decode cX12_ledger 27 = .ok (.iaload, 1) := by decide +kernel
theorem dX12_ledger_28 : decode cX12_ledger 28 = .ok (.if_icmp .ge 37, 3) := by decide +kernel
theorem dX12_ledger_31 : decode cX12_ledger 31 = .ok (.iload_n 2, 1) := by decide +kernel
theorem dX12_ledger_32 : decode cX12_ledger 32 = .ok (.iload_n 1, 1) := by decide +kernel
theorem dX12_ledger_33 : decode cX12_ledger 33 = .ok (.iconst (-1), 1) := by decide +kernel
theorem dX12_ledger_34 : decode cX12_ledger 34 = .ok (.if_icmp .eq 13, 3) := by decide +kernel
theorem dX12_ledger_37 : decode cX12_ledger 37 = .ok (.aload_n 0, 1) := by decide +kernel
theorem dX12_ledger_38 : decode cX12_ledger 38 = .ok (.iload_n 3, 1) := by decide +kernel
theorem dX12_ledger_39 : decode cX12_ledger 39 = .ok (.iconst 1, 1) := by decide +kernel
theorem dX12_ledger_40 : decode cX12_ledger 40 = .ok (.invokevirtual 409, 3) := by decide +kernel
theorem dX12_ledger_43 : decode cX12_ledger 43 = .ok (.iload_n 1, 1) := by decide +kernel
theorem dX12_ledger_44 : decode cX12_ledger 44 = .ok (.if_icmp .ne 12, 3) := by decide +kernel
theorem dX12_ledger_47 : decode cX12_ledger 47 = .ok (.aload_n 0, 1) := by decide +kernel
theorem dX12_ledger_48 : decode cX12_ledger 48 = .ok (.iload_n 3, 1) := by decide +kernel
theorem dX12_ledger_49 : decode cX12_ledger 49 = .ok (.iconst 3, 1) := by decide +kernel
theorem dX12_ledger_50 : decode cX12_ledger 50 = .ok (.invokevirtual 409, 3) := by decide +kernel
theorem dX12_ledger_53 : decode cX12_ledger 53 = .ok (.goto 4, 3) := by decide +kernel
theorem dX12_ledger_56 : decode cX12_ledger 56 = .ok (.iconst 0, 1) := by decide +kernel
theorem dX12_ledger_57 : decode cX12_ledger 57 = .ok (.iadd, 1) := by decide +kernel
theorem dX12_ledger_58 : decode cX12_ledger 58 = .ok (.istore_n 2, 1) := by decide +kernel
theorem dX12_ledger_59 : decode cX12_ledger 59 = .ok (.iinc 3 1, 3) := by decide +kernel
theorem dX12_ledger_62 : decode cX12_ledger 62 = .ok (.goto (-42), 3) := by decide +kernel
theorem dX12_ledger_65 : decode cX12_ledger 65 = .ok (.iload_n 2, 1) := by decide +kernel
theorem dX12_ledger_66 : decode cX12_ledger 66 = .ok (.ireturn, 1) := by decide +kernel
theorem dX12_thinnest_0 : decode cX12_thinnest 0 = .ok (.iconst (-1), 1) := by decide +kernel
theorem dX12_thinnest_1 : decode cX12_thinnest 1 = .ok (.istore_n 1, 1) := by decide +kernel
theorem dX12_thinnest_2 : decode cX12_thinnest 2 = .ok (.iconst 0, 1) := by decide +kernel
theorem dX12_thinnest_3 : decode cX12_thinnest 3 = .ok (.istore_n 2, 1) := by decide +kernel
theorem dX12_thinnest_4 : decode cX12_thinnest 4 = .ok (.iload_n 2, 1) := by decide +kernel
theorem dX12_thinnest_5 : decode cX12_thinnest 5 = .ok (.aload_n 0, 1) := by decide +kernel
theorem dX12_thinnest_6 : decode cX12_thinnest 6 = .ok (.getfield 7, 3) := by decide +kernel
theorem dX12_thinnest_9 : decode cX12_thinnest 9 = .ok (.iconst 0, 1) := by decide +kernel
theorem dX12_thinnest_10 : decode cX12_thinnest 10 = .ok (.iaload, 1) := by decide +kernel
theorem dX12_thinnest_11 : decode cX12_thinnest 11 = .ok (.if_icmp .ge 37, 3) := by decide +kernel
theorem dX12_thinnest_14 : decode cX12_thinnest 14 = .ok (.iload_n 1, 1) := by decide +kernel
theorem dX12_thinnest_15 : decode cX12_thinnest 15 = .ok (.iconst (-1), 1) := by decide +kernel
theorem dX12_thinnest_16 : decode cX12_thinnest 16 = .ok (.if_icmp .eq 24, 3) := by decide +kernel
theorem dX12_thinnest_19 : decode cX12_thinnest 19 = .ok (.aload_n 0, 1) := by decide +kernel
theorem dX12_thinnest_20 : decode cX12_thinnest 20 = .ok (.getfield 7, 3) := by decide +kernel
theorem dX12_thinnest_23 : decode cX12_thinnest 23 = .ok (.bipush 11, 2) := by decide +kernel
theorem dX12_thinnest_25 : decode cX12_thinnest 25 = .ok (.iload_n 2, 1) := by decide +kernel
theorem dX12_thinnest_26 : decode cX12_thinnest 26 = .ok (.iadd, 1) := by decide +kernel
theorem dX12_thinnest_27 : decode cX12_thinnest 27 = .ok (.iaload, 1) := by decide +kernel
theorem dX12_thinnest_28 : decode cX12_thinnest 28 = .ok (.aload_n 0, 1) := by decide +kernel
theorem dX12_thinnest_29 : decode cX12_thinnest 29 = .ok (.getfield 7, 3) := by decide +kernel
theorem dX12_thinnest_32 : decode cX12_thinnest 32 = .ok (.bipush 11, 2) := by decide +kernel
theorem dX12_thinnest_34 : decode cX12_thinnest 34 = .ok (.iload_n 1, 1) := by decide +kernel
theorem dX12_thinnest_35 : decode cX12_thinnest 35 = .ok (.iadd, 1) := by decide +kernel
theorem dX12_thinnest_36 : decode cX12_thinnest 36 = .ok (.iaload, 1) := by decide +kernel
theorem dX12_thinnest_37 : decode cX12_thinnest 37 = .ok (.if_icmp .ge 5, 3) := by decide +kernel
theorem dX12_thinnest_40 : decode cX12_thinnest 40 = .ok (.iload_n 2, 1) := by decide +kernel
theorem dX12_thinnest_41 : decode cX12_thinnest 41 = .ok (.istore_n 1, 1) := by decide +kernel
theorem dX12_thinnest_42 : decode cX12_thinnest 42 = .ok (.iinc 2 1, 3) := by decide +kernel
theorem dX12_thinnest_45 : decode cX12_thinnest 45 = .ok (.goto (-41), 3) := by decide +kernel
theorem dX12_thinnest_48 : decode cX12_thinnest 48 = .ok (.iload_n 1, 1) := by decide +kernel
theorem dX12_thinnest_49 : decode cX12_thinnest 49 = .ok (.ireturn, 1) := by decide +kernel
theorem dX12_busiest_0 : decode cX12_busiest 0 = .ok (.iconst (-1), 1) := by decide +kernel
theorem dX12_busiest_1 : decode cX12_busiest 1 = .ok (.istore_n 1, 1) := by decide +kernel
theorem dX12_busiest_2 : decode cX12_busiest 2 = .ok (.iconst 0, 1) := by decide +kernel
theorem dX12_busiest_3 : decode cX12_busiest 3 = .ok (.istore_n 2, 1) := by decide +kernel
theorem dX12_busiest_4 : decode cX12_busiest 4 = .ok (.iload_n 2, 1) := by decide +kernel
theorem dX12_busiest_5 : decode cX12_busiest 5 = .ok (.aload_n 0, 1) := by decide +kernel
theorem dX12_busiest_6 : decode cX12_busiest 6 = .ok (.getfield 7, 3) := by decide +kernel
theorem dX12_busiest_9 : decode cX12_busiest 9 = .ok (.iconst 1, 1) := by decide +kernel
theorem dX12_busiest_10 : decode cX12_busiest 10 = .ok (.iaload, 1) := by decide +kernel
theorem dX12_busiest_11 : decode cX12_busiest 11 = .ok (.if_icmp .ge 33, 3) := by decide +kernel
theorem dX12_busiest_14 : decode cX12_busiest 14 = .ok (.aload_n 0, 1) := by decide +kernel
theorem dX12_busiest_15 : decode cX12_busiest 15 = .ok (.iload_n 2, 1) := by decide +kernel
theorem dX12_busiest_16 : decode cX12_busiest 16 = .ok (.invokevirtual 311, 3) := by decide +kernel
theorem dX12_busiest_19 : decode cX12_busiest 19 = .ok (.iload_n 1, 1) := by decide +kernel
theorem dX12_busiest_20 : decode cX12_busiest 20 = .ok (.iconst (-1), 1) := by decide +kernel
theorem dX12_busiest_21 : decode cX12_busiest 21 = .ok (.if_icmp .ne 7, 3) := by decide +kernel
theorem dX12_busiest_24 : decode cX12_busiest 24 = .ok (.iconst 0, 1) := by decide +kernel
theorem dX12_busiest_25 : decode cX12_busiest 25 = .ok (.goto 8, 3) := by decide +kernel
theorem dX12_busiest_28 : decode cX12_busiest 28 = .ok (.aload_n 0, 1) := by decide +kernel
theorem dX12_busiest_29 : decode cX12_busiest 29 = .ok (.iload_n 1, 1) := by decide +kernel
theorem dX12_busiest_30 : decode cX12_busiest 30 = .ok (.invokevirtual 311, 3) := by decide +kernel
theorem dX12_busiest_33 : decode cX12_busiest 33 = .ok (.if_icmp .le 5, 3) := by decide +kernel
theorem dX12_busiest_36 : decode cX12_busiest 36 = .ok (.iload_n 2, 1) := by decide +kernel
theorem dX12_busiest_37 : decode cX12_busiest 37 = .ok (.istore_n 1, 1) := by decide +kernel
theorem dX12_busiest_38 : decode cX12_busiest 38 = .ok (.iinc 2 1, 3) := by decide +kernel
theorem dX12_busiest_41 : decode cX12_busiest 41 = .ok (.goto (-37), 3) := by decide +kernel
theorem dX12_busiest_44 : decode cX12_busiest 44 = .ok (.iload_n 1, 1) := by decide +kernel
theorem dX12_busiest_45 : decode cX12_busiest 45 = .ok (.ireturn, 1) := by decide +kernel
theorem dX12_stranded_0 : decode cX12_stranded 0 = .ok (.iconst 0, 1) := by decide +kernel
theorem dX12_stranded_1 : decode cX12_stranded 1 = .ok (.istore_n 1, 1) := by decide +kernel
theorem dX12_stranded_2 : decode cX12_stranded 2 = .ok (.iconst 0, 1) := by decide +kernel
theorem dX12_stranded_3 : decode cX12_stranded 3 = .ok (.istore_n 2, 1) := by decide +kernel
theorem dX12_stranded_4 : decode cX12_stranded 4 = .ok (.iload_n 2, 1) := by decide +kernel
theorem dX12_stranded_5 : decode cX12_stranded 5 = .ok (.aload_n 0, 1) := by decide +kernel
theorem dX12_stranded_6 : decode cX12_stranded 6 = .ok (.getfield 7, 3) := by decide +kernel
theorem dX12_stranded_9 : decode cX12_stranded 9 = .ok (.iconst 1, 1) := by decide +kernel
theorem dX12_stranded_10 : decode cX12_stranded 10 = .ok (.iaload, 1) := by decide +kernel
theorem dX12_stranded_11 : decode cX12_stranded 11 = .ok (.if_icmp .ge 27, 3) := by decide +kernel
theorem dX12_stranded_14 : decode cX12_stranded 14 = .ok (.iload_n 1, 1) := by decide +kernel
theorem dX12_stranded_15 : decode cX12_stranded 15 = .ok (.aload_n 0, 1) := by decide +kernel
theorem dX12_stranded_16 : decode cX12_stranded 16 = .ok (.iload_n 2, 1) := by decide +kernel
theorem dX12_stranded_17 : decode cX12_stranded 17 = .ok (.invokevirtual 358, 3) := by decide +kernel
theorem dX12_stranded_20 : decode cX12_stranded 20 = .ok (.ifCond .ne 9, 3) := by decide +kernel
theorem dX12_stranded_23 : decode cX12_stranded 23 = .ok (.iconst 1, 1) := by decide +kernel
theorem dX12_stranded_24 : decode cX12_stranded 24 = .ok (.iload_n 2, 1) := by decide +kernel
theorem dX12_stranded_25 : decode cX12_stranded 25 = .ok (.ishl, 1) := by decide +kernel
theorem dX12_stranded_26 : decode cX12_stranded 26 = .ok (.goto 4, 3) := by decide +kernel
theorem dX12_stranded_29 : decode cX12_stranded 29 = .ok (.iconst 0, 1) := by decide +kernel
theorem dX12_stranded_30 : decode cX12_stranded 30 = .ok (.ior, 1) := by decide +kernel
theorem dX12_stranded_31 : decode cX12_stranded 31 = .ok (.istore_n 1, 1) := by decide +kernel
theorem dX12_stranded_32 : decode cX12_stranded 32 = .ok (.iinc 2 1, 3) := by decide +kernel
theorem dX12_stranded_35 : decode cX12_stranded 35 = .ok (.goto (-31), 3) := by decide +kernel
theorem dX12_stranded_38 : decode cX12_stranded 38 = .ok (.iload_n 1, 1) := by decide +kernel
theorem dX12_stranded_39 : decode cX12_stranded 39 = .ok (.ireturn, 1) := by decide +kernel
theorem dX12_foretold_0 : decode cX12_foretold 0 = .ok (.iload_n 1, 1) := by decide +kernel
theorem dX12_foretold_1 : decode cX12_foretold 1 = .ok (.iconst 1, 1) := by decide +kernel
theorem dX12_foretold_2 : decode cX12_foretold 2 = .ok (.bipush 60, 2) := by decide +kernel
theorem dX12_foretold_4 : decode cX12_foretold 4 = .ok (.invokestatic 81, 3) := by decide +kernel
theorem dX12_foretold_7 : decode cX12_foretold 7 = .ok (.ifCond .eq 35, 3) := by decide +kernel
theorem dX12_foretold_10 : decode cX12_foretold 10 = .ok (.iload_n 2, 1) := by decide +kernel
theorem dX12_foretold_11 : decode cX12_foretold 11 = .ok (.iconst 0, 1) := by decide +kernel
theorem dX12_foretold_12 : decode cX12_foretold 12 = .ok (.iconst 2, 1) := by decide +kernel
theorem dX12_foretold_13 : decode cX12_foretold 13 = .ok (.invokestatic 81, 3) := by decide +kernel
theorem dX12_foretold_16 : decode cX12_foretold 16 = .ok (.ifCond .eq 26, 3) := by decide +kernel
theorem dX12_foretold_19 : decode cX12_foretold 19 = .ok (.iload_n 2, 1) := by decide +kernel
theorem dX12_foretold_20 : decode cX12_foretold 20 = .ok (.ifCond .ne 14, 3) := by decide +kernel
theorem dX12_foretold_23 : decode cX12_foretold 23 = .ok (.aload_n 0, 1) := by decide +kernel
theorem dX12_foretold_24 : decode cX12_foretold 24 = .ok (.iload_n 3, 1) := by decide +kernel
theorem dX12_foretold_25 : decode cX12_foretold 25 = .ok (.invokevirtual 333, 3) := by decide +kernel
theorem dX12_foretold_28 : decode cX12_foretold 28 = .ok (.ifCond .eq 14, 3) := by decide +kernel
theorem dX12_foretold_31 : decode cX12_foretold 31 = .ok (.goto 13, 3) := by decide +kernel
theorem dX12_foretold_34 : decode cX12_foretold 34 = .ok (.aload_n 0, 1) := by decide +kernel
theorem dX12_foretold_35 : decode cX12_foretold 35 = .ok (.iload_n 3, 1) := by decide +kernel
theorem dX12_foretold_36 : decode cX12_foretold 36 = .ok (.invokevirtual 330, 3) := by decide +kernel
theorem dX12_foretold_39 : decode cX12_foretold 39 = .ok (.ifCond .ne 5, 3) := by decide +kernel
theorem dX12_foretold_42 : decode cX12_foretold 42 = .ok (.iconst (-1), 1) := by decide +kernel
theorem dX12_foretold_43 : decode cX12_foretold 43 = .ok (.ireturn, 1) := by decide +kernel
theorem dX12_foretold_44 : decode cX12_foretold 44 = .ok (.bipush 6, 2) := by decide +kernel
theorem dX12_foretold_46 : decode cX12_foretold 46 = .ok (.istore 4, 2) := by decide +kernel
theorem dX12_foretold_48 : decode cX12_foretold 48 = .ok (.iload 4, 2) := by decide +kernel
theorem dX12_foretold_50 : decode cX12_foretold 50 = .ok (.bipush 39, 2) := by decide +kernel
theorem dX12_foretold_52 : decode cX12_foretold 52 = .ok (.if_icmp .ge 23, 3) := by decide +kernel
theorem dX12_foretold_55 : decode cX12_foretold 55 = .ok (.aload_n 0, 1) := by decide +kernel
theorem dX12_foretold_56 : decode cX12_foretold 56 = .ok (.getfield 47, 3) := by decide +kernel
theorem dX12_foretold_59 : decode cX12_foretold 59 = .ok (.iload 4, 2) := by decide +kernel
theorem dX12_foretold_61 : decode cX12_foretold 61 = .ok (.aload_n 0, 1) := by decide +kernel
theorem dX12_foretold_62 : decode cX12_foretold 62 = .ok (.getfield 7, 3) := by decide +kernel
theorem dX12_foretold_65 : decode cX12_foretold 65 = .ok (.iload 4, 2) := by decide +kernel
theorem dX12_foretold_67 : decode cX12_foretold 67 = .ok (.iaload, 1) := by decide +kernel
theorem dX12_foretold_68 : decode cX12_foretold 68 = .ok (.iastore, 1) := by decide +kernel
theorem dX12_foretold_69 : decode cX12_foretold 69 = .ok (.iinc 4 1, 3) := by decide +kernel
theorem dX12_foretold_72 : decode cX12_foretold 72 = .ok (.goto (-24), 3) := by decide +kernel
theorem dX12_foretold_75 : decode cX12_foretold 75 = .ok (.aload_n 0, 1) := by decide +kernel
theorem dX12_foretold_76 : decode cX12_foretold 76 = .ok (.iconst 0, 1) := by decide +kernel
theorem dX12_foretold_77 : decode cX12_foretold 77 = .ok (.putfield 43, 3) := by decide +kernel
theorem dX12_foretold_80 : decode cX12_foretold 80 = .ok (.iconst 0, 1) := by decide +kernel
theorem dX12_foretold_81 : decode cX12_foretold 81 = .ok (.istore 4, 2) := by decide +kernel
theorem dX12_foretold_83 : decode cX12_foretold 83 = .ok (.iload 4, 2) := by decide +kernel
theorem dX12_foretold_85 : decode cX12_foretold 85 = .ok (.iload_n 1, 1) := by decide +kernel
theorem dX12_foretold_86 : decode cX12_foretold 86 = .ok (.if_icmp .ge 26, 3) := by decide +kernel
theorem dX12_foretold_89 : decode cX12_foretold 89 = .ok (.aload_n 0, 1) := by decide +kernel
theorem dX12_foretold_90 : decode cX12_foretold 90 = .ok (.getfield 7, 3) := by decide +kernel
theorem dX12_foretold_93 : decode cX12_foretold 93 = .ok (.bipush 6, 2) := by decide +kernel
theorem dX12_foretold_95 : decode cX12_foretold 95 = .ok (.iaload, 1) := by decide +kernel
theorem dX12_foretold_96 : decode cX12_foretold 96 = .ok (.sipush 9999, 3) := by decide +kernel
theorem dX12_foretold_99 : decode cX12_foretold 99 = .ok (.if_icmp .ge 7, 3) := by decide +kernel
theorem dX12_foretold_102 : decode cX12_foretold 102 = .ok (.aload_n 0, 1) := by decide +kernel
theorem dX12_foretold_103 : decode cX12_foretold 103 = .ok (.invokevirtual 382, 3) := by decide +kernel
theorem dX12_foretold_106 : decode cX12_foretold 106 = .ok (.iinc 4 1, 3) := by decide +kernel
theorem dX12_foretold_109 : decode cX12_foretold 109 = .ok (.goto (-26), 3) := by decide +kernel
theorem dX12_foretold_112 : decode cX12_foretold 112 = .ok (.iload_n 2, 1) := by decide +kernel
theorem dX12_foretold_113 : decode cX12_foretold 113 = .ok (.ifCond .ne 15, 3) := by decide +kernel
theorem dX12_foretold_116 : decode cX12_foretold 116 = .ok (.aload_n 0, 1) := by decide +kernel
theorem dX12_foretold_117 : decode cX12_foretold 117 = .ok (.getfield 7, 3) := by decide +kernel
theorem dX12_foretold_120 : decode cX12_foretold 120 = .ok (.bipush 11, 2) := by decide +kernel
theorem dX12_foretold_122 : decode cX12_foretold 122 = .ok (.iload_n 3, 1) := by decide +kernel
theorem dX12_foretold_123 : decode cX12_foretold 123 = .ok (.iadd, 1) := by decide +kernel
theorem dX12_foretold_124 : decode cX12_foretold 124 = .ok (.iaload, 1) := by decide +kernel
theorem dX12_foretold_125 : decode cX12_foretold 125 = .ok (.goto 21, 3) := by decide +kernel
theorem dX12_foretold_128 : decode cX12_foretold 128 = .ok (.iload_n 2, 1) := by decide +kernel
theorem dX12_foretold_129 : decode cX12_foretold 129 = .ok (.iconst 1, 1) := by decide +kernel
theorem dX12_foretold_130 : decode cX12_foretold 130 = .ok (.if_icmp .ne 11, 3) := by decide +kernel
theorem dX12_foretold_133 : decode cX12_foretold 133 = .ok (.aload_n 0, 1) := by decide +kernel
theorem dX12_foretold_134 : decode cX12_foretold 134 = .ok (.iload_n 3, 1) := by decide +kernel
theorem dX12_foretold_135 : decode cX12_foretold 135 = .ok (.invokevirtual 336, 3) := by decide +kernel
theorem dX12_foretold_138 : decode cX12_foretold 138 = .ok (.goto 8, 3) := by decide +kernel
theorem dX12_foretold_141 : decode cX12_foretold 141 = .ok (.aload_n 0, 1) := by decide +kernel
theorem dX12_foretold_142 : decode cX12_foretold 142 = .ok (.iload_n 3, 1) := by decide +kernel
theorem dX12_foretold_143 : decode cX12_foretold 143 = .ok (.invokevirtual 311, 3) := by decide +kernel
theorem dX12_foretold_146 : decode cX12_foretold 146 = .ok (.istore 4, 2) := by decide +kernel
theorem dX12_foretold_148 : decode cX12_foretold 148 = .ok (.bipush 6, 2) := by decide +kernel
theorem dX12_foretold_150 : decode cX12_foretold 150 = .ok (.istore 5, 2) := by decide +kernel
theorem dX12_foretold_152 : decode cX12_foretold 152 = .ok (.iload 5, 2) := by decide +kernel
theorem dX12_foretold_154 : decode cX12_foretold 154 = .ok (.bipush 39, 2) := by decide +kernel
theorem dX12_foretold_156 : decode cX12_foretold 156 = .ok (.if_icmp .ge 23, 3) := by decide +kernel
theorem dX12_foretold_159 : decode cX12_foretold 159 = .ok (.aload_n 0, 1) := by decide +kernel
theorem dX12_foretold_160 : decode cX12_foretold 160 = .ok (.getfield 7, 3) := by decide +kernel
theorem dX12_foretold_163 : decode cX12_foretold 163 = .ok (.iload 5, 2) := by decide +kernel
theorem dX12_foretold_165 : decode cX12_foretold 165 = .ok (.aload_n 0, 1) := by decide +kernel
theorem dX12_foretold_166 : decode cX12_foretold 166 = .ok (.getfield 47, 3) := by decide +kernel
theorem dX12_foretold_169 : decode cX12_foretold 169 = .ok (.iload 5, 2) := by decide +kernel
theorem dX12_foretold_171 : decode cX12_foretold 171 = .ok (.iaload, 1) := by decide +kernel
theorem dX12_foretold_172 : decode cX12_foretold 172 = .ok (.iastore, 1) := by decide +kernel
theorem dX12_foretold_173 : decode cX12_foretold 173 = .ok (.iinc 5 1, 3) := by decide +kernel
theorem dX12_foretold_176 : decode cX12_foretold 176 = .ok (.goto (-24), 3) := by decide +kernel
theorem dX12_foretold_179 : decode cX12_foretold 179 = .ok (.aload_n 0, 1) := by decide +kernel
theorem dX12_foretold_180 : decode cX12_foretold 180 = .ok (.iconst 1, 1) := by decide +kernel
theorem dX12_foretold_181 : decode cX12_foretold 181 = .ok (.putfield 43, 3) := by decide +kernel
theorem dX12_foretold_184 : decode cX12_foretold 184 = .ok (.iload 4, 2) := by decide +kernel
theorem dX12_foretold_186 : decode cX12_foretold 186 = .ok (.ireturn, 1) := by decide +kernel
theorem dX12_layFar_0 : decode cX12_layFar 0 = .ok (.iconst 0, 1) := by decide +kernel
theorem dX12_layFar_1 : decode cX12_layFar 1 = .ok (.istore 4, 2) := by decide +kernel
theorem dX12_layFar_3 : decode cX12_layFar 3 = .ok (.iload 4, 2) := by decide +kernel
theorem dX12_layFar_5 : decode cX12_layFar 5 = .ok (.bipush 8, 2) := by decide +kernel
theorem dX12_layFar_7 : decode cX12_layFar 7 = .ok (.if_icmp .ge 29, 3) := by decide +kernel
theorem dX12_layFar_10 : decode cX12_layFar 10 = .ok (.aload_n 0, 1) := by decide +kernel
theorem dX12_layFar_11 : decode cX12_layFar 11 = .ok (.getfield 50, 3) := by decide +kernel
theorem dX12_layFar_14 : decode cX12_layFar 14 = .ok (.iload 4, 2) := by decide +kernel
theorem dX12_layFar_16 : decode cX12_layFar 16 = .ok (.iload 4, 2) := by decide +kernel
theorem dX12_layFar_18 : decode cX12_layFar 18 = .ok (.iload_n 1, 1) := by decide +kernel
theorem dX12_layFar_19 : decode cX12_layFar 19 = .ok (.if_icmp .ne 7, 3) := by decide +kernel
theorem dX12_layFar_22 : decode cX12_layFar 22 = .ok (.iconst 0, 1) := by decide +kernel
theorem dX12_layFar_23 : decode cX12_layFar 23 = .ok (.goto 6, 3) := by decide +kernel
theorem dX12_layFar_26 : decode cX12_layFar 26 = .ok (.ldc_w 412, 3) := by decide +kernel
theorem dX12_layFar_29 : decode cX12_layFar 29 = .ok (.iastore, 1) := by decide +kernel
theorem dX12_layFar_30 : decode cX12_layFar 30 = .ok (.iinc 4 1, 3) := by decide +kernel
theorem dX12_layFar_33 : decode cX12_layFar 33 = .ok (.goto (-30), 3) := by decide +kernel
theorem dX12_layFar_36 : decode cX12_layFar 36 = .ok (.iconst 0, 1) := by decide +kernel
theorem dX12_layFar_37 : decode cX12_layFar 37 = .ok (.istore 4, 2) := by decide +kernel
theorem dX12_layFar_39 : decode cX12_layFar 39 = .ok (.iload 4, 2) := by decide +kernel
theorem dX12_layFar_41 : decode cX12_layFar 41 = .ok (.bipush 8, 2) := by decide +kernel
theorem dX12_layFar_43 : decode cX12_layFar 43 = .ok (.if_icmp .ge 164, 3) := by decide +kernel
theorem dX12_layFar_46 : decode cX12_layFar 46 = .ok (.iconst 0, 1) := by decide +kernel
theorem dX12_layFar_47 : decode cX12_layFar 47 = .ok (.istore 5, 2) := by decide +kernel
theorem dX12_layFar_49 : decode cX12_layFar 49 = .ok (.iload 5, 2) := by decide +kernel
theorem dX12_layFar_51 : decode cX12_layFar 51 = .ok (.aload_n 0, 1) := by decide +kernel
theorem dX12_layFar_52 : decode cX12_layFar 52 = .ok (.getfield 7, 3) := by decide +kernel
theorem dX12_layFar_55 : decode cX12_layFar 55 = .ok (.iconst 0, 1) := by decide +kernel
theorem dX12_layFar_56 : decode cX12_layFar 56 = .ok (.iaload, 1) := by decide +kernel
theorem dX12_layFar_57 : decode cX12_layFar 57 = .ok (.if_icmp .ge 144, 3) := by decide +kernel
theorem dX12_layFar_60 : decode cX12_layFar 60 = .ok (.iload 5, 2) := by decide +kernel
theorem dX12_layFar_62 : decode cX12_layFar 62 = .ok (.iload_n 3, 1) := by decide +kernel
theorem dX12_layFar_63 : decode cX12_layFar 63 = .ok (.if_icmp .eq 132, 3) := by decide +kernel
theorem dX12_layFar_66 : decode cX12_layFar 66 = .ok (.aload_n 0, 1) := by decide +kernel
theorem dX12_layFar_67 : decode cX12_layFar 67 = .ok (.getfield 7, 3) := by decide +kernel
theorem dX12_layFar_70 : decode cX12_layFar 70 = .ok (.bipush 11, 2) := by decide +kernel
theorem dX12_layFar_72 : decode cX12_layFar 72 = .ok (.iload 5, 2) := by decide +kernel
theorem dX12_layFar_74 : decode cX12_layFar 74 = .ok (.iadd, 1) := by decide +kernel
theorem dX12_layFar_75 : decode cX12_layFar 75 = .ok (.iaload, 1) := by decide +kernel
theorem dX12_layFar_76 : decode cX12_layFar 76 = .ok (.iload_n 2, 1) := by decide +kernel
theorem dX12_layFar_77 : decode cX12_layFar 77 = .ok (.if_icmp .ge 6, 3) := by decide +kernel
theorem dX12_layFar_80 : decode cX12_layFar 80 = .ok (.goto 115, 3) := by decide +kernel
theorem dX12_layFar_83 : decode cX12_layFar 83 = .ok (.aload_n 0, 1) := by decide +kernel
theorem dX12_layFar_84 : decode cX12_layFar 84 = .ok (.iload 5, 2) := by decide +kernel
theorem dX12_layFar_86 : decode cX12_layFar 86 = .ok (.iconst 0, 1) := by decide +kernel
theorem dX12_layFar_87 : decode cX12_layFar 87 = .ok (.invokevirtual 85, 3) := by decide +kernel
theorem dX12_layFar_90 : decode cX12_layFar 90 = .ok (.istore 6, 2) := by decide +kernel
theorem dX12_layFar_92 : decode cX12_layFar 92 = .ok (.aload_n 0, 1) := by decide +kernel
theorem dX12_layFar_93 : decode cX12_layFar 93 = .ok (.iload 5, 2) := by decide +kernel
theorem dX12_layFar_95 : decode cX12_layFar 95 = .ok (.iconst 1, 1) := by decide +kernel
theorem dX12_layFar_96 : decode cX12_layFar 96 = .ok (.invokevirtual 85, 3) := by decide +kernel
theorem dX12_layFar_99 : decode cX12_layFar 99 = .ok (.istore 7, 2) := by decide +kernel
theorem dX12_layFar_101 : decode cX12_layFar 101 = .ok (.aload_n 0, 1) := by decide +kernel
theorem dX12_layFar_102 : decode cX12_layFar 102 = .ok (.getfield 50, 3) := by decide +kernel
theorem dX12_layFar_105 : decode cX12_layFar 105 = .ok (.iload 6, 2) := by decide +kernel
theorem dX12_layFar_107 : decode cX12_layFar 107 = .ok (.iaload, 1) := by decide +kernel
theorem dX12_layFar_108 : decode cX12_layFar 108 = .ok (.aload_n 0, 1) := by decide +kernel
theorem dX12_layFar_109 : decode cX12_layFar 109 = .ok (.iload 5, 2) := by decide +kernel
theorem dX12_layFar_111 : decode cX12_layFar 111 = .ok (.iconst 2, 1) := by decide +kernel
theorem dX12_layFar_112 : decode cX12_layFar 112 = .ok (.invokevirtual 85, 3) := by decide +kernel
theorem dX12_layFar_115 : decode cX12_layFar 115 = .ok (.iadd, 1) := by decide +kernel
theorem dX12_layFar_116 : decode cX12_layFar 116 = .ok (.aload_n 0, 1) := by decide +kernel
theorem dX12_layFar_117 : decode cX12_layFar 117 = .ok (.getfield 50, 3) := by decide +kernel
theorem dX12_layFar_120 : decode cX12_layFar 120 = .ok (.iload 7, 2) := by decide +kernel
theorem dX12_layFar_122 : decode cX12_layFar 122 = .ok (.iaload, 1) := by decide +kernel
theorem dX12_layFar_123 : decode cX12_layFar 123 = .ok (.if_icmp .ge 25, 3) := by decide +kernel
theorem dX12_layFar_126 : decode cX12_layFar 126 = .ok (.aload_n 0, 1) := by decide +kernel
theorem dX12_layFar_127 : decode cX12_layFar 127 = .ok (.getfield 50, 3) := by decide +kernel
theorem dX12_layFar_130 : decode cX12_layFar 130 = .ok (.iload 7, 2) := by decide +kernel
theorem dX12_layFar_132 : decode cX12_layFar 132 = .ok (.aload_n 0, 1) := by decide +kernel
theorem dX12_layFar_133 : decode cX12_layFar 133 = .ok (.getfield 50, 3) := by decide +kernel
theorem dX12_layFar_136 : decode cX12_layFar 136 = .ok (.iload 6, 2) := by decide +kernel
theorem dX12_layFar_138 : decode cX12_layFar 138 = .ok (.iaload, 1) := by decide +kernel
theorem dX12_layFar_139 : decode cX12_layFar 139 = .ok (.aload_n 0, 1) := by decide +kernel
theorem dX12_layFar_140 : decode cX12_layFar 140 = .ok (.iload 5, 2) := by decide +kernel
theorem dX12_layFar_142 : decode cX12_layFar 142 = .ok (.iconst 2, 1) := by decide +kernel
theorem dX12_layFar_143 : decode cX12_layFar 143 = .ok (.invokevirtual 85, 3) := by decide +kernel
theorem dX12_layFar_146 : decode cX12_layFar 146 = .ok (.iadd, 1) := by decide +kernel
theorem dX12_layFar_147 : decode cX12_layFar 147 = .ok (.iastore, 1) := by decide +kernel
theorem dX12_layFar_148 : decode cX12_layFar 148 = .ok (.aload_n 0, 1) := by decide +kernel
theorem dX12_layFar_149 : decode cX12_layFar 149 = .ok (.getfield 50, 3) := by decide +kernel
theorem dX12_layFar_152 : decode cX12_layFar 152 = .ok (.iload 7, 2) := by decide +kernel
theorem dX12_layFar_154 : decode cX12_layFar 154 = .ok (.iaload, 1) := by decide +kernel
theorem dX12_layFar_155 : decode cX12_layFar 155 = .ok (.aload_n 0, 1) := by decide +kernel
theorem dX12_layFar_156 : decode cX12_layFar 156 = .ok (.iload 5, 2) := by decide +kernel
theorem dX12_layFar_158 : decode cX12_layFar 158 = .ok (.iconst 2, 1) := by decide +kernel
theorem dX12_layFar_159 : decode cX12_layFar 159 = .ok (.invokevirtual 85, 3) := by decide +kernel
theorem dX12_layFar_162 : decode cX12_layFar 162 = .ok (.iadd, 1) := by decide +kernel
theorem dX12_layFar_163 : decode cX12_layFar 163 = .ok (.aload_n 0, 1) := by decide +kernel
theorem dX12_layFar_164 : decode cX12_layFar 164 = .ok (.getfield 50, 3) := by decide +kernel
theorem dX12_layFar_167 : decode cX12_layFar 167 = .ok (.iload 6, 2) := by decide +kernel
theorem dX12_layFar_169 : decode cX12_layFar 169 = .ok (.iaload, 1) := by decide +kernel
theorem dX12_layFar_170 : decode cX12_layFar 170 = .ok (.if_icmp .ge 25, 3) := by decide +kernel
theorem dX12_layFar_173 : decode cX12_layFar 173 = .ok (.aload_n 0, 1) := by decide +kernel
theorem dX12_layFar_174 : decode cX12_layFar 174 = .ok (.getfield 50, 3) := by decide +kernel
theorem dX12_layFar_177 : decode cX12_layFar 177 = .ok (.iload 6, 2) := by decide +kernel
theorem dX12_layFar_179 : decode cX12_layFar 179 = .ok (.aload_n 0, 1) := by decide +kernel
theorem dX12_layFar_180 : decode cX12_layFar 180 = .ok (.getfield 50, 3) := by decide +kernel
theorem dX12_layFar_183 : decode cX12_layFar 183 = .ok (.iload 7, 2) := by decide +kernel
theorem dX12_layFar_185 : decode cX12_layFar 185 = .ok (.iaload, 1) := by decide +kernel
theorem dX12_layFar_186 : decode cX12_layFar 186 = .ok (.aload_n 0, 1) := by decide +kernel
theorem dX12_layFar_187 : decode cX12_layFar 187 = .ok (.iload 5, 2) := by decide +kernel
theorem dX12_layFar_189 : decode cX12_layFar 189 = .ok (.iconst 2, 1) := by decide +kernel
theorem dX12_layFar_190 : decode cX12_layFar 190 = .ok (.invokevirtual 85, 3) := by decide +kernel
theorem dX12_layFar_193 : decode cX12_layFar 193 = .ok (.iadd, 1) := by decide +kernel
theorem dX12_layFar_194 : decode cX12_layFar 194 = .ok (.iastore, 1) := by decide +kernel
theorem dX12_layFar_195 : decode cX12_layFar 195 = .ok (.iinc 5 1, 3) := by decide +kernel
theorem dX12_layFar_198 : decode cX12_layFar 198 = .ok (.goto (-149), 3) := by decide +kernel
theorem dX12_layFar_201 : decode cX12_layFar 201 = .ok (.iinc 4 1, 3) := by decide +kernel
theorem dX12_layFar_204 : decode cX12_layFar 204 = .ok (.goto (-165), 3) := by decide +kernel
theorem dX12_layFar_207 : decode cX12_layFar 207 = .ok (.return_, 1) := by decide +kernel
theorem dX12_milesOf_0 : decode cX12_milesOf 0 = .ok (.aload_n 0, 1) := by decide +kernel
theorem dX12_milesOf_1 : decode cX12_milesOf 1 = .ok (.iload_n 2, 1) := by decide +kernel
theorem dX12_milesOf_2 : decode cX12_milesOf 2 = .ok (.iload_n 3, 1) := by decide +kernel
theorem dX12_milesOf_3 : decode cX12_milesOf 3 = .ok (.iconst (-1), 1) := by decide +kernel
theorem dX12_milesOf_4 : decode cX12_milesOf 4 = .ok (.invokevirtual 413, 3) := by decide +kernel
theorem dX12_milesOf_7 : decode cX12_milesOf 7 = .ok (.aload_n 0, 1) := by decide +kernel
theorem dX12_milesOf_8 : decode cX12_milesOf 8 = .ok (.getfield 50, 3) := by decide +kernel
theorem dX12_milesOf_11 : decode cX12_milesOf 11 = .ok (.iload_n 1, 1) := by decide +kernel
theorem dX12_milesOf_12 : decode cX12_milesOf 12 = .ok (.iaload, 1) := by decide +kernel
theorem dX12_milesOf_13 : decode cX12_milesOf 13 = .ok (.ireturn, 1) := by decide +kernel
theorem dX12_miles_0 : decode cX12_miles 0 = .ok (.iload_n 1, 1) := by decide +kernel
theorem dX12_miles_1 : decode cX12_miles 1 = .ok (.invokestatic 89, 3) := by decide +kernel
theorem dX12_miles_4 : decode cX12_miles 4 = .ok (.ifCond .eq 20, 3) := by decide +kernel
theorem dX12_miles_7 : decode cX12_miles 7 = .ok (.iload_n 2, 1) := by decide +kernel
theorem dX12_miles_8 : decode cX12_miles 8 = .ok (.invokestatic 89, 3) := by decide +kernel
theorem dX12_miles_11 : decode cX12_miles 11 = .ok (.ifCond .eq 13, 3) := by decide +kernel
theorem dX12_miles_14 : decode cX12_miles 14 = .ok (.iload_n 3, 1) := by decide +kernel
theorem dX12_miles_15 : decode cX12_miles 15 = .ok (.iconst 0, 1) := by decide +kernel
theorem dX12_miles_16 : decode cX12_miles 16 = .ok (.bipush 99, 2) := by decide +kernel
theorem dX12_miles_18 : decode cX12_miles 18 = .ok (.invokestatic 81, 3) := by decide +kernel
theorem dX12_miles_21 : decode cX12_miles 21 = .ok (.ifCond .ne 5, 3) := by decide +kernel
theorem dX12_miles_24 : decode cX12_miles 24 = .ok (.iconst (-1), 1) := by decide +kernel
theorem dX12_miles_25 : decode cX12_miles 25 = .ok (.ireturn, 1) := by decide +kernel
theorem dX12_miles_26 : decode cX12_miles 26 = .ok (.aload_n 0, 1) := by decide +kernel
theorem dX12_miles_27 : decode cX12_miles 27 = .ok (.iload_n 1, 1) := by decide +kernel
theorem dX12_miles_28 : decode cX12_miles 28 = .ok (.iload_n 2, 1) := by decide +kernel
theorem dX12_miles_29 : decode cX12_miles 29 = .ok (.iload_n 3, 1) := by decide +kernel
theorem dX12_miles_30 : decode cX12_miles 30 = .ok (.invokevirtual 416, 3) := by decide +kernel
theorem dX12_miles_33 : decode cX12_miles 33 = .ok (.istore 4, 2) := by decide +kernel
theorem dX12_miles_35 : decode cX12_miles 35 = .ok (.iload 4, 2) := by decide +kernel
theorem dX12_miles_37 : decode cX12_miles 37 = .ok (.ldc_w 412, 3) := by decide +kernel
theorem dX12_miles_40 : decode cX12_miles 40 = .ok (.if_icmp .ne 7, 3) := by decide +kernel
theorem dX12_miles_43 : decode cX12_miles 43 = .ok (.iconst (-1), 1) := by decide +kernel
theorem dX12_miles_44 : decode cX12_miles 44 = .ok (.goto 5, 3) := by decide +kernel
theorem dX12_miles_47 : decode cX12_miles 47 = .ok (.iload 4, 2) := by decide +kernel
theorem dX12_miles_49 : decode cX12_miles 49 = .ok (.ireturn, 1) := by decide +kernel
theorem dX12_way_0 : decode cX12_way 0 = .ok (.iload 4, 2) := by decide +kernel
theorem dX12_way_2 : decode cX12_way 2 = .ok (.ifCond .lt 14, 3) := by decide +kernel
theorem dX12_way_5 : decode cX12_way 5 = .ok (.aload_n 0, 1) := by decide +kernel
theorem dX12_way_6 : decode cX12_way 6 = .ok (.iload_n 1, 1) := by decide +kernel
theorem dX12_way_7 : decode cX12_way 7 = .ok (.iload_n 2, 1) := by decide +kernel
theorem dX12_way_8 : decode cX12_way 8 = .ok (.iload_n 3, 1) := by decide +kernel
theorem dX12_way_9 : decode cX12_way 9 = .ok (.invokevirtual 419, 3) := by decide +kernel
theorem dX12_way_12 : decode cX12_way 12 = .ok (.iconst 1, 1) := by decide +kernel
theorem dX12_way_13 : decode cX12_way 13 = .ok (.if_icmp .ge 6, 3) := by decide +kernel
theorem dX12_way_16 : decode cX12_way 16 = .ok (.bipush (-2), 2) := by decide +kernel
theorem dX12_way_18 : decode cX12_way 18 = .ok (.ireturn, 1) := by decide +kernel
theorem dX12_way_19 : decode cX12_way 19 = .ok (.aload_n 0, 1) := by decide +kernel
theorem dX12_way_20 : decode cX12_way 20 = .ok (.iload_n 2, 1) := by decide +kernel
theorem dX12_way_21 : decode cX12_way 21 = .ok (.iload_n 3, 1) := by decide +kernel
theorem dX12_way_22 : decode cX12_way 22 = .ok (.iconst (-1), 1) := by decide +kernel
theorem dX12_way_23 : decode cX12_way 23 = .ok (.invokevirtual 413, 3) := by decide +kernel
theorem dX12_way_26 : decode cX12_way 26 = .ok (.iload_n 1, 1) := by decide +kernel
theorem dX12_way_27 : decode cX12_way 27 = .ok (.istore 5, 2) := by decide +kernel
theorem dX12_way_29 : decode cX12_way 29 = .ok (.iconst 0, 1) := by decide +kernel
theorem dX12_way_30 : decode cX12_way 30 = .ok (.istore 6, 2) := by decide +kernel
theorem dX12_way_32 : decode cX12_way 32 = .ok (.iload 5, 2) := by decide +kernel
theorem dX12_way_34 : decode cX12_way 34 = .ok (.iload_n 2, 1) := by decide +kernel
theorem dX12_way_35 : decode cX12_way 35 = .ok (.if_icmp .eq 95, 3) := by decide +kernel
theorem dX12_way_38 : decode cX12_way 38 = .ok (.iconst 0, 1) := by decide +kernel
theorem dX12_way_39 : decode cX12_way 39 = .ok (.istore 7, 2) := by decide +kernel
theorem dX12_way_41 : decode cX12_way 41 = .ok (.aload_n 0, 1) := by decide +kernel
theorem dX12_way_42 : decode cX12_way 42 = .ok (.getfield 7, 3) := by decide +kernel
theorem dX12_way_45 : decode cX12_way 45 = .ok (.bipush 11, 2) := by decide +kernel
theorem dX12_way_47 : decode cX12_way 47 = .ok (.iload 7, 2) := by decide +kernel
theorem dX12_way_49 : decode cX12_way 49 = .ok (.iadd, 1) := by decide +kernel
theorem dX12_way_50 : decode cX12_way 50 = .ok (.iaload, 1) := by decide +kernel
theorem dX12_way_51 : decode cX12_way 51 = .ok (.iload_n 3, 1) := by decide +kernel
theorem dX12_way_52 : decode cX12_way 52 = .ok (.if_icmp .lt 46, 3) := by decide +kernel
theorem dX12_way_55 : decode cX12_way 55 = .ok (.aload_n 0, 1) := by decide +kernel
theorem dX12_way_56 : decode cX12_way 56 = .ok (.iload 7, 2) := by decide +kernel
theorem dX12_way_58 : decode cX12_way 58 = .ok (.iload 5, 2) := by decide +kernel
theorem dX12_way_60 : decode cX12_way 60 = .ok (.invokevirtual 339, 3) := by decide +kernel
theorem dX12_way_63 : decode cX12_way 63 = .ok (.iconst (-1), 1) := by decide +kernel
theorem dX12_way_64 : decode cX12_way 64 = .ok (.if_icmp .eq 34, 3) := by decide +kernel
theorem dX12_way_67 : decode cX12_way 67 = .ok (.aload_n 0, 1) := by decide +kernel
theorem dX12_way_68 : decode cX12_way 68 = .ok (.getfield 50, 3) := by decide +kernel
theorem dX12_way_71 : decode cX12_way 71 = .ok (.aload_n 0, 1) := by decide +kernel
theorem dX12_way_72 : decode cX12_way 72 = .ok (.iload 7, 2) := by decide +kernel
theorem dX12_way_74 : decode cX12_way 74 = .ok (.iload 5, 2) := by decide +kernel
theorem dX12_way_76 : decode cX12_way 76 = .ok (.invokevirtual 339, 3) := by decide +kernel
theorem dX12_way_79 : decode cX12_way 79 = .ok (.iaload, 1) := by decide +kernel
theorem dX12_way_80 : decode cX12_way 80 = .ok (.aload_n 0, 1) := by decide +kernel
theorem dX12_way_81 : decode cX12_way 81 = .ok (.getfield 50, 3) := by decide +kernel
theorem dX12_way_84 : decode cX12_way 84 = .ok (.iload 5, 2) := by decide +kernel
theorem dX12_way_86 : decode cX12_way 86 = .ok (.iaload, 1) := by decide +kernel
theorem dX12_way_87 : decode cX12_way 87 = .ok (.aload_n 0, 1) := by decide +kernel
theorem dX12_way_88 : decode cX12_way 88 = .ok (.iload 7, 2) := by decide +kernel
theorem dX12_way_90 : decode cX12_way 90 = .ok (.iconst 2, 1) := by decide +kernel
theorem dX12_way_91 : decode cX12_way 91 = .ok (.invokevirtual 85, 3) := by decide +kernel
theorem dX12_way_94 : decode cX12_way 94 = .ok (.isub, 1) := by decide +kernel
theorem dX12_way_95 : decode cX12_way 95 = .ok (.if_icmp .eq 9, 3) := by decide +kernel
theorem dX12_way_98 : decode cX12_way 98 = .ok (.iinc 7 1, 3) := by decide +kernel
theorem dX12_way_101 : decode cX12_way 101 = .ok (.goto (-60), 3) := by decide +kernel
theorem dX12_way_104 : decode cX12_way 104 = .ok (.iload 6, 2) := by decide +kernel
theorem dX12_way_106 : decode cX12_way 106 = .ok (.iload 4, 2) := by decide +kernel
theorem dX12_way_108 : decode cX12_way 108 = .ok (.if_icmp .ne 6, 3) := by decide +kernel
theorem dX12_way_111 : decode cX12_way 111 = .ok (.iload 7, 2) := by decide +kernel
theorem dX12_way_113 : decode cX12_way 113 = .ok (.ireturn, 1) := by decide +kernel
theorem dX12_way_114 : decode cX12_way 114 = .ok (.aload_n 0, 1) := by decide +kernel
theorem dX12_way_115 : decode cX12_way 115 = .ok (.iload 7, 2) := by decide +kernel
theorem dX12_way_117 : decode cX12_way 117 = .ok (.iload 5, 2) := by decide +kernel
theorem dX12_way_119 : decode cX12_way 119 = .ok (.invokevirtual 339, 3) := by decide +kernel
theorem dX12_way_122 : decode cX12_way 122 = .ok (.istore 5, 2) := by decide +kernel
theorem dX12_way_124 : decode cX12_way 124 = .ok (.iinc 6 1, 3) := by decide +kernel
theorem dX12_way_127 : decode cX12_way 127 = .ok (.goto (-95), 3) := by decide +kernel
theorem dX12_way_130 : decode cX12_way 130 = .ok (.bipush (-2), 2) := by decide +kernel
theorem dX12_way_132 : decode cX12_way 132 = .ok (.ireturn, 1) := by decide +kernel
theorem dX12_areTowns_0 : decode cX12_areTowns 0 = .ok (.iload_n 0, 1) := by decide +kernel
theorem dX12_areTowns_1 : decode cX12_areTowns 1 = .ok (.invokestatic 89, 3) := by decide +kernel
theorem dX12_areTowns_4 : decode cX12_areTowns 4 = .ok (.ifCond .eq 19, 3) := by decide +kernel
theorem dX12_areTowns_7 : decode cX12_areTowns 7 = .ok (.iload_n 1, 1) := by decide +kernel
theorem dX12_areTowns_8 : decode cX12_areTowns 8 = .ok (.invokestatic 89, 3) := by decide +kernel
theorem dX12_areTowns_11 : decode cX12_areTowns 11 = .ok (.ifCond .eq 12, 3) := by decide +kernel
theorem dX12_areTowns_14 : decode cX12_areTowns 14 = .ok (.iload_n 0, 1) := by decide +kernel
theorem dX12_areTowns_15 : decode cX12_areTowns 15 = .ok (.iload_n 1, 1) := by decide +kernel
theorem dX12_areTowns_16 : decode cX12_areTowns 16 = .ok (.if_icmp .eq 7, 3) := by decide +kernel
theorem dX12_areTowns_19 : decode cX12_areTowns 19 = .ok (.iconst 1, 1) := by decide +kernel
theorem dX12_areTowns_20 : decode cX12_areTowns 20 = .ok (.goto 4, 3) := by decide +kernel
theorem dX12_areTowns_23 : decode cX12_areTowns 23 = .ok (.iconst 0, 1) := by decide +kernel
theorem dX12_areTowns_24 : decode cX12_areTowns 24 = .ok (.ireturn, 1) := by decide +kernel
theorem dX12_widest_0 : decode cX12_widest 0 = .ok (.iload_n 1, 1) := by decide +kernel
theorem dX12_widest_1 : decode cX12_widest 1 = .ok (.iload_n 2, 1) := by decide +kernel
theorem dX12_widest_2 : decode cX12_widest 2 = .ok (.invokestatic 422, 3) := by decide +kernel
theorem dX12_widest_5 : decode cX12_widest 5 = .ok (.ifCond .ne 5, 3) := by decide +kernel
theorem dX12_widest_8 : decode cX12_widest 8 = .ok (.iconst (-1), 1) := by decide +kernel
theorem dX12_widest_9 : decode cX12_widest 9 = .ok (.ireturn, 1) := by decide +kernel
theorem dX12_widest_10 : decode cX12_widest 10 = .ok (.bipush 99, 2) := by decide +kernel
theorem dX12_widest_12 : decode cX12_widest 12 = .ok (.istore_n 3, 1) := by decide +kernel
theorem dX12_widest_13 : decode cX12_widest 13 = .ok (.iload_n 3, 1) := by decide +kernel
theorem dX12_widest_14 : decode cX12_widest 14 = .ok (.ifCond .lt 22, 3) := by decide +kernel
theorem dX12_widest_17 : decode cX12_widest 17 = .ok (.aload_n 0, 1) := by decide +kernel
theorem dX12_widest_18 : decode cX12_widest 18 = .ok (.iload_n 1, 1) := by decide +kernel
theorem dX12_widest_19 : decode cX12_widest 19 = .ok (.iload_n 2, 1) := by decide +kernel
theorem dX12_widest_20 : decode cX12_widest 20 = .ok (.iload_n 3, 1) := by decide +kernel
theorem dX12_widest_21 : decode cX12_widest 21 = .ok (.invokevirtual 416, 3) := by decide +kernel
theorem dX12_widest_24 : decode cX12_widest 24 = .ok (.ldc_w 412, 3) := by decide +kernel
theorem dX12_widest_27 : decode cX12_widest 27 = .ok (.if_icmp .ne 9, 3) := by decide +kernel
theorem dX12_widest_30 : decode cX12_widest 30 = .ok (.iinc 3 (-1), 3) := by decide +kernel
theorem dX12_widest_33 : decode cX12_widest 33 = .ok (.goto (-20), 3) := by decide +kernel
theorem dX12_widest_36 : decode cX12_widest 36 = .ok (.iload_n 3, 1) := by decide +kernel
theorem dX12_widest_37 : decode cX12_widest 37 = .ok (.ireturn, 1) := by decide +kernel
theorem dX12_throughOf_0 : decode cX12_throughOf 0 = .ok (.iconst 0, 1) := by decide +kernel
theorem dX12_throughOf_1 : decode cX12_throughOf 1 = .ok (.istore_n 2, 1) := by decide +kernel
theorem dX12_throughOf_2 : decode cX12_throughOf 2 = .ok (.iconst 0, 1) := by decide +kernel
theorem dX12_throughOf_3 : decode cX12_throughOf 3 = .ok (.istore_n 3, 1) := by decide +kernel
theorem dX12_throughOf_4 : decode cX12_throughOf 4 = .ok (.iload_n 3, 1) := by decide +kernel
theorem dX12_throughOf_5 : decode cX12_throughOf 5 = .ok (.aload_n 0, 1) := by decide +kernel
theorem dX12_throughOf_6 : decode cX12_throughOf 6 = .ok (.getfield 7, 3) := by decide +kernel
theorem dX12_throughOf_9 : decode cX12_throughOf 9 = .ok (.iconst 0, 1) := by decide +kernel
theorem dX12_throughOf_10 : decode cX12_throughOf 10 = .ok (.iaload, 1) := by decide +kernel
theorem dX12_throughOf_11 : decode cX12_throughOf 11 = .ok (.if_icmp .ge 48, 3) := by decide +kernel
theorem dX12_throughOf_14 : decode cX12_throughOf 14 = .ok (.iload_n 2, 1) := by decide +kernel
theorem dX12_throughOf_15 : decode cX12_throughOf 15 = .ok (.iload_n 1, 1) := by decide +kernel
theorem dX12_throughOf_16 : decode cX12_throughOf 16 = .ok (.aload_n 0, 1) := by decide +kernel
theorem dX12_throughOf_17 : decode cX12_throughOf 17 = .ok (.iload_n 3, 1) := by decide +kernel
theorem dX12_throughOf_18 : decode cX12_throughOf 18 = .ok (.iconst 0, 1) := by decide +kernel
theorem dX12_throughOf_19 : decode cX12_throughOf 19 = .ok (.invokevirtual 85, 3) := by decide +kernel
theorem dX12_throughOf_22 : decode cX12_throughOf 22 = .ok (.invokestatic 258, 3) := by decide +kernel
theorem dX12_throughOf_25 : decode cX12_throughOf 25 = .ok (.iload_n 1, 1) := by decide +kernel
theorem dX12_throughOf_26 : decode cX12_throughOf 26 = .ok (.aload_n 0, 1) := by decide +kernel
theorem dX12_throughOf_27 : decode cX12_throughOf 27 = .ok (.iload_n 3, 1) := by decide +kernel
theorem dX12_throughOf_28 : decode cX12_throughOf 28 = .ok (.iconst 1, 1) := by decide +kernel
theorem dX12_throughOf_29 : decode cX12_throughOf 29 = .ok (.invokevirtual 85, 3) := by decide +kernel
theorem dX12_throughOf_32 : decode cX12_throughOf 32 = .ok (.invokestatic 258, 3) := by decide +kernel
theorem dX12_throughOf_35 : decode cX12_throughOf 35 = .ok (.if_icmp .eq 15, 3) := by decide +kernel
theorem dX12_throughOf_38 : decode cX12_throughOf 38 = .ok (.aload_n 0, 1) := by decide +kernel
theorem dX12_throughOf_39 : decode cX12_throughOf 39 = .ok (.getfield 7, 3) := by decide +kernel
theorem dX12_throughOf_42 : decode cX12_throughOf 42 = .ok (.bipush 11, 2) := by decide +kernel
theorem dX12_throughOf_44 : decode cX12_throughOf 44 = .ok (.iload_n 3, 1) := by decide +kernel
theorem dX12_throughOf_45 : decode cX12_throughOf 45 = .ok (.iadd, 1) := by decide +kernel
theorem dX12_throughOf_46 : decode cX12_throughOf 46 = .ok (.iaload, 1) := by decide +kernel
theorem dX12_throughOf_47 : decode cX12_throughOf 47 = .ok (.goto 4, 3) := by decide +kernel
theorem dX12_throughOf_50 : decode cX12_throughOf 50 = .ok (.iconst 0, 1) := by decide +kernel
theorem dX12_throughOf_51 : decode cX12_throughOf 51 = .ok (.iadd, 1) := by decide +kernel
theorem dX12_throughOf_52 : decode cX12_throughOf 52 = .ok (.istore_n 2, 1) := by decide +kernel
theorem dX12_throughOf_53 : decode cX12_throughOf 53 = .ok (.iinc 3 1, 3) := by decide +kernel
theorem dX12_throughOf_56 : decode cX12_throughOf 56 = .ok (.goto (-52), 3) := by decide +kernel
theorem dX12_throughOf_59 : decode cX12_throughOf 59 = .ok (.iload_n 2, 1) := by decide +kernel
theorem dX12_throughOf_60 : decode cX12_throughOf 60 = .ok (.ireturn, 1) := by decide +kernel
theorem dX12_cut_0 : decode cX12_cut 0 = .ok (.iload_n 1, 1) := by decide +kernel
theorem dX12_cut_1 : decode cX12_cut 1 = .ok (.iload_n 2, 1) := by decide +kernel
theorem dX12_cut_2 : decode cX12_cut 2 = .ok (.invokestatic 422, 3) := by decide +kernel
theorem dX12_cut_5 : decode cX12_cut 5 = .ok (.ifCond .ne 5, 3) := by decide +kernel
theorem dX12_cut_8 : decode cX12_cut 8 = .ok (.iconst (-1), 1) := by decide +kernel
theorem dX12_cut_9 : decode cX12_cut 9 = .ok (.ireturn, 1) := by decide +kernel
theorem dX12_cut_10 : decode cX12_cut 10 = .ok (.iconst (-1), 1) := by decide +kernel
theorem dX12_cut_11 : decode cX12_cut 11 = .ok (.istore_n 3, 1) := by decide +kernel
theorem dX12_cut_12 : decode cX12_cut 12 = .ok (.iconst 0, 1) := by decide +kernel
theorem dX12_cut_13 : decode cX12_cut 13 = .ok (.istore 4, 2) := by decide +kernel
theorem dX12_cut_15 : decode cX12_cut 15 = .ok (.iload 4, 2) := by decide +kernel
theorem dX12_cut_17 : decode cX12_cut 17 = .ok (.sipush 256, 3) := by decide +kernel
theorem dX12_cut_20 : decode cX12_cut 20 = .ok (.if_icmp .ge 49, 3) := by decide +kernel
theorem dX12_cut_23 : decode cX12_cut 23 = .ok (.iload 4, 2) := by decide +kernel
theorem dX12_cut_25 : decode cX12_cut 25 = .ok (.iload_n 1, 1) := by decide +kernel
theorem dX12_cut_26 : decode cX12_cut 26 = .ok (.invokestatic 258, 3) := by decide +kernel
theorem dX12_cut_29 : decode cX12_cut 29 = .ok (.ifCond .eq 34, 3) := by decide +kernel
theorem dX12_cut_32 : decode cX12_cut 32 = .ok (.iload 4, 2) := by decide +kernel
theorem dX12_cut_34 : decode cX12_cut 34 = .ok (.iload_n 2, 1) := by decide +kernel
theorem dX12_cut_35 : decode cX12_cut 35 = .ok (.invokestatic 258, 3) := by decide +kernel
theorem dX12_cut_38 : decode cX12_cut 38 = .ok (.ifCond .ne 25, 3) := by decide +kernel
theorem dX12_cut_41 : decode cX12_cut 41 = .ok (.iload_n 3, 1) := by decide +kernel
theorem dX12_cut_42 : decode cX12_cut 42 = .ok (.iconst (-1), 1) := by decide +kernel
theorem dX12_cut_43 : decode cX12_cut 43 = .ok (.if_icmp .eq 17, 3) := by decide +kernel
theorem dX12_cut_46 : decode cX12_cut 46 = .ok (.aload_n 0, 1) := by decide +kernel
theorem dX12_cut_47 : decode cX12_cut 47 = .ok (.iload 4, 2) := by decide +kernel
theorem dX12_cut_49 : decode cX12_cut 49 = .ok (.invokevirtual 425, 3) := by decide +kernel
theorem dX12_cut_52 : decode cX12_cut 52 = .ok (.aload_n 0, 1) := by decide +kernel
theorem dX12_cut_53 : decode cX12_cut 53 = .ok (.iload_n 3, 1) := by decide +kernel
theorem dX12_cut_54 : decode cX12_cut 54 = .ok (.invokevirtual 425, 3) := by decide +kernel
theorem dX12_cut_57 : decode cX12_cut 57 = .ok (.if_icmp .ge 6, 3) := by decide +kernel
theorem dX12_cut_60 : decode cX12_cut 60 = .ok (.iload 4, 2) := by decide +kernel
theorem dX12_cut_62 : decode cX12_cut 62 = .ok (.istore_n 3, 1) := by decide +kernel
theorem dX12_cut_63 : decode cX12_cut 63 = .ok (.iinc 4 1, 3) := by decide +kernel
theorem dX12_cut_66 : decode cX12_cut 66 = .ok (.goto (-51), 3) := by decide +kernel
theorem dX12_cut_69 : decode cX12_cut 69 = .ok (.iload_n 3, 1) := by decide +kernel
theorem dX12_cut_70 : decode cX12_cut 70 = .ok (.ireturn, 1) := by decide +kernel
theorem dX12_flow_0 : decode cX12_flow 0 = .ok (.iload_n 1, 1) := by decide +kernel
theorem dX12_flow_1 : decode cX12_flow 1 = .ok (.iload_n 2, 1) := by decide +kernel
theorem dX12_flow_2 : decode cX12_flow 2 = .ok (.invokestatic 422, 3) := by decide +kernel
theorem dX12_flow_5 : decode cX12_flow 5 = .ok (.ifCond .eq 16, 3) := by decide +kernel
theorem dX12_flow_8 : decode cX12_flow 8 = .ok (.aload_n 0, 1) := by decide +kernel
theorem dX12_flow_9 : decode cX12_flow 9 = .ok (.aload_n 0, 1) := by decide +kernel
theorem dX12_flow_10 : decode cX12_flow 10 = .ok (.iload_n 1, 1) := by decide +kernel
theorem dX12_flow_11 : decode cX12_flow 11 = .ok (.iload_n 2, 1) := by decide +kernel
theorem dX12_flow_12 : decode cX12_flow 12 = .ok (.invokevirtual 428, 3) := by decide +kernel
theorem dX12_flow_15 : decode cX12_flow 15 = .ok (.invokevirtual 425, 3) := by decide +kernel
theorem dX12_flow_18 : decode cX12_flow 18 = .ok (.goto 4, 3) := by decide +kernel
theorem dX12_flow_21 : decode cX12_flow 21 = .ok (.iconst (-1), 1) := by decide +kernel
theorem dX12_flow_22 : decode cX12_flow 22 = .ok (.ireturn, 1) := by decide +kernel
theorem dX12_isNet_0 : decode cX12_isNet 0 = .ok (.aload_n 0, 1) := by decide +kernel
theorem dX12_isNet_1 : decode cX12_isNet 1 = .ok (.getfield 7, 3) := by decide +kernel
theorem dX12_isNet_4 : decode cX12_isNet 4 = .ok (.bipush 11, 2) := by decide +kernel
theorem dX12_isNet_6 : decode cX12_isNet 6 = .ok (.iload_n 1, 1) := by decide +kernel
theorem dX12_isNet_7 : decode cX12_isNet 7 = .ok (.iadd, 1) := by decide +kernel
theorem dX12_isNet_8 : decode cX12_isNet 8 = .ok (.iaload, 1) := by decide +kernel
theorem dX12_isNet_9 : decode cX12_isNet 9 = .ok (.ifCond .le 7, 3) := by decide +kernel
theorem dX12_isNet_12 : decode cX12_isNet 12 = .ok (.iconst 1, 1) := by decide +kernel
theorem dX12_isNet_13 : decode cX12_isNet 13 = .ok (.goto 4, 3) := by decide +kernel
theorem dX12_isNet_16 : decode cX12_isNet 16 = .ok (.iconst 0, 1) := by decide +kernel
theorem dX12_isNet_17 : decode cX12_isNet 17 = .ok (.ireturn, 1) := by decide +kernel
theorem dX12_netTowns_0 : decode cX12_netTowns 0 = .ok (.iconst 0, 1) := by decide +kernel
theorem dX12_netTowns_1 : decode cX12_netTowns 1 = .ok (.istore_n 1, 1) := by decide +kernel
theorem dX12_netTowns_2 : decode cX12_netTowns 2 = .ok (.iconst 0, 1) := by decide +kernel
theorem dX12_netTowns_3 : decode cX12_netTowns 3 = .ok (.istore_n 2, 1) := by decide +kernel
theorem dX12_netTowns_4 : decode cX12_netTowns 4 = .ok (.iload_n 2, 1) := by decide +kernel
theorem dX12_netTowns_5 : decode cX12_netTowns 5 = .ok (.aload_n 0, 1) := by decide +kernel
theorem dX12_netTowns_6 : decode cX12_netTowns 6 = .ok (.getfield 7, 3) := by decide +kernel
theorem dX12_netTowns_9 : decode cX12_netTowns 9 = .ok (.iconst 0, 1) := by decide +kernel
theorem dX12_netTowns_10 : decode cX12_netTowns 10 = .ok (.iaload, 1) := by decide +kernel
theorem dX12_netTowns_11 : decode cX12_netTowns 11 = .ok (.if_icmp .ge 41, 3) := by decide +kernel
theorem dX12_netTowns_14 : decode cX12_netTowns 14 = .ok (.iload_n 1, 1) := by decide +kernel
theorem dX12_netTowns_15 : decode cX12_netTowns 15 = .ok (.aload_n 0, 1) := by decide +kernel
theorem dX12_netTowns_16 : decode cX12_netTowns 16 = .ok (.iload_n 2, 1) := by decide +kernel
theorem dX12_netTowns_17 : decode cX12_netTowns 17 = .ok (.invokevirtual 431, 3) := by decide +kernel
theorem dX12_netTowns_20 : decode cX12_netTowns 20 = .ok (.ifCond .eq 23, 3) := by decide +kernel
theorem dX12_netTowns_23 : decode cX12_netTowns 23 = .ok (.iconst 1, 1) := by decide +kernel
theorem dX12_netTowns_24 : decode cX12_netTowns 24 = .ok (.aload_n 0, 1) := by decide +kernel
theorem dX12_netTowns_25 : decode cX12_netTowns 25 = .ok (.iload_n 2, 1) := by decide +kernel
theorem dX12_netTowns_26 : decode cX12_netTowns 26 = .ok (.iconst 0, 1) := by decide +kernel
theorem dX12_netTowns_27 : decode cX12_netTowns 27 = .ok (.invokevirtual 85, 3) := by decide +kernel
theorem dX12_netTowns_30 : decode cX12_netTowns 30 = .ok (.ishl, 1) := by decide +kernel
theorem dX12_netTowns_31 : decode cX12_netTowns 31 = .ok (.iconst 1, 1) := by decide +kernel
theorem dX12_netTowns_32 : decode cX12_netTowns 32 = .ok (.aload_n 0, 1) := by decide +kernel
theorem dX12_netTowns_33 : decode cX12_netTowns 33 = .ok (.iload_n 2, 1) := by decide +kernel
theorem dX12_netTowns_34 : decode cX12_netTowns 34 = .ok (.iconst 1, 1) := by decide +kernel
theorem dX12_netTowns_35 : decode cX12_netTowns 35 = .ok (.invokevirtual 85, 3) := by decide +kernel
theorem dX12_netTowns_38 : decode cX12_netTowns 38 = .ok (.ishl, 1) := by decide +kernel
theorem dX12_netTowns_39 : decode cX12_netTowns 39 = .ok (.ior, 1) := by decide +kernel
theorem dX12_netTowns_40 : decode cX12_netTowns 40 = .ok (.goto 4, 3) := by decide +kernel
theorem dX12_netTowns_43 : decode cX12_netTowns 43 = .ok (.iconst 0, 1) := by decide +kernel
theorem dX12_netTowns_44 : decode cX12_netTowns 44 = .ok (.ior, 1) := by decide +kernel
theorem dX12_netTowns_45 : decode cX12_netTowns 45 = .ok (.istore_n 1, 1) := by decide +kernel
theorem dX12_netTowns_46 : decode cX12_netTowns 46 = .ok (.iinc 2 1, 3) := by decide +kernel
theorem dX12_netTowns_49 : decode cX12_netTowns 49 = .ok (.goto (-45), 3) := by decide +kernel
theorem dX12_netTowns_52 : decode cX12_netTowns 52 = .ok (.iload_n 1, 1) := by decide +kernel
theorem dX12_netTowns_53 : decode cX12_netTowns 53 = .ok (.ireturn, 1) := by decide +kernel
theorem dX12_comeTo_0 : decode cX12_comeTo 0 = .ok (.iconst 1, 1) := by decide +kernel
theorem dX12_comeTo_1 : decode cX12_comeTo 1 = .ok (.iload_n 1, 1) := by decide +kernel
theorem dX12_comeTo_2 : decode cX12_comeTo 2 = .ok (.ishl, 1) := by decide +kernel
theorem dX12_comeTo_3 : decode cX12_comeTo 3 = .ok (.istore_n 3, 1) := by decide +kernel
theorem dX12_comeTo_4 : decode cX12_comeTo 4 = .ok (.iconst 0, 1) := by decide +kernel
theorem dX12_comeTo_5 : decode cX12_comeTo 5 = .ok (.istore 4, 2) := by decide +kernel
theorem dX12_comeTo_7 : decode cX12_comeTo 7 = .ok (.iload 4, 2) := by decide +kernel
theorem dX12_comeTo_9 : decode cX12_comeTo 9 = .ok (.bipush 8, 2) := by decide +kernel
theorem dX12_comeTo_11 : decode cX12_comeTo 11 = .ok (.if_icmp .ge 88, 3) := by decide +kernel
theorem dX12_comeTo_14 : decode cX12_comeTo 14 = .ok (.iconst 0, 1) := by decide +kernel
theorem dX12_comeTo_15 : decode cX12_comeTo 15 = .ok (.istore 5, 2) := by decide +kernel
theorem dX12_comeTo_17 : decode cX12_comeTo 17 = .ok (.iload 5, 2) := by decide +kernel
theorem dX12_comeTo_19 : decode cX12_comeTo 19 = .ok (.aload_n 0, 1) := by decide +kernel
theorem dX12_comeTo_20 : decode cX12_comeTo 20 = .ok (.getfield 7, 3) := by decide +kernel
theorem dX12_comeTo_23 : decode cX12_comeTo 23 = .ok (.iconst 0, 1) := by decide +kernel
theorem dX12_comeTo_24 : decode cX12_comeTo 24 = .ok (.iaload, 1) := by decide +kernel
theorem dX12_comeTo_25 : decode cX12_comeTo 25 = .ok (.if_icmp .ge 68, 3) := by decide +kernel
theorem dX12_comeTo_28 : decode cX12_comeTo 28 = .ok (.iload_n 2, 1) := by decide +kernel
theorem dX12_comeTo_29 : decode cX12_comeTo 29 = .ok (.iload 5, 2) := by decide +kernel
theorem dX12_comeTo_31 : decode cX12_comeTo 31 = .ok (.invokestatic 258, 3) := by decide +kernel
theorem dX12_comeTo_34 : decode cX12_comeTo 34 = .ok (.ifCond .eq 53, 3) := by decide +kernel
theorem dX12_comeTo_37 : decode cX12_comeTo 37 = .ok (.iload_n 3, 1) := by decide +kernel
theorem dX12_comeTo_38 : decode cX12_comeTo 38 = .ok (.aload_n 0, 1) := by decide +kernel
theorem dX12_comeTo_39 : decode cX12_comeTo 39 = .ok (.iload 5, 2) := by decide +kernel
theorem dX12_comeTo_41 : decode cX12_comeTo 41 = .ok (.iconst 0, 1) := by decide +kernel
theorem dX12_comeTo_42 : decode cX12_comeTo 42 = .ok (.invokevirtual 85, 3) := by decide +kernel
theorem dX12_comeTo_45 : decode cX12_comeTo 45 = .ok (.invokestatic 258, 3) := by decide +kernel
theorem dX12_comeTo_48 : decode cX12_comeTo 48 = .ok (.ifCond .ne 17, 3) := by decide +kernel
theorem dX12_comeTo_51 : decode cX12_comeTo 51 = .ok (.iload_n 3, 1) := by decide +kernel
theorem dX12_comeTo_52 : decode cX12_comeTo 52 = .ok (.aload_n 0, 1) := by decide +kernel
theorem dX12_comeTo_53 : decode cX12_comeTo 53 = .ok (.iload 5, 2) := by decide +kernel
theorem dX12_comeTo_55 : decode cX12_comeTo 55 = .ok (.iconst 1, 1) := by decide +kernel
theorem dX12_comeTo_56 : decode cX12_comeTo 56 = .ok (.invokevirtual 85, 3) := by decide +kernel
theorem dX12_comeTo_59 : decode cX12_comeTo 59 = .ok (.invokestatic 258, 3) := by decide +kernel
theorem dX12_comeTo_62 : decode cX12_comeTo 62 = .ok (.ifCond .eq 25, 3) := by decide +kernel
theorem dX12_comeTo_65 : decode cX12_comeTo 65 = .ok (.iload_n 3, 1) := by decide +kernel
theorem dX12_comeTo_66 : decode cX12_comeTo 66 = .ok (.iconst 1, 1) := by decide +kernel
theorem dX12_comeTo_67 : decode cX12_comeTo 67 = .ok (.aload_n 0, 1) := by decide +kernel
theorem dX12_comeTo_68 : decode cX12_comeTo 68 = .ok (.iload 5, 2) := by decide +kernel
theorem dX12_comeTo_70 : decode cX12_comeTo 70 = .ok (.iconst 0, 1) := by decide +kernel
theorem dX12_comeTo_71 : decode cX12_comeTo 71 = .ok (.invokevirtual 85, 3) := by decide +kernel
theorem dX12_comeTo_74 : decode cX12_comeTo 74 = .ok (.ishl, 1) := by decide +kernel
theorem dX12_comeTo_75 : decode cX12_comeTo 75 = .ok (.iconst 1, 1) := by decide +kernel
theorem dX12_comeTo_76 : decode cX12_comeTo 76 = .ok (.aload_n 0, 1) := by decide +kernel
theorem dX12_comeTo_77 : decode cX12_comeTo 77 = .ok (.iload 5, 2) := by decide +kernel
theorem dX12_comeTo_79 : decode cX12_comeTo 79 = .ok (.iconst 1, 1) := by decide +kernel
theorem dX12_comeTo_80 : decode cX12_comeTo 80 = .ok (.invokevirtual 85, 3) := by decide +kernel
theorem dX12_comeTo_83 : decode cX12_comeTo 83 = .ok (.ishl, 1) := by decide +kernel
theorem dX12_comeTo_84 : decode cX12_comeTo 84 = .ok (.ior, 1) := by decide +kernel
theorem dX12_comeTo_85 : decode cX12_comeTo 85 = .ok (.ior, 1) := by decide +kernel
theorem dX12_comeTo_86 : decode cX12_comeTo 86 = .ok (.istore_n 3, 1) := by decide +kernel
theorem dX12_comeTo_87 : decode cX12_comeTo 87 = .ok (.iinc 5 1, 3) := by decide +kernel
theorem dX12_comeTo_90 : decode cX12_comeTo 90 = .ok (.goto (-73), 3) := by decide +kernel
theorem dX12_comeTo_93 : decode cX12_comeTo 93 = .ok (.iinc 4 1, 3) := by decide +kernel
theorem dX12_comeTo_96 : decode cX12_comeTo 96 = .ok (.goto (-89), 3) := by decide +kernel
theorem dX12_comeTo_99 : decode cX12_comeTo 99 = .ok (.iload_n 3, 1) := by decide +kernel
theorem dX12_comeTo_100 : decode cX12_comeTo 100 = .ok (.ireturn, 1) := by decide +kernel
theorem dX12_net_0 : decode cX12_net 0 = .ok (.iconst 0, 1) := by decide +kernel
theorem dX12_net_1 : decode cX12_net 1 = .ok (.istore_n 1, 1) := by decide +kernel
theorem dX12_net_2 : decode cX12_net 2 = .ok (.iconst 0, 1) := by decide +kernel
theorem dX12_net_3 : decode cX12_net 3 = .ok (.istore_n 2, 1) := by decide +kernel
theorem dX12_net_4 : decode cX12_net 4 = .ok (.iload_n 2, 1) := by decide +kernel
theorem dX12_net_5 : decode cX12_net 5 = .ok (.aload_n 0, 1) := by decide +kernel
theorem dX12_net_6 : decode cX12_net 6 = .ok (.getfield 7, 3) := by decide +kernel
theorem dX12_net_9 : decode cX12_net 9 = .ok (.iconst 0, 1) := by decide +kernel
theorem dX12_net_10 : decode cX12_net 10 = .ok (.iaload, 1) := by decide +kernel
theorem dX12_net_11 : decode cX12_net 11 = .ok (.if_icmp .ge 27, 3) := by decide +kernel
theorem dX12_net_14 : decode cX12_net 14 = .ok (.iload_n 1, 1) := by decide +kernel
theorem dX12_net_15 : decode cX12_net 15 = .ok (.aload_n 0, 1) := by decide +kernel
theorem dX12_net_16 : decode cX12_net 16 = .ok (.iload_n 2, 1) := by decide +kernel
theorem dX12_net_17 : decode cX12_net 17 = .ok (.invokevirtual 431, 3) := by decide +kernel
theorem dX12_net_20 : decode cX12_net 20 = .ok (.ifCond .eq 9, 3) := by decide +kernel
theorem dX12_net_23 : decode cX12_net 23 = .ok (.iconst 1, 1) := by decide +kernel
theorem dX12_net_24 : decode cX12_net 24 = .ok (.iload_n 2, 1) := by decide +kernel
theorem dX12_net_25 : decode cX12_net 25 = .ok (.ishl, 1) := by decide +kernel
theorem dX12_net_26 : decode cX12_net 26 = .ok (.goto 4, 3) := by decide +kernel
theorem dX12_net_29 : decode cX12_net 29 = .ok (.iconst 0, 1) := by decide +kernel
theorem dX12_net_30 : decode cX12_net 30 = .ok (.ior, 1) := by decide +kernel
theorem dX12_net_31 : decode cX12_net 31 = .ok (.istore_n 1, 1) := by decide +kernel
theorem dX12_net_32 : decode cX12_net 32 = .ok (.iinc 2 1, 3) := by decide +kernel
theorem dX12_net_35 : decode cX12_net 35 = .ok (.goto (-31), 3) := by decide +kernel
theorem dX12_net_38 : decode cX12_net 38 = .ok (.iload_n 1, 1) := by decide +kernel
theorem dX12_net_39 : decode cX12_net 39 = .ok (.ireturn, 1) := by decide +kernel
theorem dX12_tree_0 : decode cX12_tree 0 = .ok (.iconst 0, 1) := by decide +kernel
theorem dX12_tree_1 : decode cX12_tree 1 = .ok (.istore_n 2, 1) := by decide +kernel
theorem dX12_tree_2 : decode cX12_tree 2 = .ok (.iconst 0, 1) := by decide +kernel
theorem dX12_tree_3 : decode cX12_tree 3 = .ok (.istore_n 3, 1) := by decide +kernel
theorem dX12_tree_4 : decode cX12_tree 4 = .ok (.iconst 1, 1) := by decide +kernel
theorem dX12_tree_5 : decode cX12_tree 5 = .ok (.istore 4, 2) := by decide +kernel
theorem dX12_tree_7 : decode cX12_tree 7 = .ok (.iload 4, 2) := by decide +kernel
theorem dX12_tree_9 : decode cX12_tree 9 = .ok (.bipush 10, 2) := by decide +kernel
theorem dX12_tree_11 : decode cX12_tree 11 = .ok (.if_icmp .ge 90, 3) := by decide +kernel
theorem dX12_tree_14 : decode cX12_tree 14 = .ok (.iconst 0, 1) := by decide +kernel
theorem dX12_tree_15 : decode cX12_tree 15 = .ok (.istore 5, 2) := by decide +kernel
theorem dX12_tree_17 : decode cX12_tree 17 = .ok (.iload 5, 2) := by decide +kernel
theorem dX12_tree_19 : decode cX12_tree 19 = .ok (.aload_n 0, 1) := by decide +kernel
theorem dX12_tree_20 : decode cX12_tree 20 = .ok (.getfield 7, 3) := by decide +kernel
theorem dX12_tree_23 : decode cX12_tree 23 = .ok (.iconst 0, 1) := by decide +kernel
theorem dX12_tree_24 : decode cX12_tree 24 = .ok (.iaload, 1) := by decide +kernel
theorem dX12_tree_25 : decode cX12_tree 25 = .ok (.if_icmp .ge 70, 3) := by decide +kernel
theorem dX12_tree_28 : decode cX12_tree 28 = .ok (.aload_n 0, 1) := by decide +kernel
theorem dX12_tree_29 : decode cX12_tree 29 = .ok (.iload 5, 2) := by decide +kernel
theorem dX12_tree_31 : decode cX12_tree 31 = .ok (.invokevirtual 431, 3) := by decide +kernel
theorem dX12_tree_34 : decode cX12_tree 34 = .ok (.ifCond .eq 55, 3) := by decide +kernel
theorem dX12_tree_37 : decode cX12_tree 37 = .ok (.aload_n 0, 1) := by decide +kernel
theorem dX12_tree_38 : decode cX12_tree 38 = .ok (.iload 5, 2) := by decide +kernel
theorem dX12_tree_40 : decode cX12_tree 40 = .ok (.iconst 2, 1) := by decide +kernel
theorem dX12_tree_41 : decode cX12_tree 41 = .ok (.invokevirtual 85, 3) := by decide +kernel
theorem dX12_tree_44 : decode cX12_tree 44 = .ok (.iload 4, 2) := by decide +kernel
theorem dX12_tree_46 : decode cX12_tree 46 = .ok (.if_icmp .ne 43, 3) := by decide +kernel
theorem dX12_tree_49 : decode cX12_tree 49 = .ok (.aload_n 0, 1) := by decide +kernel
theorem dX12_tree_50 : decode cX12_tree 50 = .ok (.aload_n 0, 1) := by decide +kernel
theorem dX12_tree_51 : decode cX12_tree 51 = .ok (.iload 5, 2) := by decide +kernel
theorem dX12_tree_53 : decode cX12_tree 53 = .ok (.iconst 0, 1) := by decide +kernel
theorem dX12_tree_54 : decode cX12_tree 54 = .ok (.invokevirtual 85, 3) := by decide +kernel
theorem dX12_tree_57 : decode cX12_tree 57 = .ok (.iload_n 2, 1) := by decide +kernel
theorem dX12_tree_58 : decode cX12_tree 58 = .ok (.invokevirtual 434, 3) := by decide +kernel
theorem dX12_tree_61 : decode cX12_tree 61 = .ok (.aload_n 0, 1) := by decide +kernel
theorem dX12_tree_62 : decode cX12_tree 62 = .ok (.iload 5, 2) := by decide +kernel
theorem dX12_tree_64 : decode cX12_tree 64 = .ok (.iconst 1, 1) := by decide +kernel
theorem dX12_tree_65 : decode cX12_tree 65 = .ok (.invokevirtual 85, 3) := by decide +kernel
theorem dX12_tree_68 : decode cX12_tree 68 = .ok (.invokestatic 258, 3) := by decide +kernel
theorem dX12_tree_71 : decode cX12_tree 71 = .ok (.ifCond .eq 6, 3) := by decide +kernel
theorem dX12_tree_74 : decode cX12_tree 74 = .ok (.goto 15, 3) := by decide +kernel
theorem dX12_tree_77 : decode cX12_tree 77 = .ok (.iload_n 2, 1) := by decide +kernel
theorem dX12_tree_78 : decode cX12_tree 78 = .ok (.iconst 1, 1) := by decide +kernel
theorem dX12_tree_79 : decode cX12_tree 79 = .ok (.iload 5, 2) := by decide +kernel
theorem dX12_tree_81 : decode cX12_tree 81 = .ok (.ishl, 1) := by decide +kernel
theorem dX12_tree_82 : decode cX12_tree 82 = .ok (.ior, 1) := by decide +kernel
theorem dX12_tree_83 : decode cX12_tree 83 = .ok (.istore_n 2, 1) := by decide +kernel
theorem dX12_tree_84 : decode cX12_tree 84 = .ok (.iload_n 3, 1) := by decide +kernel
theorem dX12_tree_85 : decode cX12_tree 85 = .ok (.iload 4, 2) := by decide +kernel
theorem dX12_tree_87 : decode cX12_tree 87 = .ok (.iadd, 1) := by decide +kernel
theorem dX12_tree_88 : decode cX12_tree 88 = .ok (.istore_n 3, 1) := by decide +kernel
theorem dX12_tree_89 : decode cX12_tree 89 = .ok (.iinc 5 1, 3) := by decide +kernel
theorem dX12_tree_92 : decode cX12_tree 92 = .ok (.goto (-75), 3) := by decide +kernel
theorem dX12_tree_95 : decode cX12_tree 95 = .ok (.iinc 4 1, 3) := by decide +kernel
theorem dX12_tree_98 : decode cX12_tree 98 = .ok (.goto (-91), 3) := by decide +kernel
theorem dX12_tree_101 : decode cX12_tree 101 = .ok (.iload_n 1, 1) := by decide +kernel
theorem dX12_tree_102 : decode cX12_tree 102 = .ok (.ifCond .eq 7, 3) := by decide +kernel
theorem dX12_tree_105 : decode cX12_tree 105 = .ok (.iload_n 2, 1) := by decide +kernel
theorem dX12_tree_106 : decode cX12_tree 106 = .ok (.goto 4, 3) := by decide +kernel
theorem dX12_tree_109 : decode cX12_tree 109 = .ok (.iload_n 3, 1) := by decide +kernel
theorem dX12_tree_110 : decode cX12_tree 110 = .ok (.ireturn, 1) := by decide +kernel
theorem dX12_bridges_0 : decode cX12_bridges 0 = .ok (.iconst 0, 1) := by decide +kernel
theorem dX12_bridges_1 : decode cX12_bridges 1 = .ok (.istore_n 1, 1) := by decide +kernel
theorem dX12_bridges_2 : decode cX12_bridges 2 = .ok (.iconst 0, 1) := by decide +kernel
theorem dX12_bridges_3 : decode cX12_bridges 3 = .ok (.istore_n 2, 1) := by decide +kernel
theorem dX12_bridges_4 : decode cX12_bridges 4 = .ok (.iload_n 2, 1) := by decide +kernel
theorem dX12_bridges_5 : decode cX12_bridges 5 = .ok (.aload_n 0, 1) := by decide +kernel
theorem dX12_bridges_6 : decode cX12_bridges 6 = .ok (.getfield 7, 3) := by decide +kernel
theorem dX12_bridges_9 : decode cX12_bridges 9 = .ok (.iconst 0, 1) := by decide +kernel
theorem dX12_bridges_10 : decode cX12_bridges 10 = .ok (.iaload, 1) := by decide +kernel
theorem dX12_bridges_11 : decode cX12_bridges 11 = .ok (.if_icmp .ge 59, 3) := by decide +kernel
theorem dX12_bridges_14 : decode cX12_bridges 14 = .ok (.iload_n 1, 1) := by decide +kernel
theorem dX12_bridges_15 : decode cX12_bridges 15 = .ok (.aload_n 0, 1) := by decide +kernel
theorem dX12_bridges_16 : decode cX12_bridges 16 = .ok (.iload_n 2, 1) := by decide +kernel
theorem dX12_bridges_17 : decode cX12_bridges 17 = .ok (.invokevirtual 431, 3) := by decide +kernel
theorem dX12_bridges_20 : decode cX12_bridges 20 = .ok (.ifCond .eq 41, 3) := by decide +kernel
theorem dX12_bridges_23 : decode cX12_bridges 23 = .ok (.aload_n 0, 1) := by decide +kernel
theorem dX12_bridges_24 : decode cX12_bridges 24 = .ok (.aload_n 0, 1) := by decide +kernel
theorem dX12_bridges_25 : decode cX12_bridges 25 = .ok (.iload_n 2, 1) := by decide +kernel
theorem dX12_bridges_26 : decode cX12_bridges 26 = .ok (.iconst 0, 1) := by decide +kernel
theorem dX12_bridges_27 : decode cX12_bridges 27 = .ok (.invokevirtual 85, 3) := by decide +kernel
theorem dX12_bridges_30 : decode cX12_bridges 30 = .ok (.aload_n 0, 1) := by decide +kernel
theorem dX12_bridges_31 : decode cX12_bridges 31 = .ok (.invokevirtual 437, 3) := by decide +kernel
theorem dX12_bridges_34 : decode cX12_bridges 34 = .ok (.iconst 1, 1) := by decide +kernel
theorem dX12_bridges_35 : decode cX12_bridges 35 = .ok (.iload_n 2, 1) := by decide +kernel
theorem dX12_bridges_36 : decode cX12_bridges 36 = .ok (.ishl, 1) := by decide +kernel
theorem dX12_bridges_37 : decode cX12_bridges 37 = .ok (.iconst (-1), 1) := by decide +kernel
theorem dX12_bridges_38 : decode cX12_bridges 38 = .ok (.ixor, 1) := by decide +kernel
theorem dX12_bridges_39 : decode cX12_bridges 39 = .ok (.iand, 1) := by decide +kernel
theorem dX12_bridges_40 : decode cX12_bridges 40 = .ok (.invokevirtual 434, 3) := by decide +kernel
theorem dX12_bridges_43 : decode cX12_bridges 43 = .ok (.aload_n 0, 1) := by decide +kernel
theorem dX12_bridges_44 : decode cX12_bridges 44 = .ok (.iload_n 2, 1) := by decide +kernel
theorem dX12_bridges_45 : decode cX12_bridges 45 = .ok (.iconst 1, 1) := by decide +kernel
theorem dX12_bridges_46 : decode cX12_bridges 46 = .ok (.invokevirtual 85, 3) := by decide +kernel
theorem dX12_bridges_49 : decode cX12_bridges 49 = .ok (.invokestatic 258, 3) := by decide +kernel
theorem dX12_bridges_52 : decode cX12_bridges 52 = .ok (.ifCond .ne 9, 3) := by decide +kernel
theorem dX12_bridges_55 : decode cX12_bridges 55 = .ok (.iconst 1, 1) := by decide +kernel
theorem dX12_bridges_56 : decode cX12_bridges 56 = .ok (.iload_n 2, 1) := by decide +kernel
theorem dX12_bridges_57 : decode cX12_bridges 57 = .ok (.ishl, 1) := by decide +kernel
theorem dX12_bridges_58 : decode cX12_bridges 58 = .ok (.goto 4, 3) := by decide +kernel
theorem dX12_bridges_61 : decode cX12_bridges 61 = .ok (.iconst 0, 1) := by decide +kernel
theorem dX12_bridges_62 : decode cX12_bridges 62 = .ok (.ior, 1) := by decide +kernel
theorem dX12_bridges_63 : decode cX12_bridges 63 = .ok (.istore_n 1, 1) := by decide +kernel
theorem dX12_bridges_64 : decode cX12_bridges 64 = .ok (.iinc 2 1, 3) := by decide +kernel
theorem dX12_bridges_67 : decode cX12_bridges 67 = .ok (.goto (-63), 3) := by decide +kernel
theorem dX12_bridges_70 : decode cX12_bridges 70 = .ok (.iload_n 1, 1) := by decide +kernel
theorem dX12_bridges_71 : decode cX12_bridges 71 = .ok (.ireturn, 1) := by decide +kernel
theorem dX12_pieces_0 : decode cX12_pieces 0 = .ok (.iconst 0, 1) := by decide +kernel
theorem dX12_pieces_1 : decode cX12_pieces 1 = .ok (.istore_n 1, 1) := by decide +kernel
theorem dX12_pieces_2 : decode cX12_pieces 2 = .ok (.aload_n 0, 1) := by decide +kernel
theorem dX12_pieces_3 : decode cX12_pieces 3 = .ok (.invokevirtual 440, 3) := by decide +kernel
theorem dX12_pieces_6 : decode cX12_pieces 6 = .ok (.istore_n 2, 1) := by decide +kernel
theorem dX12_pieces_7 : decode cX12_pieces 7 = .ok (.iconst 0, 1) := by decide +kernel
theorem dX12_pieces_8 : decode cX12_pieces 8 = .ok (.istore_n 3, 1) := by decide +kernel
theorem dX12_pieces_9 : decode cX12_pieces 9 = .ok (.iload_n 3, 1) := by decide +kernel
theorem dX12_pieces_10 : decode cX12_pieces 10 = .ok (.bipush 8, 2) := by decide +kernel
theorem dX12_pieces_12 : decode cX12_pieces 12 = .ok (.if_icmp .ge 37, 3) := by decide +kernel
theorem dX12_pieces_15 : decode cX12_pieces 15 = .ok (.iload_n 2, 1) := by decide +kernel
theorem dX12_pieces_16 : decode cX12_pieces 16 = .ok (.iload_n 3, 1) := by decide +kernel
theorem dX12_pieces_17 : decode cX12_pieces 17 = .ok (.invokestatic 258, 3) := by decide +kernel
theorem dX12_pieces_20 : decode cX12_pieces 20 = .ok (.ifCond .ne 6, 3) := by decide +kernel
theorem dX12_pieces_23 : decode cX12_pieces 23 = .ok (.goto 20, 3) := by decide +kernel
theorem dX12_pieces_26 : decode cX12_pieces 26 = .ok (.iload_n 2, 1) := by decide +kernel
theorem dX12_pieces_27 : decode cX12_pieces 27 = .ok (.aload_n 0, 1) := by decide +kernel
theorem dX12_pieces_28 : decode cX12_pieces 28 = .ok (.iload_n 3, 1) := by decide +kernel
theorem dX12_pieces_29 : decode cX12_pieces 29 = .ok (.aload_n 0, 1) := by decide +kernel
theorem dX12_pieces_30 : decode cX12_pieces 30 = .ok (.invokevirtual 437, 3) := by decide +kernel
theorem dX12_pieces_33 : decode cX12_pieces 33 = .ok (.invokevirtual 434, 3) := by decide +kernel
theorem dX12_pieces_36 : decode cX12_pieces 36 = .ok (.iconst (-1), 1) := by decide +kernel
theorem dX12_pieces_37 : decode cX12_pieces 37 = .ok (.ixor, 1) := by decide +kernel
theorem dX12_pieces_38 : decode cX12_pieces 38 = .ok (.iand, 1) := by decide +kernel
theorem dX12_pieces_39 : decode cX12_pieces 39 = .ok (.istore_n 2, 1) := by decide +kernel
theorem dX12_pieces_40 : decode cX12_pieces 40 = .ok (.iinc 1 1, 3) := by decide +kernel
theorem dX12_pieces_43 : decode cX12_pieces 43 = .ok (.iinc 3 1, 3) := by decide +kernel
theorem dX12_pieces_46 : decode cX12_pieces 46 = .ok (.goto (-37), 3) := by decide +kernel
theorem dX12_pieces_49 : decode cX12_pieces 49 = .ok (.iload_n 1, 1) := by decide +kernel
theorem dX12_pieces_50 : decode cX12_pieces 50 = .ok (.ireturn, 1) := by decide +kernel
theorem dX12_layBetween_0 : decode cX12_layBetween 0 = .ok (.iconst 0, 1) := by decide +kernel
theorem dX12_layBetween_1 : decode cX12_layBetween 1 = .ok (.istore_n 1, 1) := by decide +kernel
theorem dX12_layBetween_2 : decode cX12_layBetween 2 = .ok (.iload_n 1, 1) := by decide +kernel
theorem dX12_layBetween_3 : decode cX12_layBetween 3 = .ok (.bipush 8, 2) := by decide +kernel
theorem dX12_layBetween_5 : decode cX12_layBetween 5 = .ok (.if_icmp .ge 47, 3) := by decide +kernel
theorem dX12_layBetween_8 : decode cX12_layBetween 8 = .ok (.aload_n 0, 1) := by decide +kernel
theorem dX12_layBetween_9 : decode cX12_layBetween 9 = .ok (.iload_n 1, 1) := by decide +kernel
theorem dX12_layBetween_10 : decode cX12_layBetween 10 = .ok (.iconst 1, 1) := by decide +kernel
theorem dX12_layBetween_11 : decode cX12_layBetween 11 = .ok (.iconst (-1), 1) := by decide +kernel
theorem dX12_layBetween_12 : decode cX12_layBetween 12 = .ok (.invokevirtual 413, 3) := by decide +kernel
theorem dX12_layBetween_15 : decode cX12_layBetween 15 = .ok (.iconst 0, 1) := by decide +kernel
theorem dX12_layBetween_16 : decode cX12_layBetween 16 = .ok (.istore_n 2, 1) := by decide +kernel
theorem dX12_layBetween_17 : decode cX12_layBetween 17 = .ok (.iload_n 2, 1) := by decide +kernel
theorem dX12_layBetween_18 : decode cX12_layBetween 18 = .ok (.bipush 8, 2) := by decide +kernel
theorem dX12_layBetween_20 : decode cX12_layBetween 20 = .ok (.if_icmp .ge 26, 3) := by decide +kernel
theorem dX12_layBetween_23 : decode cX12_layBetween 23 = .ok (.aload_n 0, 1) := by decide +kernel
theorem dX12_layBetween_24 : decode cX12_layBetween 24 = .ok (.getfield 56, 3) := by decide +kernel
theorem dX12_layBetween_27 : decode cX12_layBetween 27 = .ok (.bipush 8, 2) := by decide +kernel
theorem dX12_layBetween_29 : decode cX12_layBetween 29 = .ok (.iload_n 1, 1) := by decide +kernel
theorem dX12_layBetween_30 : decode cX12_layBetween 30 = .ok (.imul, 1) := by decide +kernel
theorem dX12_layBetween_31 : decode cX12_layBetween 31 = .ok (.iload_n 2, 1) := by decide +kernel
theorem dX12_layBetween_32 : decode cX12_layBetween 32 = .ok (.iadd, 1) := by decide +kernel
theorem dX12_layBetween_33 : decode cX12_layBetween 33 = .ok (.aload_n 0, 1) := by decide +kernel
theorem dX12_layBetween_34 : decode cX12_layBetween 34 = .ok (.getfield 50, 3) := by decide +kernel
theorem dX12_layBetween_37 : decode cX12_layBetween 37 = .ok (.iload_n 2, 1) := by decide +kernel
theorem dX12_layBetween_38 : decode cX12_layBetween 38 = .ok (.iaload, 1) := by decide +kernel
theorem dX12_layBetween_39 : decode cX12_layBetween 39 = .ok (.iastore, 1) := by decide +kernel
theorem dX12_layBetween_40 : decode cX12_layBetween 40 = .ok (.iinc 2 1, 3) := by decide +kernel
theorem dX12_layBetween_43 : decode cX12_layBetween 43 = .ok (.goto (-26), 3) := by decide +kernel
theorem dX12_layBetween_46 : decode cX12_layBetween 46 = .ok (.iinc 1 1, 3) := by decide +kernel
theorem dX12_layBetween_49 : decode cX12_layBetween 49 = .ok (.goto (-47), 3) := by decide +kernel
theorem dX12_layBetween_52 : decode cX12_layBetween 52 = .ok (.return_, 1) := by decide +kernel
theorem dX12_pairedOf_0 : decode cX12_pairedOf 0 = .ok (.iconst 0, 1) := by decide +kernel
theorem dX12_pairedOf_1 : decode cX12_pairedOf 1 = .ok (.istore_n 2, 1) := by decide +kernel
theorem dX12_pairedOf_2 : decode cX12_pairedOf 2 = .ok (.iload_n 1, 1) := by decide +kernel
theorem dX12_pairedOf_3 : decode cX12_pairedOf 3 = .ok (.iload_n 2, 1) := by decide +kernel
theorem dX12_pairedOf_4 : decode cX12_pairedOf 4 = .ok (.invokestatic 258, 3) := by decide +kernel
theorem dX12_pairedOf_7 : decode cX12_pairedOf 7 = .ok (.ifCond .ne 9, 3) := by decide +kernel
theorem dX12_pairedOf_10 : decode cX12_pairedOf 10 = .ok (.iinc 2 1, 3) := by decide +kernel
theorem dX12_pairedOf_13 : decode cX12_pairedOf 13 = .ok (.goto (-11), 3) := by decide +kernel
theorem dX12_pairedOf_16 : decode cX12_pairedOf 16 = .ok (.ldc_w 412, 3) := by decide +kernel
theorem dX12_pairedOf_19 : decode cX12_pairedOf 19 = .ok (.istore_n 3, 1) := by decide +kernel
theorem dX12_pairedOf_20 : decode cX12_pairedOf 20 = .ok (.iload_n 2, 1) := by decide +kernel
theorem dX12_pairedOf_21 : decode cX12_pairedOf 21 = .ok (.iconst 1, 1) := by decide +kernel
theorem dX12_pairedOf_22 : decode cX12_pairedOf 22 = .ok (.iadd, 1) := by decide +kernel
theorem dX12_pairedOf_23 : decode cX12_pairedOf 23 = .ok (.istore 4, 2) := by decide +kernel
theorem dX12_pairedOf_25 : decode cX12_pairedOf 25 = .ok (.iload 4, 2) := by decide +kernel
theorem dX12_pairedOf_27 : decode cX12_pairedOf 27 = .ok (.bipush 8, 2) := by decide +kernel
theorem dX12_pairedOf_29 : decode cX12_pairedOf 29 = .ok (.if_icmp .ge 68, 3) := by decide +kernel
theorem dX12_pairedOf_32 : decode cX12_pairedOf 32 = .ok (.iload_n 1, 1) := by decide +kernel
theorem dX12_pairedOf_33 : decode cX12_pairedOf 33 = .ok (.iload 4, 2) := by decide +kernel
theorem dX12_pairedOf_35 : decode cX12_pairedOf 35 = .ok (.invokestatic 258, 3) := by decide +kernel
theorem dX12_pairedOf_38 : decode cX12_pairedOf 38 = .ok (.ifCond .ne 6, 3) := by decide +kernel
theorem dX12_pairedOf_41 : decode cX12_pairedOf 41 = .ok (.goto 50, 3) := by decide +kernel
theorem dX12_pairedOf_44 : decode cX12_pairedOf 44 = .ok (.aload_n 0, 1) := by decide +kernel
theorem dX12_pairedOf_45 : decode cX12_pairedOf 45 = .ok (.getfield 56, 3) := by decide +kernel
theorem dX12_pairedOf_48 : decode cX12_pairedOf 48 = .ok (.bipush 8, 2) := by decide +kernel
theorem dX12_pairedOf_50 : decode cX12_pairedOf 50 = .ok (.iload_n 2, 1) := by decide +kernel
theorem dX12_pairedOf_51 : decode cX12_pairedOf 51 = .ok (.imul, 1) := by decide +kernel
theorem dX12_pairedOf_52 : decode cX12_pairedOf 52 = .ok (.iload 4, 2) := by decide +kernel
theorem dX12_pairedOf_54 : decode cX12_pairedOf 54 = .ok (.iadd, 1) := by decide +kernel
theorem dX12_pairedOf_55 : decode cX12_pairedOf 55 = .ok (.iaload, 1) := by decide +kernel
theorem dX12_pairedOf_56 : decode cX12_pairedOf 56 = .ok (.aload_n 0, 1) := by decide +kernel
theorem dX12_pairedOf_57 : decode cX12_pairedOf 57 = .ok (.getfield 53, 3) := by decide +kernel
theorem dX12_pairedOf_60 : decode cX12_pairedOf 60 = .ok (.iload_n 1, 1) := by decide +kernel
theorem dX12_pairedOf_61 : decode cX12_pairedOf 61 = .ok (.iconst 1, 1) := by decide +kernel
theorem dX12_pairedOf_62 : decode cX12_pairedOf 62 = .ok (.iload_n 2, 1) := by decide +kernel
theorem dX12_pairedOf_63 : decode cX12_pairedOf 63 = .ok (.ishl, 1) := by decide +kernel
theorem dX12_pairedOf_64 : decode cX12_pairedOf 64 = .ok (.iconst (-1), 1) := by decide +kernel
theorem dX12_pairedOf_65 : decode cX12_pairedOf 65 = .ok (.ixor, 1) := by decide +kernel
theorem dX12_pairedOf_66 : decode cX12_pairedOf 66 = .ok (.iand, 1) := by decide +kernel
theorem dX12_pairedOf_67 : decode cX12_pairedOf 67 = .ok (.iconst 1, 1) := by decide +kernel
theorem dX12_pairedOf_68 : decode cX12_pairedOf 68 = .ok (.iload 4, 2) := by decide +kernel
theorem dX12_pairedOf_70 : decode cX12_pairedOf 70 = .ok (.ishl, 1) := by decide +kernel
theorem dX12_pairedOf_71 : decode cX12_pairedOf 71 = .ok (.iconst (-1), 1) := by decide +kernel
theorem dX12_pairedOf_72 : decode cX12_pairedOf 72 = .ok (.ixor, 1) := by decide +kernel
theorem dX12_pairedOf_73 : decode cX12_pairedOf 73 = .ok (.iand, 1) := by decide +kernel
theorem dX12_pairedOf_74 : decode cX12_pairedOf 74 = .ok (.iaload, 1) := by decide +kernel
theorem dX12_pairedOf_75 : decode cX12_pairedOf 75 = .ok (.iadd, 1) := by decide +kernel
theorem dX12_pairedOf_76 : decode cX12_pairedOf 76 = .ok (.istore 5, 2) := by decide +kernel
theorem dX12_pairedOf_78 : decode cX12_pairedOf 78 = .ok (.iload 5, 2) := by decide +kernel
theorem dX12_pairedOf_80 : decode cX12_pairedOf 80 = .ok (.iload_n 3, 1) := by decide +kernel
theorem dX12_pairedOf_81 : decode cX12_pairedOf 81 = .ok (.if_icmp .ge 8, 3) := by decide +kernel
theorem dX12_pairedOf_84 : decode cX12_pairedOf 84 = .ok (.iload 5, 2) := by decide +kernel
theorem dX12_pairedOf_86 : decode cX12_pairedOf 86 = .ok (.goto 4, 3) := by decide +kernel
theorem dX12_pairedOf_89 : decode cX12_pairedOf 89 = .ok (.iload_n 3, 1) := by decide +kernel
theorem dX12_pairedOf_90 : decode cX12_pairedOf 90 = .ok (.istore_n 3, 1) := by decide +kernel
theorem dX12_pairedOf_91 : decode cX12_pairedOf 91 = .ok (.iinc 4 1, 3) := by decide +kernel
theorem dX12_pairedOf_94 : decode cX12_pairedOf 94 = .ok (.goto (-69), 3) := by decide +kernel
theorem dX12_pairedOf_97 : decode cX12_pairedOf 97 = .ok (.iload_n 3, 1) := by decide +kernel
theorem dX12_pairedOf_98 : decode cX12_pairedOf 98 = .ok (.ireturn, 1) := by decide +kernel
theorem dX12_carter_0 : decode cX12_carter 0 = .ok (.iload_n 1, 1) := by decide +kernel
theorem dX12_carter_1 : decode cX12_carter 1 = .ok (.invokestatic 89, 3) := by decide +kernel
theorem dX12_carter_4 : decode cX12_carter 4 = .ok (.ifCond .eq 33, 3) := by decide +kernel
theorem dX12_carter_7 : decode cX12_carter 7 = .ok (.aload_n 0, 1) := by decide +kernel
theorem dX12_carter_8 : decode cX12_carter 8 = .ok (.invokevirtual 440, 3) := by decide +kernel
theorem dX12_carter_11 : decode cX12_carter 11 = .ok (.iload_n 1, 1) := by decide +kernel
theorem dX12_carter_12 : decode cX12_carter 12 = .ok (.invokestatic 258, 3) := by decide +kernel
theorem dX12_carter_15 : decode cX12_carter 15 = .ok (.ifCond .eq 22, 3) := by decide +kernel
theorem dX12_carter_18 : decode cX12_carter 18 = .ok (.aload_n 0, 1) := by decide +kernel
theorem dX12_carter_19 : decode cX12_carter 19 = .ok (.invokevirtual 440, 3) := by decide +kernel
theorem dX12_carter_22 : decode cX12_carter 22 = .ok (.aload_n 0, 1) := by decide +kernel
theorem dX12_carter_23 : decode cX12_carter 23 = .ok (.iload_n 1, 1) := by decide +kernel
theorem dX12_carter_24 : decode cX12_carter 24 = .ok (.aload_n 0, 1) := by decide +kernel
theorem dX12_carter_25 : decode cX12_carter 25 = .ok (.invokevirtual 437, 3) := by decide +kernel
theorem dX12_carter_28 : decode cX12_carter 28 = .ok (.invokevirtual 434, 3) := by decide +kernel
theorem dX12_carter_31 : decode cX12_carter 31 = .ok (.iconst (-1), 1) := by decide +kernel
theorem dX12_carter_32 : decode cX12_carter 32 = .ok (.ixor, 1) := by decide +kernel
theorem dX12_carter_33 : decode cX12_carter 33 = .ok (.iand, 1) := by decide +kernel
theorem dX12_carter_34 : decode cX12_carter 34 = .ok (.ifCond .eq 5, 3) := by decide +kernel
theorem dX12_carter_37 : decode cX12_carter 37 = .ok (.iconst (-1), 1) := by decide +kernel
theorem dX12_carter_38 : decode cX12_carter 38 = .ok (.ireturn, 1) := by decide +kernel
theorem dX12_carter_39 : decode cX12_carter 39 = .ok (.iconst 0, 1) := by decide +kernel
theorem dX12_carter_40 : decode cX12_carter 40 = .ok (.istore_n 2, 1) := by decide +kernel
theorem dX12_carter_41 : decode cX12_carter 41 = .ok (.iconst 0, 1) := by decide +kernel
theorem dX12_carter_42 : decode cX12_carter 42 = .ok (.istore_n 3, 1) := by decide +kernel
theorem dX12_carter_43 : decode cX12_carter 43 = .ok (.iconst 0, 1) := by decide +kernel
theorem dX12_carter_44 : decode cX12_carter 44 = .ok (.istore 4, 2) := by decide +kernel
theorem dX12_carter_46 : decode cX12_carter 46 = .ok (.iload 4, 2) := by decide +kernel
theorem dX12_carter_48 : decode cX12_carter 48 = .ok (.aload_n 0, 1) := by decide +kernel
theorem dX12_carter_49 : decode cX12_carter 49 = .ok (.getfield 7, 3) := by decide +kernel
theorem dX12_carter_52 : decode cX12_carter 52 = .ok (.iconst 0, 1) := by decide +kernel
theorem dX12_carter_53 : decode cX12_carter 53 = .ok (.iaload, 1) := by decide +kernel
theorem dX12_carter_54 : decode cX12_carter 54 = .ok (.if_icmp .ge 53, 3) := by decide +kernel
theorem dX12_carter_57 : decode cX12_carter 57 = .ok (.aload_n 0, 1) := by decide +kernel
theorem dX12_carter_58 : decode cX12_carter 58 = .ok (.iload 4, 2) := by decide +kernel
theorem dX12_carter_60 : decode cX12_carter 60 = .ok (.invokevirtual 431, 3) := by decide +kernel
theorem dX12_carter_63 : decode cX12_carter 63 = .ok (.ifCond .ne 6, 3) := by decide +kernel
theorem dX12_carter_66 : decode cX12_carter 66 = .ok (.goto 35, 3) := by decide +kernel
theorem dX12_carter_69 : decode cX12_carter 69 = .ok (.iload_n 2, 1) := by decide +kernel
theorem dX12_carter_70 : decode cX12_carter 70 = .ok (.iconst 1, 1) := by decide +kernel
theorem dX12_carter_71 : decode cX12_carter 71 = .ok (.aload_n 0, 1) := by decide +kernel
theorem dX12_carter_72 : decode cX12_carter 72 = .ok (.iload 4, 2) := by decide +kernel
theorem dX12_carter_74 : decode cX12_carter 74 = .ok (.iconst 0, 1) := by decide +kernel
theorem dX12_carter_75 : decode cX12_carter 75 = .ok (.invokevirtual 85, 3) := by decide +kernel
theorem dX12_carter_78 : decode cX12_carter 78 = .ok (.ishl, 1) := by decide +kernel
theorem dX12_carter_79 : decode cX12_carter 79 = .ok (.iconst 1, 1) := by decide +kernel
theorem dX12_carter_80 : decode cX12_carter 80 = .ok (.aload_n 0, 1) := by decide +kernel
theorem dX12_carter_81 : decode cX12_carter 81 = .ok (.iload 4, 2) := by decide +kernel
theorem dX12_carter_83 : decode cX12_carter 83 = .ok (.iconst 1, 1) := by decide +kernel
theorem dX12_carter_84 : decode cX12_carter 84 = .ok (.invokevirtual 85, 3) := by decide +kernel
theorem dX12_carter_87 : decode cX12_carter 87 = .ok (.ishl, 1) := by decide +kernel
theorem dX12_carter_88 : decode cX12_carter 88 = .ok (.ixor, 1) := by decide +kernel
theorem dX12_carter_89 : decode cX12_carter 89 = .ok (.ixor, 1) := by decide +kernel
theorem dX12_carter_90 : decode cX12_carter 90 = .ok (.istore_n 2, 1) := by decide +kernel
theorem dX12_carter_91 : decode cX12_carter 91 = .ok (.iload_n 3, 1) := by decide +kernel
theorem dX12_carter_92 : decode cX12_carter 92 = .ok (.aload_n 0, 1) := by decide +kernel
theorem dX12_carter_93 : decode cX12_carter 93 = .ok (.iload 4, 2) := by decide +kernel
theorem dX12_carter_95 : decode cX12_carter 95 = .ok (.iconst 2, 1) := by decide +kernel
theorem dX12_carter_96 : decode cX12_carter 96 = .ok (.invokevirtual 85, 3) := by decide +kernel
theorem dX12_carter_99 : decode cX12_carter 99 = .ok (.iadd, 1) := by decide +kernel
theorem dX12_carter_100 : decode cX12_carter 100 = .ok (.istore_n 3, 1) := by decide +kernel
theorem dX12_carter_101 : decode cX12_carter 101 = .ok (.iinc 4 1, 3) := by decide +kernel
theorem dX12_carter_104 : decode cX12_carter 104 = .ok (.goto (-58), 3) := by decide +kernel
theorem dX12_carter_107 : decode cX12_carter 107 = .ok (.aload_n 0, 1) := by decide +kernel
theorem dX12_carter_108 : decode cX12_carter 108 = .ok (.invokevirtual 443, 3) := by decide +kernel
theorem dX12_carter_111 : decode cX12_carter 111 = .ok (.aload_n 0, 1) := by decide +kernel
theorem dX12_carter_112 : decode cX12_carter 112 = .ok (.getfield 53, 3) := by decide +kernel
theorem dX12_carter_115 : decode cX12_carter 115 = .ok (.iconst 0, 1) := by decide +kernel
theorem dX12_carter_116 : decode cX12_carter 116 = .ok (.iconst 0, 1) := by decide +kernel
theorem dX12_carter_117 : decode cX12_carter 117 = .ok (.iastore, 1) := by decide +kernel
theorem dX12_carter_118 : decode cX12_carter 118 = .ok (.iconst 1, 1) := by decide +kernel
theorem dX12_carter_119 : decode cX12_carter 119 = .ok (.istore 4, 2) := by decide +kernel
theorem dX12_carter_121 : decode cX12_carter 121 = .ok (.iload 4, 2) := by decide +kernel
theorem dX12_carter_123 : decode cX12_carter 123 = .ok (.iload_n 2, 1) := by decide +kernel
theorem dX12_carter_124 : decode cX12_carter 124 = .ok (.if_icmp .gt 31, 3) := by decide +kernel
theorem dX12_carter_127 : decode cX12_carter 127 = .ok (.iload 4, 2) := by decide +kernel
theorem dX12_carter_129 : decode cX12_carter 129 = .ok (.iload_n 2, 1) := by decide +kernel
theorem dX12_carter_130 : decode cX12_carter 130 = .ok (.iconst (-1), 1) := by decide +kernel
theorem dX12_carter_131 : decode cX12_carter 131 = .ok (.ixor, 1) := by decide +kernel
theorem dX12_carter_132 : decode cX12_carter 132 = .ok (.iand, 1) := by decide +kernel
theorem dX12_carter_133 : decode cX12_carter 133 = .ok (.ifCond .ne 16, 3) := by decide +kernel
theorem dX12_carter_136 : decode cX12_carter 136 = .ok (.aload_n 0, 1) := by decide +kernel
theorem dX12_carter_137 : decode cX12_carter 137 = .ok (.getfield 53, 3) := by decide +kernel
theorem dX12_carter_140 : decode cX12_carter 140 = .ok (.iload 4, 2) := by decide +kernel
theorem dX12_carter_142 : decode cX12_carter 142 = .ok (.aload_n 0, 1) := by decide +kernel
theorem dX12_carter_143 : decode cX12_carter 143 = .ok (.iload 4, 2) := by decide +kernel
theorem dX12_carter_145 : decode cX12_carter 145 = .ok (.invokevirtual 446, 3) := by decide +kernel
theorem dX12_carter_148 : decode cX12_carter 148 = .ok (.iastore, 1) := by decide +kernel
theorem dX12_carter_149 : decode cX12_carter 149 = .ok (.iinc 4 1, 3) := by decide +kernel
theorem dX12_carter_152 : decode cX12_carter 152 = .ok (.goto (-31), 3) := by decide +kernel
theorem dX12_carter_155 : decode cX12_carter 155 = .ok (.iload_n 3, 1) := by decide +kernel
theorem dX12_carter_156 : decode cX12_carter 156 = .ok (.aload_n 0, 1) := by decide +kernel
theorem dX12_carter_157 : decode cX12_carter 157 = .ok (.getfield 53, 3) := by decide +kernel
theorem dX12_carter_160 : decode cX12_carter 160 = .ok (.iload_n 2, 1) := by decide +kernel
theorem dX12_carter_161 : decode cX12_carter 161 = .ok (.iaload, 1) := by decide +kernel
theorem dX12_carter_162 : decode cX12_carter 162 = .ok (.iadd, 1) := by decide +kernel
theorem dX12_carter_163 : decode cX12_carter 163 = .ok (.ireturn, 1) := by decide +kernel
theorem dX12_centre_0 : decode cX12_centre 0 = .ok (.aload_n 0, 1) := by decide +kernel
theorem dX12_centre_1 : decode cX12_centre 1 = .ok (.invokevirtual 443, 3) := by decide +kernel
theorem dX12_centre_4 : decode cX12_centre 4 = .ok (.iconst (-1), 1) := by decide +kernel
theorem dX12_centre_5 : decode cX12_centre 5 = .ok (.istore_n 1, 1) := by decide +kernel
theorem dX12_centre_6 : decode cX12_centre 6 = .ok (.ldc_w 412, 3) := by decide +kernel
theorem dX12_centre_9 : decode cX12_centre 9 = .ok (.istore_n 2, 1) := by decide +kernel
theorem dX12_centre_10 : decode cX12_centre 10 = .ok (.iconst 0, 1) := by decide +kernel
theorem dX12_centre_11 : decode cX12_centre 11 = .ok (.istore_n 3, 1) := by decide +kernel
theorem dX12_centre_12 : decode cX12_centre 12 = .ok (.iload_n 3, 1) := by decide +kernel
theorem dX12_centre_13 : decode cX12_centre 13 = .ok (.bipush 8, 2) := by decide +kernel
theorem dX12_centre_15 : decode cX12_centre 15 = .ok (.if_icmp .ge 105, 3) := by decide +kernel
theorem dX12_centre_18 : decode cX12_centre 18 = .ok (.aload_n 0, 1) := by decide +kernel
theorem dX12_centre_19 : decode cX12_centre 19 = .ok (.invokevirtual 440, 3) := by decide +kernel
theorem dX12_centre_22 : decode cX12_centre 22 = .ok (.iload_n 3, 1) := by decide +kernel
theorem dX12_centre_23 : decode cX12_centre 23 = .ok (.invokestatic 258, 3) := by decide +kernel
theorem dX12_centre_26 : decode cX12_centre 26 = .ok (.ifCond .ne 6, 3) := by decide +kernel
theorem dX12_centre_29 : decode cX12_centre 29 = .ok (.goto 85, 3) := by decide +kernel
theorem dX12_centre_32 : decode cX12_centre 32 = .ok (.iconst 0, 1) := by decide +kernel
theorem dX12_centre_33 : decode cX12_centre 33 = .ok (.istore 4, 2) := by decide +kernel
theorem dX12_centre_35 : decode cX12_centre 35 = .ok (.iconst 0, 1) := by decide +kernel
theorem dX12_centre_36 : decode cX12_centre 36 = .ok (.istore 5, 2) := by decide +kernel
theorem dX12_centre_38 : decode cX12_centre 38 = .ok (.iload 5, 2) := by decide +kernel
theorem dX12_centre_40 : decode cX12_centre 40 = .ok (.bipush 8, 2) := by decide +kernel
theorem dX12_centre_42 : decode cX12_centre 42 = .ok (.if_icmp .ge 58, 3) := by decide +kernel
theorem dX12_centre_45 : decode cX12_centre 45 = .ok (.aload_n 0, 1) := by decide +kernel
theorem dX12_centre_46 : decode cX12_centre 46 = .ok (.getfield 56, 3) := by decide +kernel
theorem dX12_centre_49 : decode cX12_centre 49 = .ok (.bipush 8, 2) := by decide +kernel
theorem dX12_centre_51 : decode cX12_centre 51 = .ok (.iload_n 3, 1) := by decide +kernel
theorem dX12_centre_52 : decode cX12_centre 52 = .ok (.imul, 1) := by decide +kernel
theorem dX12_centre_53 : decode cX12_centre 53 = .ok (.iload 5, 2) := by decide +kernel
theorem dX12_centre_55 : decode cX12_centre 55 = .ok (.iadd, 1) := by decide +kernel
theorem dX12_centre_56 : decode cX12_centre 56 = .ok (.iaload, 1) := by decide +kernel
theorem dX12_centre_57 : decode cX12_centre 57 = .ok (.ldc_w 412, 3) := by decide +kernel
theorem dX12_centre_60 : decode cX12_centre 60 = .ok (.if_icmp .eq 34, 3) := by decide +kernel
theorem dX12_centre_63 : decode cX12_centre 63 = .ok (.aload_n 0, 1) := by decide +kernel
theorem dX12_centre_64 : decode cX12_centre 64 = .ok (.getfield 56, 3) := by decide +kernel
theorem dX12_centre_67 : decode cX12_centre 67 = .ok (.bipush 8, 2) := by decide +kernel
theorem dX12_centre_69 : decode cX12_centre 69 = .ok (.iload_n 3, 1) := by decide +kernel
theorem dX12_centre_70 : decode cX12_centre 70 = .ok (.imul, 1) := by decide +kernel
theorem dX12_centre_71 : decode cX12_centre 71 = .ok (.iload 5, 2) := by decide +kernel
theorem dX12_centre_73 : decode cX12_centre 73 = .ok (.iadd, 1) := by decide +kernel
theorem dX12_centre_74 : decode cX12_centre 74 = .ok (.iaload, 1) := by decide +kernel
theorem dX12_centre_75 : decode cX12_centre 75 = .ok (.iload 4, 2) := by decide +kernel
theorem dX12_centre_77 : decode cX12_centre 77 = .ok (.if_icmp .le 17, 3) := by decide +kernel
theorem dX12_centre_80 : decode cX12_centre 80 = .ok (.aload_n 0, 1) := by decide +kernel
theorem dX12_centre_81 : decode cX12_centre 81 = .ok (.getfield 56, 3) := by decide +kernel
theorem dX12_centre_84 : decode cX12_centre 84 = .ok (.bipush 8, 2) := by decide +kernel
theorem dX12_centre_86 : decode cX12_centre 86 = .ok (.iload_n 3, 1) := by decide +kernel
theorem dX12_centre_87 : decode cX12_centre 87 = .ok (.imul, 1) := by decide +kernel
theorem dX12_centre_88 : decode cX12_centre 88 = .ok (.iload 5, 2) := by decide +kernel
theorem dX12_centre_90 : decode cX12_centre 90 = .ok (.iadd, 1) := by decide +kernel
theorem dX12_centre_91 : decode cX12_centre 91 = .ok (.iaload, 1) := by decide +kernel
theorem dX12_centre_92 : decode cX12_centre 92 = .ok (.istore 4, 2) := by decide +kernel
theorem dX12_centre_94 : decode cX12_centre 94 = .ok (.iinc 5 1, 3) := by decide +kernel
theorem dX12_centre_97 : decode cX12_centre 97 = .ok (.goto (-59), 3) := by decide +kernel
theorem dX12_centre_100 : decode cX12_centre 100 = .ok (.iload 4, 2) := by decide +kernel
theorem dX12_centre_102 : decode cX12_centre 102 = .ok (.iload_n 2, 1) := by decide +kernel
theorem dX12_centre_103 : decode cX12_centre 103 = .ok (.if_icmp .lt 6, 3) := by decide +kernel
theorem dX12_centre_106 : decode cX12_centre 106 = .ok (.goto 8, 3) := by decide +kernel
theorem dX12_centre_109 : decode cX12_centre 109 = .ok (.iload 4, 2) := by decide +kernel
theorem dX12_centre_111 : decode cX12_centre 111 = .ok (.istore_n 2, 1) := by decide +kernel
theorem dX12_centre_112 : decode cX12_centre 112 = .ok (.iload_n 3, 1) := by decide +kernel
theorem dX12_centre_113 : decode cX12_centre 113 = .ok (.istore_n 1, 1) := by decide +kernel
theorem dX12_centre_114 : decode cX12_centre 114 = .ok (.iinc 3 1, 3) := by decide +kernel
theorem dX12_centre_117 : decode cX12_centre 117 = .ok (.goto (-105), 3) := by decide +kernel
theorem dX12_centre_120 : decode cX12_centre 120 = .ok (.iload_n 1, 1) := by decide +kernel
theorem dX12_centre_121 : decode cX12_centre 121 = .ok (.ireturn, 1) := by decide +kernel
theorem dX12_ring_0 : decode cX12_ring 0 = .ok (.iload_n 1, 1) := by decide +kernel
theorem dX12_ring_1 : decode cX12_ring 1 = .ok (.invokestatic 89, 3) := by decide +kernel
theorem dX12_ring_4 : decode cX12_ring 4 = .ok (.ifCond .ne 5, 3) := by decide +kernel
theorem dX12_ring_7 : decode cX12_ring 7 = .ok (.iconst (-1), 1) := by decide +kernel
theorem dX12_ring_8 : decode cX12_ring 8 = .ok (.ireturn, 1) := by decide +kernel
theorem dX12_ring_9 : decode cX12_ring 9 = .ok (.ldc_w 412, 3) := by decide +kernel
theorem dX12_ring_12 : decode cX12_ring 12 = .ok (.istore_n 2, 1) := by decide +kernel
theorem dX12_ring_13 : decode cX12_ring 13 = .ok (.iconst 0, 1) := by decide +kernel
theorem dX12_ring_14 : decode cX12_ring 14 = .ok (.istore_n 3, 1) := by decide +kernel
theorem dX12_ring_15 : decode cX12_ring 15 = .ok (.iload_n 3, 1) := by decide +kernel
theorem dX12_ring_16 : decode cX12_ring 16 = .ok (.aload_n 0, 1) := by decide +kernel
theorem dX12_ring_17 : decode cX12_ring 17 = .ok (.getfield 7, 3) := by decide +kernel
theorem dX12_ring_20 : decode cX12_ring 20 = .ok (.iconst 0, 1) := by decide +kernel
theorem dX12_ring_21 : decode cX12_ring 21 = .ok (.iaload, 1) := by decide +kernel
theorem dX12_ring_22 : decode cX12_ring 22 = .ok (.if_icmp .ge 70, 3) := by decide +kernel
theorem dX12_ring_25 : decode cX12_ring 25 = .ok (.aload_n 0, 1) := by decide +kernel
theorem dX12_ring_26 : decode cX12_ring 26 = .ok (.iload_n 3, 1) := by decide +kernel
theorem dX12_ring_27 : decode cX12_ring 27 = .ok (.invokevirtual 431, 3) := by decide +kernel
theorem dX12_ring_30 : decode cX12_ring 30 = .ok (.ifCond .eq 56, 3) := by decide +kernel
theorem dX12_ring_33 : decode cX12_ring 33 = .ok (.aload_n 0, 1) := by decide +kernel
theorem dX12_ring_34 : decode cX12_ring 34 = .ok (.iload_n 3, 1) := by decide +kernel
theorem dX12_ring_35 : decode cX12_ring 35 = .ok (.iload_n 1, 1) := by decide +kernel
theorem dX12_ring_36 : decode cX12_ring 36 = .ok (.invokevirtual 339, 3) := by decide +kernel
theorem dX12_ring_39 : decode cX12_ring 39 = .ok (.iconst (-1), 1) := by decide +kernel
theorem dX12_ring_40 : decode cX12_ring 40 = .ok (.if_icmp .ne 6, 3) := by decide +kernel
theorem dX12_ring_43 : decode cX12_ring 43 = .ok (.goto 43, 3) := by decide +kernel
theorem dX12_ring_46 : decode cX12_ring 46 = .ok (.aload_n 0, 1) := by decide +kernel
theorem dX12_ring_47 : decode cX12_ring 47 = .ok (.iload_n 1, 1) := by decide +kernel
theorem dX12_ring_48 : decode cX12_ring 48 = .ok (.iconst 1, 1) := by decide +kernel
theorem dX12_ring_49 : decode cX12_ring 49 = .ok (.iload_n 3, 1) := by decide +kernel
theorem dX12_ring_50 : decode cX12_ring 50 = .ok (.invokevirtual 413, 3) := by decide +kernel
theorem dX12_ring_53 : decode cX12_ring 53 = .ok (.aload_n 0, 1) := by decide +kernel
theorem dX12_ring_54 : decode cX12_ring 54 = .ok (.getfield 50, 3) := by decide +kernel
theorem dX12_ring_57 : decode cX12_ring 57 = .ok (.aload_n 0, 1) := by decide +kernel
theorem dX12_ring_58 : decode cX12_ring 58 = .ok (.iload_n 3, 1) := by decide +kernel
theorem dX12_ring_59 : decode cX12_ring 59 = .ok (.iload_n 1, 1) := by decide +kernel
theorem dX12_ring_60 : decode cX12_ring 60 = .ok (.invokevirtual 339, 3) := by decide +kernel
theorem dX12_ring_63 : decode cX12_ring 63 = .ok (.iaload, 1) := by decide +kernel
theorem dX12_ring_64 : decode cX12_ring 64 = .ok (.aload_n 0, 1) := by decide +kernel
theorem dX12_ring_65 : decode cX12_ring 65 = .ok (.iload_n 3, 1) := by decide +kernel
theorem dX12_ring_66 : decode cX12_ring 66 = .ok (.iconst 2, 1) := by decide +kernel
theorem dX12_ring_67 : decode cX12_ring 67 = .ok (.invokevirtual 85, 3) := by decide +kernel
theorem dX12_ring_70 : decode cX12_ring 70 = .ok (.iadd, 1) := by decide +kernel
theorem dX12_ring_71 : decode cX12_ring 71 = .ok (.istore 4, 2) := by decide +kernel
theorem dX12_ring_73 : decode cX12_ring 73 = .ok (.iload 4, 2) := by decide +kernel
theorem dX12_ring_75 : decode cX12_ring 75 = .ok (.iload_n 2, 1) := by decide +kernel
theorem dX12_ring_76 : decode cX12_ring 76 = .ok (.if_icmp .ge 8, 3) := by decide +kernel
theorem dX12_ring_79 : decode cX12_ring 79 = .ok (.iload 4, 2) := by decide +kernel
theorem dX12_ring_81 : decode cX12_ring 81 = .ok (.goto 4, 3) := by decide +kernel
theorem dX12_ring_84 : decode cX12_ring 84 = .ok (.iload_n 2, 1) := by decide +kernel
theorem dX12_ring_85 : decode cX12_ring 85 = .ok (.istore_n 2, 1) := by decide +kernel
theorem dX12_ring_86 : decode cX12_ring 86 = .ok (.iinc 3 1, 3) := by decide +kernel
theorem dX12_ring_89 : decode cX12_ring 89 = .ok (.goto (-74), 3) := by decide +kernel
theorem dX12_ring_92 : decode cX12_ring 92 = .ok (.iload_n 2, 1) := by decide +kernel
theorem dX12_ring_93 : decode cX12_ring 93 = .ok (.ldc_w 412, 3) := by decide +kernel
theorem dX12_ring_96 : decode cX12_ring 96 = .ok (.if_icmp .ne 7, 3) := by decide +kernel
theorem dX12_ring_99 : decode cX12_ring 99 = .ok (.iconst (-1), 1) := by decide +kernel
theorem dX12_ring_100 : decode cX12_ring 100 = .ok (.goto 4, 3) := by decide +kernel
theorem dX12_ring_103 : decode cX12_ring 103 = .ok (.iload_n 2, 1) := by decide +kernel
theorem dX12_ring_104 : decode cX12_ring 104 = .ok (.ireturn, 1) := by decide +kernel
theorem dX12_isWatched_0 : decode cX12_isWatched 0 = .ok (.iconst 0, 1) := by decide +kernel
theorem dX12_isWatched_1 : decode cX12_isWatched 1 = .ok (.istore_n 2, 1) := by decide +kernel
theorem dX12_isWatched_2 : decode cX12_isWatched 2 = .ok (.iload_n 2, 1) := by decide +kernel
theorem dX12_isWatched_3 : decode cX12_isWatched 3 = .ok (.aload_n 0, 1) := by decide +kernel
theorem dX12_isWatched_4 : decode cX12_isWatched 4 = .ok (.getfield 7, 3) := by decide +kernel
theorem dX12_isWatched_7 : decode cX12_isWatched 7 = .ok (.iconst 0, 1) := by decide +kernel
theorem dX12_isWatched_8 : decode cX12_isWatched 8 = .ok (.iaload, 1) := by decide +kernel
theorem dX12_isWatched_9 : decode cX12_isWatched 9 = .ok (.if_icmp .ge 45, 3) := by decide +kernel
theorem dX12_isWatched_12 : decode cX12_isWatched 12 = .ok (.aload_n 0, 1) := by decide +kernel
theorem dX12_isWatched_13 : decode cX12_isWatched 13 = .ok (.iload_n 2, 1) := by decide +kernel
theorem dX12_isWatched_14 : decode cX12_isWatched 14 = .ok (.invokevirtual 431, 3) := by decide +kernel
theorem dX12_isWatched_17 : decode cX12_isWatched 17 = .ok (.ifCond .eq 31, 3) := by decide +kernel
theorem dX12_isWatched_20 : decode cX12_isWatched 20 = .ok (.iload_n 1, 1) := by decide +kernel
theorem dX12_isWatched_21 : decode cX12_isWatched 21 = .ok (.aload_n 0, 1) := by decide +kernel
theorem dX12_isWatched_22 : decode cX12_isWatched 22 = .ok (.iload_n 2, 1) := by decide +kernel
theorem dX12_isWatched_23 : decode cX12_isWatched 23 = .ok (.iconst 0, 1) := by decide +kernel
theorem dX12_isWatched_24 : decode cX12_isWatched 24 = .ok (.invokevirtual 85, 3) := by decide +kernel
theorem dX12_isWatched_27 : decode cX12_isWatched 27 = .ok (.invokestatic 258, 3) := by decide +kernel
theorem dX12_isWatched_30 : decode cX12_isWatched 30 = .ok (.ifCond .ne 18, 3) := by decide +kernel
theorem dX12_isWatched_33 : decode cX12_isWatched 33 = .ok (.iload_n 1, 1) := by decide +kernel
theorem dX12_isWatched_34 : decode cX12_isWatched 34 = .ok (.aload_n 0, 1) := by decide +kernel
theorem dX12_isWatched_35 : decode cX12_isWatched 35 = .ok (.iload_n 2, 1) := by decide +kernel
theorem dX12_isWatched_36 : decode cX12_isWatched 36 = .ok (.iconst 1, 1) := by decide +kernel
theorem dX12_isWatched_37 : decode cX12_isWatched 37 = .ok (.invokevirtual 85, 3) := by decide +kernel
theorem dX12_isWatched_40 : decode cX12_isWatched 40 = .ok (.invokestatic 258, 3) := by decide +kernel
theorem dX12_isWatched_43 : decode cX12_isWatched 43 = .ok (.ifCond .ne 5, 3) := by decide +kernel
theorem dX12_isWatched_46 : decode cX12_isWatched 46 = .ok (.iconst 0, 1) := by decide +kernel
theorem dX12_isWatched_47 : decode cX12_isWatched 47 = .ok (.ireturn, 1) := by decide +kernel
theorem dX12_isWatched_48 : decode cX12_isWatched 48 = .ok (.iinc 2 1, 3) := by decide +kernel
theorem dX12_isWatched_51 : decode cX12_isWatched 51 = .ok (.goto (-49), 3) := by decide +kernel
theorem dX12_isWatched_54 : decode cX12_isWatched 54 = .ok (.iconst 1, 1) := by decide +kernel
theorem dX12_isWatched_55 : decode cX12_isWatched 55 = .ok (.ireturn, 1) := by decide +kernel
theorem dX12_watch_0 : decode cX12_watch 0 = .ok (.sipush 255, 3) := by decide +kernel
theorem dX12_watch_3 : decode cX12_watch 3 = .ok (.istore_n 2, 1) := by decide +kernel
theorem dX12_watch_4 : decode cX12_watch 4 = .ok (.iload_n 2, 1) := by decide +kernel
theorem dX12_watch_5 : decode cX12_watch 5 = .ok (.istore_n 3, 1) := by decide +kernel
theorem dX12_watch_6 : decode cX12_watch 6 = .ok (.iload_n 3, 1) := by decide +kernel
theorem dX12_watch_7 : decode cX12_watch 7 = .ok (.ifCond .lt 30, 3) := by decide +kernel
theorem dX12_watch_10 : decode cX12_watch 10 = .ok (.iload_n 3, 1) := by decide +kernel
theorem dX12_watch_11 : decode cX12_watch 11 = .ok (.invokestatic 361, 3) := by decide +kernel
theorem dX12_watch_14 : decode cX12_watch 14 = .ok (.iload_n 2, 1) := by decide +kernel
theorem dX12_watch_15 : decode cX12_watch 15 = .ok (.invokestatic 361, 3) := by decide +kernel
theorem dX12_watch_18 : decode cX12_watch 18 = .ok (.if_icmp .gt 13, 3) := by decide +kernel
theorem dX12_watch_21 : decode cX12_watch 21 = .ok (.aload_n 0, 1) := by decide +kernel
theorem dX12_watch_22 : decode cX12_watch 22 = .ok (.iload_n 3, 1) := by decide +kernel
theorem dX12_watch_23 : decode cX12_watch 23 = .ok (.invokevirtual 449, 3) := by decide +kernel
theorem dX12_watch_26 : decode cX12_watch 26 = .ok (.ifCond .eq 5, 3) := by decide +kernel
theorem dX12_watch_29 : decode cX12_watch 29 = .ok (.iload_n 3, 1) := by decide +kernel
theorem dX12_watch_30 : decode cX12_watch 30 = .ok (.istore_n 2, 1) := by decide +kernel
theorem dX12_watch_31 : decode cX12_watch 31 = .ok (.iinc 3 (-1), 3) := by decide +kernel
theorem dX12_watch_34 : decode cX12_watch 34 = .ok (.goto (-28), 3) := by decide +kernel
theorem dX12_watch_37 : decode cX12_watch 37 = .ok (.iload_n 1, 1) := by decide +kernel
theorem dX12_watch_38 : decode cX12_watch 38 = .ok (.ifCond .eq 10, 3) := by decide +kernel
theorem dX12_watch_41 : decode cX12_watch 41 = .ok (.iload_n 2, 1) := by decide +kernel
theorem dX12_watch_42 : decode cX12_watch 42 = .ok (.invokestatic 361, 3) := by decide +kernel
theorem dX12_watch_45 : decode cX12_watch 45 = .ok (.goto 4, 3) := by decide +kernel
theorem dX12_watch_48 : decode cX12_watch 48 = .ok (.iload_n 2, 1) := by decide +kernel
theorem dX12_watch_49 : decode cX12_watch 49 = .ok (.ireturn, 1) := by decide +kernel
theorem dX12_colours_0 : decode cX12_colours 0 = .ok (.aload_n 0, 1) := by decide +kernel
theorem dX12_colours_1 : decode cX12_colours 1 = .ok (.getfield 59, 3) := by decide +kernel
theorem dX12_colours_4 : decode cX12_colours 4 = .ok (.iconst 0, 1) := by decide +kernel
theorem dX12_colours_5 : decode cX12_colours 5 = .ok (.iconst 0, 1) := by decide +kernel
theorem dX12_colours_6 : decode cX12_colours 6 = .ok (.iastore, 1) := by decide +kernel
theorem dX12_colours_7 : decode cX12_colours 7 = .ok (.sipush 255, 3) := by decide +kernel
theorem dX12_colours_10 : decode cX12_colours 10 = .ok (.istore_n 1, 1) := by decide +kernel
theorem dX12_colours_11 : decode cX12_colours 11 = .ok (.iconst 1, 1) := by decide +kernel
theorem dX12_colours_12 : decode cX12_colours 12 = .ok (.istore_n 2, 1) := by decide +kernel
theorem dX12_colours_13 : decode cX12_colours 13 = .ok (.iload_n 2, 1) := by decide +kernel
theorem dX12_colours_14 : decode cX12_colours 14 = .ok (.iload_n 1, 1) := by decide +kernel
theorem dX12_colours_15 : decode cX12_colours 15 = .ok (.if_icmp .gt 83, 3) := by decide +kernel
theorem dX12_colours_18 : decode cX12_colours 18 = .ok (.aload_n 0, 1) := by decide +kernel
theorem dX12_colours_19 : decode cX12_colours 19 = .ok (.getfield 59, 3) := by decide +kernel
theorem dX12_colours_22 : decode cX12_colours 22 = .ok (.iload_n 2, 1) := by decide +kernel
theorem dX12_colours_23 : decode cX12_colours 23 = .ok (.bipush 8, 2) := by decide +kernel
theorem dX12_colours_25 : decode cX12_colours 25 = .ok (.iastore, 1) := by decide +kernel
theorem dX12_colours_26 : decode cX12_colours 26 = .ok (.iload_n 2, 1) := by decide +kernel
theorem dX12_colours_27 : decode cX12_colours 27 = .ok (.istore_n 3, 1) := by decide +kernel
theorem dX12_colours_28 : decode cX12_colours 28 = .ok (.iload_n 3, 1) := by decide +kernel
theorem dX12_colours_29 : decode cX12_colours 29 = .ok (.ifCond .le 63, 3) := by decide +kernel
theorem dX12_colours_32 : decode cX12_colours 32 = .ok (.aload_n 0, 1) := by decide +kernel
theorem dX12_colours_33 : decode cX12_colours 33 = .ok (.iload_n 1, 1) := by decide +kernel
theorem dX12_colours_34 : decode cX12_colours 34 = .ok (.iload_n 3, 1) := by decide +kernel
theorem dX12_colours_35 : decode cX12_colours 35 = .ok (.iconst (-1), 1) := by decide +kernel
theorem dX12_colours_36 : decode cX12_colours 36 = .ok (.ixor, 1) := by decide +kernel
theorem dX12_colours_37 : decode cX12_colours 37 = .ok (.iand, 1) := by decide +kernel
theorem dX12_colours_38 : decode cX12_colours 38 = .ok (.invokevirtual 449, 3) := by decide +kernel
theorem dX12_colours_41 : decode cX12_colours 41 = .ok (.ifCond .eq 42, 3) := by decide +kernel
theorem dX12_colours_44 : decode cX12_colours 44 = .ok (.aload_n 0, 1) := by decide +kernel
theorem dX12_colours_45 : decode cX12_colours 45 = .ok (.getfield 59, 3) := by decide +kernel
theorem dX12_colours_48 : decode cX12_colours 48 = .ok (.iload_n 2, 1) := by decide +kernel
theorem dX12_colours_49 : decode cX12_colours 49 = .ok (.iload_n 3, 1) := by decide +kernel
theorem dX12_colours_50 : decode cX12_colours 50 = .ok (.iconst (-1), 1) := by decide +kernel
theorem dX12_colours_51 : decode cX12_colours 51 = .ok (.ixor, 1) := by decide +kernel
theorem dX12_colours_52 : decode cX12_colours 52 = .ok (.iand, 1) := by decide +kernel
theorem dX12_colours_53 : decode cX12_colours 53 = .ok (.iaload, 1) := by decide +kernel
theorem dX12_colours_54 : decode cX12_colours 54 = .ok (.iconst 1, 1) := by decide +kernel
theorem dX12_colours_55 : decode cX12_colours 55 = .ok (.iadd, 1) := by decide +kernel
theorem dX12_colours_56 : decode cX12_colours 56 = .ok (.aload_n 0, 1) := by decide +kernel
theorem dX12_colours_57 : decode cX12_colours 57 = .ok (.getfield 59, 3) := by decide +kernel
theorem dX12_colours_60 : decode cX12_colours 60 = .ok (.iload_n 2, 1) := by decide +kernel
theorem dX12_colours_61 : decode cX12_colours 61 = .ok (.iaload, 1) := by decide +kernel
theorem dX12_colours_62 : decode cX12_colours 62 = .ok (.if_icmp .ge 21, 3) := by decide +kernel
theorem dX12_colours_65 : decode cX12_colours 65 = .ok (.aload_n 0, 1) := by decide +kernel
theorem dX12_colours_66 : decode cX12_colours 66 = .ok (.getfield 59, 3) := by decide +kernel
theorem dX12_colours_69 : decode cX12_colours 69 = .ok (.iload_n 2, 1) := by decide +kernel
theorem dX12_colours_70 : decode cX12_colours 70 = .ok (.aload_n 0, 1) := by decide +kernel
theorem dX12_colours_71 : decode cX12_colours 71 = .ok (.getfield 59, 3) := by decide +kernel
theorem dX12_colours_74 : decode cX12_colours 74 = .ok (.iload_n 2, 1) := by decide +kernel
theorem dX12_colours_75 : decode cX12_colours 75 = .ok (.iload_n 3, 1) := by decide +kernel
theorem dX12_colours_76 : decode cX12_colours 76 = .ok (.iconst (-1), 1) := by decide +kernel
theorem dX12_colours_77 : decode cX12_colours 77 = .ok (.ixor, 1) := by decide +kernel
theorem dX12_colours_78 : decode cX12_colours 78 = .ok (.iand, 1) := by decide +kernel
theorem dX12_colours_79 : decode cX12_colours 79 = .ok (.iaload, 1) := by decide +kernel
theorem dX12_colours_80 : decode cX12_colours 80 = .ok (.iconst 1, 1) := by decide +kernel
theorem dX12_colours_81 : decode cX12_colours 81 = .ok (.iadd, 1) := by decide +kernel
theorem dX12_colours_82 : decode cX12_colours 82 = .ok (.iastore, 1) := by decide +kernel
theorem dX12_colours_83 : decode cX12_colours 83 = .ok (.iload_n 3, 1) := by decide +kernel
theorem dX12_colours_84 : decode cX12_colours 84 = .ok (.iconst 1, 1) := by decide +kernel
theorem dX12_colours_85 : decode cX12_colours 85 = .ok (.isub, 1) := by decide +kernel
theorem dX12_colours_86 : decode cX12_colours 86 = .ok (.iload_n 2, 1) := by decide +kernel
theorem dX12_colours_87 : decode cX12_colours 87 = .ok (.iand, 1) := by decide +kernel
theorem dX12_colours_88 : decode cX12_colours 88 = .ok (.istore_n 3, 1) := by decide +kernel
theorem dX12_colours_89 : decode cX12_colours 89 = .ok (.goto (-61), 3) := by decide +kernel
theorem dX12_colours_92 : decode cX12_colours 92 = .ok (.iinc 2 1, 3) := by decide +kernel
theorem dX12_colours_95 : decode cX12_colours 95 = .ok (.goto (-82), 3) := by decide +kernel
theorem dX12_colours_98 : decode cX12_colours 98 = .ok (.aload_n 0, 1) := by decide +kernel
theorem dX12_colours_99 : decode cX12_colours 99 = .ok (.getfield 59, 3) := by decide +kernel
theorem dX12_colours_102 : decode cX12_colours 102 = .ok (.iload_n 1, 1) := by decide +kernel
theorem dX12_colours_103 : decode cX12_colours 103 = .ok (.iaload, 1) := by decide +kernel
theorem dX12_colours_104 : decode cX12_colours 104 = .ok (.ireturn, 1) := by decide +kernel
theorem dX12_lonely_0 : decode cX12_lonely 0 = .ok (.sipush 255, 3) := by decide +kernel
theorem dX12_lonely_3 : decode cX12_lonely 3 = .ok (.aload_n 0, 1) := by decide +kernel
theorem dX12_lonely_4 : decode cX12_lonely 4 = .ok (.invokevirtual 440, 3) := by decide +kernel
theorem dX12_lonely_7 : decode cX12_lonely 7 = .ok (.iconst (-1), 1) := by decide +kernel
theorem dX12_lonely_8 : decode cX12_lonely 8 = .ok (.ixor, 1) := by decide +kernel
theorem dX12_lonely_9 : decode cX12_lonely 9 = .ok (.iand, 1) := by decide +kernel
theorem dX12_lonely_10 : decode cX12_lonely 10 = .ok (.ireturn, 1) := by decide +kernel
theorem dX12_times_0 : decode cX12_times 0 = .ok (.aload_n 0, 1) := by decide +kernel
theorem dX12_times_1 : decode cX12_times 1 = .ok (.iload_n 1, 1) := by decide +kernel
theorem dX12_times_2 : decode cX12_times 2 = .ok (.invokevirtual 330, 3) := by decide +kernel
theorem dX12_times_5 : decode cX12_times 5 = .ok (.ifCond .eq 11, 3) := by decide +kernel
theorem dX12_times_8 : decode cX12_times 8 = .ok (.aload_n 0, 1) := by decide +kernel
theorem dX12_times_9 : decode cX12_times 9 = .ok (.iload_n 2, 1) := by decide +kernel
theorem dX12_times_10 : decode cX12_times 10 = .ok (.invokevirtual 333, 3) := by decide +kernel
theorem dX12_times_13 : decode cX12_times 13 = .ok (.ifCond .ne 5, 3) := by decide +kernel
theorem dX12_times_16 : decode cX12_times 16 = .ok (.iconst (-1), 1) := by decide +kernel
theorem dX12_times_17 : decode cX12_times 17 = .ok (.ireturn, 1) := by decide +kernel
theorem dX12_times_18 : decode cX12_times 18 = .ok (.aload_n 0, 1) := by decide +kernel
theorem dX12_times_19 : decode cX12_times 19 = .ok (.getfield 7, 3) := by decide +kernel
theorem dX12_times_22 : decode cX12_times 22 = .ok (.bipush 11, 2) := by decide +kernel
theorem dX12_times_24 : decode cX12_times 24 = .ok (.iload_n 2, 1) := by decide +kernel
theorem dX12_times_25 : decode cX12_times 25 = .ok (.iadd, 1) := by decide +kernel
theorem dX12_times_26 : decode cX12_times 26 = .ok (.iaload, 1) := by decide +kernel
theorem dX12_times_27 : decode cX12_times 27 = .ok (.istore_n 3, 1) := by decide +kernel
theorem dX12_times_28 : decode cX12_times 28 = .ok (.iconst 0, 1) := by decide +kernel
theorem dX12_times_29 : decode cX12_times 29 = .ok (.istore 4, 2) := by decide +kernel
theorem dX12_times_31 : decode cX12_times 31 = .ok (.iload 4, 2) := by decide +kernel
theorem dX12_times_33 : decode cX12_times 33 = .ok (.bipush 99, 2) := by decide +kernel
theorem dX12_times_35 : decode cX12_times 35 = .ok (.if_icmp .ge 42, 3) := by decide +kernel
theorem dX12_times_38 : decode cX12_times 38 = .ok (.aload_n 0, 1) := by decide +kernel
theorem dX12_times_39 : decode cX12_times 39 = .ok (.iload_n 1, 1) := by decide +kernel
theorem dX12_times_40 : decode cX12_times 40 = .ok (.iload_n 2, 1) := by decide +kernel
theorem dX12_times_41 : decode cX12_times 41 = .ok (.invokevirtual 342, 3) := by decide +kernel
theorem dX12_times_44 : decode cX12_times 44 = .ok (.ifCond .eq 33, 3) := by decide +kernel
theorem dX12_times_47 : decode cX12_times 47 = .ok (.aload_n 0, 1) := by decide +kernel
theorem dX12_times_48 : decode cX12_times 48 = .ok (.getfield 7, 3) := by decide +kernel
theorem dX12_times_51 : decode cX12_times 51 = .ok (.bipush 11, 2) := by decide +kernel
theorem dX12_times_53 : decode cX12_times 53 = .ok (.iload_n 2, 1) := by decide +kernel
theorem dX12_times_54 : decode cX12_times 54 = .ok (.iadd, 1) := by decide +kernel
theorem dX12_times_55 : decode cX12_times 55 = .ok (.dup2, 1) := by decide +kernel
theorem dX12_times_56 : decode cX12_times 56 = .ok (.iaload, 1) := by decide +kernel
theorem dX12_times_57 : decode cX12_times 57 = .ok (.aload_n 0, 1) := by decide +kernel
theorem dX12_times_58 : decode cX12_times 58 = .ok (.aload_n 0, 1) := by decide +kernel
theorem dX12_times_59 : decode cX12_times 59 = .ok (.getfield 7, 3) := by decide +kernel
theorem dX12_times_62 : decode cX12_times 62 = .ok (.iconst 3, 1) := by decide +kernel
theorem dX12_times_63 : decode cX12_times 63 = .ok (.iaload, 1) := by decide +kernel
theorem dX12_times_64 : decode cX12_times 64 = .ok (.iload_n 1, 1) := by decide +kernel
theorem dX12_times_65 : decode cX12_times 65 = .ok (.iload_n 2, 1) := by decide +kernel
theorem dX12_times_66 : decode cX12_times 66 = .ok (.invokevirtual 327, 3) := by decide +kernel
theorem dX12_times_69 : decode cX12_times 69 = .ok (.isub, 1) := by decide +kernel
theorem dX12_times_70 : decode cX12_times 70 = .ok (.iastore, 1) := by decide +kernel
theorem dX12_times_71 : decode cX12_times 71 = .ok (.iinc 4 1, 3) := by decide +kernel
theorem dX12_times_74 : decode cX12_times 74 = .ok (.goto (-43), 3) := by decide +kernel
theorem dX12_times_77 : decode cX12_times 77 = .ok (.aload_n 0, 1) := by decide +kernel
theorem dX12_times_78 : decode cX12_times 78 = .ok (.getfield 7, 3) := by decide +kernel
theorem dX12_times_81 : decode cX12_times 81 = .ok (.bipush 11, 2) := by decide +kernel
theorem dX12_times_83 : decode cX12_times 83 = .ok (.iload_n 2, 1) := by decide +kernel
theorem dX12_times_84 : decode cX12_times 84 = .ok (.iadd, 1) := by decide +kernel
theorem dX12_times_85 : decode cX12_times 85 = .ok (.iload_n 3, 1) := by decide +kernel
theorem dX12_times_86 : decode cX12_times 86 = .ok (.iastore, 1) := by decide +kernel
theorem dX12_times_87 : decode cX12_times 87 = .ok (.iload 4, 2) := by decide +kernel
theorem dX12_times_89 : decode cX12_times 89 = .ok (.ireturn, 1) := by decide +kernel
theorem dX12_layCrowd_0 : decode cX12_layCrowd 0 = .ok (.iconst 0, 1) := by decide +kernel
theorem dX12_layCrowd_1 : decode cX12_layCrowd 1 = .ok (.istore_n 2, 1) := by decide +kernel
theorem dX12_layCrowd_2 : decode cX12_layCrowd 2 = .ok (.iconst 0, 1) := by decide +kernel
theorem dX12_layCrowd_3 : decode cX12_layCrowd 3 = .ok (.istore_n 3, 1) := by decide +kernel
theorem dX12_layCrowd_4 : decode cX12_layCrowd 4 = .ok (.iconst 0, 1) := by decide +kernel
theorem dX12_layCrowd_5 : decode cX12_layCrowd 5 = .ok (.istore 4, 2) := by decide +kernel
theorem dX12_layCrowd_7 : decode cX12_layCrowd 7 = .ok (.aload_n 0, 1) := by decide +kernel
theorem dX12_layCrowd_8 : decode cX12_layCrowd 8 = .ok (.getfield 7, 3) := by decide +kernel
theorem dX12_layCrowd_11 : decode cX12_layCrowd 11 = .ok (.bipush 11, 2) := by decide +kernel
theorem dX12_layCrowd_13 : decode cX12_layCrowd 13 = .ok (.iload_n 1, 1) := by decide +kernel
theorem dX12_layCrowd_14 : decode cX12_layCrowd 14 = .ok (.iadd, 1) := by decide +kernel
theorem dX12_layCrowd_15 : decode cX12_layCrowd 15 = .ok (.iaload, 1) := by decide +kernel
theorem dX12_layCrowd_16 : decode cX12_layCrowd 16 = .ok (.istore 5, 2) := by decide +kernel
theorem dX12_layCrowd_18 : decode cX12_layCrowd 18 = .ok (.aload_n 0, 1) := by decide +kernel
theorem dX12_layCrowd_19 : decode cX12_layCrowd 19 = .ok (.getfield 62, 3) := by decide +kernel
theorem dX12_layCrowd_22 : decode cX12_layCrowd 22 = .ok (.iconst 0, 1) := by decide +kernel
theorem dX12_layCrowd_23 : decode cX12_layCrowd 23 = .ok (.iconst (-1), 1) := by decide +kernel
theorem dX12_layCrowd_24 : decode cX12_layCrowd 24 = .ok (.iastore, 1) := by decide +kernel
theorem dX12_layCrowd_25 : decode cX12_layCrowd 25 = .ok (.aload_n 0, 1) := by decide +kernel
theorem dX12_layCrowd_26 : decode cX12_layCrowd 26 = .ok (.getfield 68, 3) := by decide +kernel
theorem dX12_layCrowd_29 : decode cX12_layCrowd 29 = .ok (.iconst 0, 1) := by decide +kernel
theorem dX12_layCrowd_30 : decode cX12_layCrowd 30 = .ok (.iload 5, 2) := by decide +kernel
theorem dX12_layCrowd_32 : decode cX12_layCrowd 32 = .ok (.iastore, 1) := by decide +kernel
theorem dX12_layCrowd_33 : decode cX12_layCrowd 33 = .ok (.iload_n 3, 1) := by decide +kernel
theorem dX12_layCrowd_34 : decode cX12_layCrowd 34 = .ok (.ifCond .lt 232, 3) := by decide +kernel
theorem dX12_layCrowd_37 : decode cX12_layCrowd 37 = .ok (.iload 4, 2) := by decide +kernel
theorem dX12_layCrowd_39 : decode cX12_layCrowd 39 = .ok (.aload_n 0, 1) := by decide +kernel
theorem dX12_layCrowd_40 : decode cX12_layCrowd 40 = .ok (.getfield 62, 3) := by decide +kernel
theorem dX12_layCrowd_43 : decode cX12_layCrowd 43 = .ok (.iload_n 3, 1) := by decide +kernel
theorem dX12_layCrowd_44 : decode cX12_layCrowd 44 = .ok (.iaload, 1) := by decide +kernel
theorem dX12_layCrowd_45 : decode cX12_layCrowd 45 = .ok (.iconst (-1), 1) := by decide +kernel
theorem dX12_layCrowd_46 : decode cX12_layCrowd 46 = .ok (.if_icmp .ne 8, 3) := by decide +kernel
theorem dX12_layCrowd_49 : decode cX12_layCrowd 49 = .ok (.iload 4, 2) := by decide +kernel
theorem dX12_layCrowd_51 : decode cX12_layCrowd 51 = .ok (.goto 13, 3) := by decide +kernel
theorem dX12_layCrowd_54 : decode cX12_layCrowd 54 = .ok (.iconst 1, 1) := by decide +kernel
theorem dX12_layCrowd_55 : decode cX12_layCrowd 55 = .ok (.aload_n 0, 1) := by decide +kernel
theorem dX12_layCrowd_56 : decode cX12_layCrowd 56 = .ok (.getfield 62, 3) := by decide +kernel
theorem dX12_layCrowd_59 : decode cX12_layCrowd 59 = .ok (.iload_n 3, 1) := by decide +kernel
theorem dX12_layCrowd_60 : decode cX12_layCrowd 60 = .ok (.iaload, 1) := by decide +kernel
theorem dX12_layCrowd_61 : decode cX12_layCrowd 61 = .ok (.ishl, 1) := by decide +kernel
theorem dX12_layCrowd_62 : decode cX12_layCrowd 62 = .ok (.iconst (-1), 1) := by decide +kernel
theorem dX12_layCrowd_63 : decode cX12_layCrowd 63 = .ok (.ixor, 1) := by decide +kernel
theorem dX12_layCrowd_64 : decode cX12_layCrowd 64 = .ok (.iand, 1) := by decide +kernel
theorem dX12_layCrowd_65 : decode cX12_layCrowd 65 = .ok (.istore 4, 2) := by decide +kernel
theorem dX12_layCrowd_67 : decode cX12_layCrowd 67 = .ok (.aload_n 0, 1) := by decide +kernel
theorem dX12_layCrowd_68 : decode cX12_layCrowd 68 = .ok (.getfield 7, 3) := by decide +kernel
theorem dX12_layCrowd_71 : decode cX12_layCrowd 71 = .ok (.bipush 11, 2) := by decide +kernel
theorem dX12_layCrowd_73 : decode cX12_layCrowd 73 = .ok (.iload_n 1, 1) := by decide +kernel
theorem dX12_layCrowd_74 : decode cX12_layCrowd 74 = .ok (.iadd, 1) := by decide +kernel
theorem dX12_layCrowd_75 : decode cX12_layCrowd 75 = .ok (.aload_n 0, 1) := by decide +kernel
theorem dX12_layCrowd_76 : decode cX12_layCrowd 76 = .ok (.getfield 68, 3) := by decide +kernel
theorem dX12_layCrowd_79 : decode cX12_layCrowd 79 = .ok (.iload_n 3, 1) := by decide +kernel
theorem dX12_layCrowd_80 : decode cX12_layCrowd 80 = .ok (.iaload, 1) := by decide +kernel
theorem dX12_layCrowd_81 : decode cX12_layCrowd 81 = .ok (.iastore, 1) := by decide +kernel
theorem dX12_layCrowd_82 : decode cX12_layCrowd 82 = .ok (.aload_n 0, 1) := by decide +kernel
theorem dX12_layCrowd_83 : decode cX12_layCrowd 83 = .ok (.getfield 62, 3) := by decide +kernel
theorem dX12_layCrowd_86 : decode cX12_layCrowd 86 = .ok (.iload_n 3, 1) := by decide +kernel
theorem dX12_layCrowd_87 : decode cX12_layCrowd 87 = .ok (.dup2, 1) := by decide +kernel
theorem dX12_layCrowd_88 : decode cX12_layCrowd 88 = .ok (.iaload, 1) := by decide +kernel
theorem dX12_layCrowd_89 : decode cX12_layCrowd 89 = .ok (.iconst 1, 1) := by decide +kernel
theorem dX12_layCrowd_90 : decode cX12_layCrowd 90 = .ok (.iadd, 1) := by decide +kernel
theorem dX12_layCrowd_91 : decode cX12_layCrowd 91 = .ok (.iastore, 1) := by decide +kernel
theorem dX12_layCrowd_92 : decode cX12_layCrowd 92 = .ok (.aload_n 0, 1) := by decide +kernel
theorem dX12_layCrowd_93 : decode cX12_layCrowd 93 = .ok (.getfield 62, 3) := by decide +kernel
theorem dX12_layCrowd_96 : decode cX12_layCrowd 96 = .ok (.iload_n 3, 1) := by decide +kernel
theorem dX12_layCrowd_97 : decode cX12_layCrowd 97 = .ok (.iaload, 1) := by decide +kernel
theorem dX12_layCrowd_98 : decode cX12_layCrowd 98 = .ok (.aload_n 0, 1) := by decide +kernel
theorem dX12_layCrowd_99 : decode cX12_layCrowd 99 = .ok (.getfield 7, 3) := by decide +kernel
theorem dX12_layCrowd_102 : decode cX12_layCrowd 102 = .ok (.iconst 1, 1) := by decide +kernel
theorem dX12_layCrowd_103 : decode cX12_layCrowd 103 = .ok (.iaload, 1) := by decide +kernel
theorem dX12_layCrowd_104 : decode cX12_layCrowd 104 = .ok (.if_icmp .ge 44, 3) := by decide +kernel
theorem dX12_layCrowd_107 : decode cX12_layCrowd 107 = .ok (.iload 4, 2) := by decide +kernel
theorem dX12_layCrowd_109 : decode cX12_layCrowd 109 = .ok (.aload_n 0, 1) := by decide +kernel
theorem dX12_layCrowd_110 : decode cX12_layCrowd 110 = .ok (.getfield 62, 3) := by decide +kernel
theorem dX12_layCrowd_113 : decode cX12_layCrowd 113 = .ok (.iload_n 3, 1) := by decide +kernel
theorem dX12_layCrowd_114 : decode cX12_layCrowd 114 = .ok (.iaload, 1) := by decide +kernel
theorem dX12_layCrowd_115 : decode cX12_layCrowd 115 = .ok (.invokestatic 258, 3) := by decide +kernel
theorem dX12_layCrowd_118 : decode cX12_layCrowd 118 = .ok (.ifCond .ne 17, 3) := by decide +kernel
theorem dX12_layCrowd_121 : decode cX12_layCrowd 121 = .ok (.aload_n 0, 1) := by decide +kernel
theorem dX12_layCrowd_122 : decode cX12_layCrowd 122 = .ok (.aload_n 0, 1) := by decide +kernel
theorem dX12_layCrowd_123 : decode cX12_layCrowd 123 = .ok (.getfield 62, 3) := by decide +kernel
theorem dX12_layCrowd_126 : decode cX12_layCrowd 126 = .ok (.iload_n 3, 1) := by decide +kernel
theorem dX12_layCrowd_127 : decode cX12_layCrowd 127 = .ok (.iaload, 1) := by decide +kernel
theorem dX12_layCrowd_128 : decode cX12_layCrowd 128 = .ok (.iload_n 1, 1) := by decide +kernel
theorem dX12_layCrowd_129 : decode cX12_layCrowd 129 = .ok (.invokevirtual 342, 3) := by decide +kernel
theorem dX12_layCrowd_132 : decode cX12_layCrowd 132 = .ok (.ifCond .ne 16, 3) := by decide +kernel
theorem dX12_layCrowd_135 : decode cX12_layCrowd 135 = .ok (.aload_n 0, 1) := by decide +kernel
theorem dX12_layCrowd_136 : decode cX12_layCrowd 136 = .ok (.getfield 62, 3) := by decide +kernel
theorem dX12_layCrowd_139 : decode cX12_layCrowd 139 = .ok (.iload_n 3, 1) := by decide +kernel
theorem dX12_layCrowd_140 : decode cX12_layCrowd 140 = .ok (.dup2, 1) := by decide +kernel
theorem dX12_layCrowd_141 : decode cX12_layCrowd 141 = .ok (.iaload, 1) := by decide +kernel
theorem dX12_layCrowd_142 : decode cX12_layCrowd 142 = .ok (.iconst 1, 1) := by decide +kernel
theorem dX12_layCrowd_143 : decode cX12_layCrowd 143 = .ok (.iadd, 1) := by decide +kernel
theorem dX12_layCrowd_144 : decode cX12_layCrowd 144 = .ok (.iastore, 1) := by decide +kernel
theorem dX12_layCrowd_145 : decode cX12_layCrowd 145 = .ok (.goto (-53), 3) := by decide +kernel
theorem dX12_layCrowd_148 : decode cX12_layCrowd 148 = .ok (.aload_n 0, 1) := by decide +kernel
theorem dX12_layCrowd_149 : decode cX12_layCrowd 149 = .ok (.getfield 62, 3) := by decide +kernel
theorem dX12_layCrowd_152 : decode cX12_layCrowd 152 = .ok (.iload_n 3, 1) := by decide +kernel
theorem dX12_layCrowd_153 : decode cX12_layCrowd 153 = .ok (.iaload, 1) := by decide +kernel
theorem dX12_layCrowd_154 : decode cX12_layCrowd 154 = .ok (.aload_n 0, 1) := by decide +kernel
theorem dX12_layCrowd_155 : decode cX12_layCrowd 155 = .ok (.getfield 7, 3) := by decide +kernel
theorem dX12_layCrowd_158 : decode cX12_layCrowd 158 = .ok (.iconst 1, 1) := by decide +kernel
theorem dX12_layCrowd_159 : decode cX12_layCrowd 159 = .ok (.iaload, 1) := by decide +kernel
theorem dX12_layCrowd_160 : decode cX12_layCrowd 160 = .ok (.if_icmp .lt 9, 3) := by decide +kernel
theorem dX12_layCrowd_163 : decode cX12_layCrowd 163 = .ok (.iinc 3 (-1), 3) := by decide +kernel
theorem dX12_layCrowd_166 : decode cX12_layCrowd 166 = .ok (.goto (-133), 3) := by decide +kernel
theorem dX12_layCrowd_169 : decode cX12_layCrowd 169 = .ok (.iload 4, 2) := by decide +kernel
theorem dX12_layCrowd_171 : decode cX12_layCrowd 171 = .ok (.iconst 1, 1) := by decide +kernel
theorem dX12_layCrowd_172 : decode cX12_layCrowd 172 = .ok (.aload_n 0, 1) := by decide +kernel
theorem dX12_layCrowd_173 : decode cX12_layCrowd 173 = .ok (.getfield 62, 3) := by decide +kernel
theorem dX12_layCrowd_176 : decode cX12_layCrowd 176 = .ok (.iload_n 3, 1) := by decide +kernel
theorem dX12_layCrowd_177 : decode cX12_layCrowd 177 = .ok (.iaload, 1) := by decide +kernel
theorem dX12_layCrowd_178 : decode cX12_layCrowd 178 = .ok (.ishl, 1) := by decide +kernel
theorem dX12_layCrowd_179 : decode cX12_layCrowd 179 = .ok (.ior, 1) := by decide +kernel
theorem dX12_layCrowd_180 : decode cX12_layCrowd 180 = .ok (.istore 4, 2) := by decide +kernel
theorem dX12_layCrowd_182 : decode cX12_layCrowd 182 = .ok (.aload_n 0, 1) := by decide +kernel
theorem dX12_layCrowd_183 : decode cX12_layCrowd 183 = .ok (.getfield 68, 3) := by decide +kernel
theorem dX12_layCrowd_186 : decode cX12_layCrowd 186 = .ok (.iload_n 3, 1) := by decide +kernel
theorem dX12_layCrowd_187 : decode cX12_layCrowd 187 = .ok (.iconst 1, 1) := by decide +kernel
theorem dX12_layCrowd_188 : decode cX12_layCrowd 188 = .ok (.iadd, 1) := by decide +kernel
theorem dX12_layCrowd_189 : decode cX12_layCrowd 189 = .ok (.aload_n 0, 1) := by decide +kernel
theorem dX12_layCrowd_190 : decode cX12_layCrowd 190 = .ok (.getfield 68, 3) := by decide +kernel
theorem dX12_layCrowd_193 : decode cX12_layCrowd 193 = .ok (.iload_n 3, 1) := by decide +kernel
theorem dX12_layCrowd_194 : decode cX12_layCrowd 194 = .ok (.iaload, 1) := by decide +kernel
theorem dX12_layCrowd_195 : decode cX12_layCrowd 195 = .ok (.aload_n 0, 1) := by decide +kernel
theorem dX12_layCrowd_196 : decode cX12_layCrowd 196 = .ok (.aload_n 0, 1) := by decide +kernel
theorem dX12_layCrowd_197 : decode cX12_layCrowd 197 = .ok (.getfield 7, 3) := by decide +kernel
theorem dX12_layCrowd_200 : decode cX12_layCrowd 200 = .ok (.iconst 3, 1) := by decide +kernel
theorem dX12_layCrowd_201 : decode cX12_layCrowd 201 = .ok (.iaload, 1) := by decide +kernel
theorem dX12_layCrowd_202 : decode cX12_layCrowd 202 = .ok (.aload_n 0, 1) := by decide +kernel
theorem dX12_layCrowd_203 : decode cX12_layCrowd 203 = .ok (.getfield 62, 3) := by decide +kernel
theorem dX12_layCrowd_206 : decode cX12_layCrowd 206 = .ok (.iload_n 3, 1) := by decide +kernel
theorem dX12_layCrowd_207 : decode cX12_layCrowd 207 = .ok (.iaload, 1) := by decide +kernel
theorem dX12_layCrowd_208 : decode cX12_layCrowd 208 = .ok (.iload_n 1, 1) := by decide +kernel
theorem dX12_layCrowd_209 : decode cX12_layCrowd 209 = .ok (.invokevirtual 327, 3) := by decide +kernel
theorem dX12_layCrowd_212 : decode cX12_layCrowd 212 = .ok (.isub, 1) := by decide +kernel
theorem dX12_layCrowd_213 : decode cX12_layCrowd 213 = .ok (.iastore, 1) := by decide +kernel
theorem dX12_layCrowd_214 : decode cX12_layCrowd 214 = .ok (.iinc 3 1, 3) := by decide +kernel
theorem dX12_layCrowd_217 : decode cX12_layCrowd 217 = .ok (.aload_n 0, 1) := by decide +kernel
theorem dX12_layCrowd_218 : decode cX12_layCrowd 218 = .ok (.getfield 62, 3) := by decide +kernel
theorem dX12_layCrowd_221 : decode cX12_layCrowd 221 = .ok (.iload_n 3, 1) := by decide +kernel
theorem dX12_layCrowd_222 : decode cX12_layCrowd 222 = .ok (.iconst (-1), 1) := by decide +kernel
theorem dX12_layCrowd_223 : decode cX12_layCrowd 223 = .ok (.iastore, 1) := by decide +kernel
theorem dX12_layCrowd_224 : decode cX12_layCrowd 224 = .ok (.iload_n 3, 1) := by decide +kernel
theorem dX12_layCrowd_225 : decode cX12_layCrowd 225 = .ok (.iload_n 2, 1) := by decide +kernel
theorem dX12_layCrowd_226 : decode cX12_layCrowd 226 = .ok (.if_icmp .gt 6, 3) := by decide +kernel
theorem dX12_layCrowd_229 : decode cX12_layCrowd 229 = .ok (.goto (-196), 3) := by decide +kernel
theorem dX12_layCrowd_232 : decode cX12_layCrowd 232 = .ok (.iload_n 3, 1) := by decide +kernel
theorem dX12_layCrowd_233 : decode cX12_layCrowd 233 = .ok (.istore_n 2, 1) := by decide +kernel
theorem dX12_layCrowd_234 : decode cX12_layCrowd 234 = .ok (.iconst 0, 1) := by decide +kernel
theorem dX12_layCrowd_235 : decode cX12_layCrowd 235 = .ok (.istore 6, 2) := by decide +kernel
theorem dX12_layCrowd_237 : decode cX12_layCrowd 237 = .ok (.iload 6, 2) := by decide +kernel
theorem dX12_layCrowd_239 : decode cX12_layCrowd 239 = .ok (.iload_n 3, 1) := by decide +kernel
theorem dX12_layCrowd_240 : decode cX12_layCrowd 240 = .ok (.if_icmp .ge 23, 3) := by decide +kernel
theorem dX12_layCrowd_243 : decode cX12_layCrowd 243 = .ok (.aload_n 0, 1) := by decide +kernel
theorem dX12_layCrowd_244 : decode cX12_layCrowd 244 = .ok (.getfield 65, 3) := by decide +kernel
theorem dX12_layCrowd_247 : decode cX12_layCrowd 247 = .ok (.iload 6, 2) := by decide +kernel
theorem dX12_layCrowd_249 : decode cX12_layCrowd 249 = .ok (.aload_n 0, 1) := by decide +kernel
theorem dX12_layCrowd_250 : decode cX12_layCrowd 250 = .ok (.getfield 62, 3) := by decide +kernel
theorem dX12_layCrowd_253 : decode cX12_layCrowd 253 = .ok (.iload 6, 2) := by decide +kernel
theorem dX12_layCrowd_255 : decode cX12_layCrowd 255 = .ok (.iaload, 1) := by decide +kernel
theorem dX12_layCrowd_256 : decode cX12_layCrowd 256 = .ok (.iastore, 1) := by decide +kernel
theorem dX12_layCrowd_257 : decode cX12_layCrowd 257 = .ok (.iinc 6 1, 3) := by decide +kernel
theorem dX12_layCrowd_260 : decode cX12_layCrowd 260 = .ok (.goto (-23), 3) := by decide +kernel
theorem dX12_layCrowd_263 : decode cX12_layCrowd 263 = .ok (.goto (-230), 3) := by decide +kernel
theorem dX12_layCrowd_266 : decode cX12_layCrowd 266 = .ok (.aload_n 0, 1) := by decide +kernel
theorem dX12_layCrowd_267 : decode cX12_layCrowd 267 = .ok (.getfield 7, 3) := by decide +kernel
theorem dX12_layCrowd_270 : decode cX12_layCrowd 270 = .ok (.bipush 11, 2) := by decide +kernel
theorem dX12_layCrowd_272 : decode cX12_layCrowd 272 = .ok (.iload_n 1, 1) := by decide +kernel
theorem dX12_layCrowd_273 : decode cX12_layCrowd 273 = .ok (.iadd, 1) := by decide +kernel
theorem dX12_layCrowd_274 : decode cX12_layCrowd 274 = .ok (.iload 5, 2) := by decide +kernel
theorem dX12_layCrowd_276 : decode cX12_layCrowd 276 = .ok (.iastore, 1) := by decide +kernel
theorem dX12_layCrowd_277 : decode cX12_layCrowd 277 = .ok (.iload_n 2, 1) := by decide +kernel
theorem dX12_layCrowd_278 : decode cX12_layCrowd 278 = .ok (.ireturn, 1) := by decide +kernel
theorem dX12_crowd_0 : decode cX12_crowd 0 = .ok (.aload_n 0, 1) := by decide +kernel
theorem dX12_crowd_1 : decode cX12_crowd 1 = .ok (.iload_n 1, 1) := by decide +kernel
theorem dX12_crowd_2 : decode cX12_crowd 2 = .ok (.invokevirtual 333, 3) := by decide +kernel
theorem dX12_crowd_5 : decode cX12_crowd 5 = .ok (.ifCond .ne 6, 3) := by decide +kernel
theorem dX12_crowd_8 : decode cX12_crowd 8 = .ok (.bipush (-2), 2) := by decide +kernel
theorem dX12_crowd_10 : decode cX12_crowd 10 = .ok (.ireturn, 1) := by decide +kernel
theorem dX12_crowd_11 : decode cX12_crowd 11 = .ok (.aload_n 0, 1) := by decide +kernel
theorem dX12_crowd_12 : decode cX12_crowd 12 = .ok (.iload_n 1, 1) := by decide +kernel
theorem dX12_crowd_13 : decode cX12_crowd 13 = .ok (.invokevirtual 452, 3) := by decide +kernel
theorem dX12_crowd_16 : decode cX12_crowd 16 = .ok (.istore_n 3, 1) := by decide +kernel
theorem dX12_crowd_17 : decode cX12_crowd 17 = .ok (.iload_n 2, 1) := by decide +kernel
theorem dX12_crowd_18 : decode cX12_crowd 18 = .ok (.iconst (-1), 1) := by decide +kernel
theorem dX12_crowd_19 : decode cX12_crowd 19 = .ok (.if_icmp .ne 7, 3) := by decide +kernel
theorem dX12_crowd_22 : decode cX12_crowd 22 = .ok (.iload_n 3, 1) := by decide +kernel
theorem dX12_crowd_23 : decode cX12_crowd 23 = .ok (.goto 25, 3) := by decide +kernel
theorem dX12_crowd_26 : decode cX12_crowd 26 = .ok (.iload_n 2, 1) := by decide +kernel
theorem dX12_crowd_27 : decode cX12_crowd 27 = .ok (.iconst 0, 1) := by decide +kernel
theorem dX12_crowd_28 : decode cX12_crowd 28 = .ok (.iload_n 3, 1) := by decide +kernel
theorem dX12_crowd_29 : decode cX12_crowd 29 = .ok (.iconst 1, 1) := by decide +kernel
theorem dX12_crowd_30 : decode cX12_crowd 30 = .ok (.isub, 1) := by decide +kernel
theorem dX12_crowd_31 : decode cX12_crowd 31 = .ok (.invokestatic 81, 3) := by decide +kernel
theorem dX12_crowd_34 : decode cX12_crowd 34 = .ok (.ifCond .eq 12, 3) := by decide +kernel
theorem dX12_crowd_37 : decode cX12_crowd 37 = .ok (.aload_n 0, 1) := by decide +kernel
theorem dX12_crowd_38 : decode cX12_crowd 38 = .ok (.getfield 65, 3) := by decide +kernel
theorem dX12_crowd_41 : decode cX12_crowd 41 = .ok (.iload_n 2, 1) := by decide +kernel
theorem dX12_crowd_42 : decode cX12_crowd 42 = .ok (.iaload, 1) := by decide +kernel
theorem dX12_crowd_43 : decode cX12_crowd 43 = .ok (.goto 5, 3) := by decide +kernel
theorem dX12_crowd_46 : decode cX12_crowd 46 = .ok (.bipush (-2), 2) := by decide +kernel
theorem dX12_crowd_48 : decode cX12_crowd 48 = .ok (.ireturn, 1) := by decide +kernel
theorem dX12_who_0 : decode cX12_who 0 = .ok (.aload_n 0, 1) := by decide +kernel
theorem dX12_who_1 : decode cX12_who 1 = .ok (.iload_n 1, 1) := by decide +kernel
theorem dX12_who_2 : decode cX12_who 2 = .ok (.invokevirtual 333, 3) := by decide +kernel
theorem dX12_who_5 : decode cX12_who 5 = .ok (.ifCond .eq 13, 3) := by decide +kernel
theorem dX12_who_8 : decode cX12_who 8 = .ok (.iload_n 1, 1) := by decide +kernel
theorem dX12_who_9 : decode cX12_who 9 = .ok (.aload_n 0, 1) := by decide +kernel
theorem dX12_who_10 : decode cX12_who 10 = .ok (.getfield 13, 3) := by decide +kernel
theorem dX12_who_13 : decode cX12_who 13 = .ok (.iconst 0, 1) := by decide +kernel
theorem dX12_who_14 : decode cX12_who 14 = .ok (.iaload, 1) := by decide +kernel
theorem dX12_who_15 : decode cX12_who 15 = .ok (.if_icmp .lt 7, 3) := by decide +kernel
theorem dX12_who_18 : decode cX12_who 18 = .ok (.ldc2_w 455, 3) := by decide +kernel
theorem dX12_who_21 : decode cX12_who 21 = .ok (.lreturn, 1) := by decide +kernel
theorem dX12_who_22 : decode cX12_who 22 = .ok (.aload_n 0, 1) := by decide +kernel
theorem dX12_who_23 : decode cX12_who 23 = .ok (.getfield 7, 3) := by decide +kernel
theorem dX12_who_26 : decode cX12_who 26 = .ok (.bipush 11, 2) := by decide +kernel
theorem dX12_who_28 : decode cX12_who 28 = .ok (.iload_n 1, 1) := by decide +kernel
theorem dX12_who_29 : decode cX12_who 29 = .ok (.iadd, 1) := by decide +kernel
theorem dX12_who_30 : decode cX12_who 30 = .ok (.iaload, 1) := by decide +kernel
theorem dX12_who_31 : decode cX12_who 31 = .ok (.istore_n 2, 1) := by decide +kernel
theorem dX12_who_32 : decode cX12_who 32 = .ok (.aload_n 0, 1) := by decide +kernel
theorem dX12_who_33 : decode cX12_who 33 = .ok (.getfield 13, 3) := by decide +kernel
theorem dX12_who_36 : decode cX12_who 36 = .ok (.bipush 11, 2) := by decide +kernel
theorem dX12_who_38 : decode cX12_who 38 = .ok (.iload_n 1, 1) := by decide +kernel
theorem dX12_who_39 : decode cX12_who 39 = .ok (.iadd, 1) := by decide +kernel
theorem dX12_who_40 : decode cX12_who 40 = .ok (.iaload, 1) := by decide +kernel
theorem dX12_who_41 : decode cX12_who 41 = .ok (.iload_n 2, 1) := by decide +kernel
theorem dX12_who_42 : decode cX12_who 42 = .ok (.isub, 1) := by decide +kernel
theorem dX12_who_43 : decode cX12_who 43 = .ok (.istore_n 3, 1) := by decide +kernel
theorem dX12_who_44 : decode cX12_who 44 = .ok (.aload_n 0, 1) := by decide +kernel
theorem dX12_who_45 : decode cX12_who 45 = .ok (.getfield 7, 3) := by decide +kernel
theorem dX12_who_48 : decode cX12_who 48 = .ok (.bipush 11, 2) := by decide +kernel
theorem dX12_who_50 : decode cX12_who 50 = .ok (.iload_n 1, 1) := by decide +kernel
theorem dX12_who_51 : decode cX12_who 51 = .ok (.iadd, 1) := by decide +kernel
theorem dX12_who_52 : decode cX12_who 52 = .ok (.aload_n 0, 1) := by decide +kernel
theorem dX12_who_53 : decode cX12_who 53 = .ok (.getfield 13, 3) := by decide +kernel
theorem dX12_who_56 : decode cX12_who 56 = .ok (.bipush 11, 2) := by decide +kernel
theorem dX12_who_58 : decode cX12_who 58 = .ok (.iload_n 1, 1) := by decide +kernel
theorem dX12_who_59 : decode cX12_who 59 = .ok (.iadd, 1) := by decide +kernel
theorem dX12_who_60 : decode cX12_who 60 = .ok (.iaload, 1) := by decide +kernel
theorem dX12_who_61 : decode cX12_who 61 = .ok (.iastore, 1) := by decide +kernel
theorem dX12_who_62 : decode cX12_who 62 = .ok (.iconst 0, 1) := by decide +kernel
theorem dX12_who_63 : decode cX12_who 63 = .ok (.istore 4, 2) := by decide +kernel
theorem dX12_who_65 : decode cX12_who 65 = .ok (.iload 4, 2) := by decide +kernel
theorem dX12_who_67 : decode cX12_who 67 = .ok (.aload_n 0, 1) := by decide +kernel
theorem dX12_who_68 : decode cX12_who 68 = .ok (.getfield 7, 3) := by decide +kernel
theorem dX12_who_71 : decode cX12_who 71 = .ok (.iconst 1, 1) := by decide +kernel
theorem dX12_who_72 : decode cX12_who 72 = .ok (.iaload, 1) := by decide +kernel
theorem dX12_who_73 : decode cX12_who 73 = .ok (.if_icmp .ge 29, 3) := by decide +kernel
theorem dX12_who_76 : decode cX12_who 76 = .ok (.aload_n 0, 1) := by decide +kernel
theorem dX12_who_77 : decode cX12_who 77 = .ok (.getfield 62, 3) := by decide +kernel
theorem dX12_who_80 : decode cX12_who 80 = .ok (.iload 4, 2) := by decide +kernel
theorem dX12_who_82 : decode cX12_who 82 = .ok (.aload_n 0, 1) := by decide +kernel
theorem dX12_who_83 : decode cX12_who 83 = .ok (.aload_n 0, 1) := by decide +kernel
theorem dX12_who_84 : decode cX12_who 84 = .ok (.getfield 7, 3) := by decide +kernel
theorem dX12_who_87 : decode cX12_who 87 = .ok (.iconst 3, 1) := by decide +kernel
theorem dX12_who_88 : decode cX12_who 88 = .ok (.iaload, 1) := by decide +kernel
theorem dX12_who_89 : decode cX12_who 89 = .ok (.iload 4, 2) := by decide +kernel
theorem dX12_who_91 : decode cX12_who 91 = .ok (.iload_n 1, 1) := by decide +kernel
theorem dX12_who_92 : decode cX12_who 92 = .ok (.invokevirtual 327, 3) := by decide +kernel
theorem dX12_who_95 : decode cX12_who 95 = .ok (.iastore, 1) := by decide +kernel
theorem dX12_who_96 : decode cX12_who 96 = .ok (.iinc 4 1, 3) := by decide +kernel
theorem dX12_who_99 : decode cX12_who 99 = .ok (.goto (-34), 3) := by decide +kernel
theorem dX12_who_102 : decode cX12_who 102 = .ok (.aload_n 0, 1) := by decide +kernel
theorem dX12_who_103 : decode cX12_who 103 = .ok (.getfield 7, 3) := by decide +kernel
theorem dX12_who_106 : decode cX12_who 106 = .ok (.bipush 11, 2) := by decide +kernel
theorem dX12_who_108 : decode cX12_who 108 = .ok (.iload_n 1, 1) := by decide +kernel
theorem dX12_who_109 : decode cX12_who 109 = .ok (.iadd, 1) := by decide +kernel
theorem dX12_who_110 : decode cX12_who 110 = .ok (.iload_n 2, 1) := by decide +kernel
theorem dX12_who_111 : decode cX12_who 111 = .ok (.iastore, 1) := by decide +kernel
theorem dX12_who_112 : decode cX12_who 112 = .ok (.lconst 0, 1) := by decide +kernel
theorem dX12_who_113 : decode cX12_who 113 = .ok (.lstore 4, 2) := by decide +kernel
theorem dX12_who_115 : decode cX12_who 115 = .ok (.iconst 0, 1) := by decide +kernel
theorem dX12_who_116 : decode cX12_who 116 = .ok (.istore 6, 2) := by decide +kernel
theorem dX12_who_118 : decode cX12_who 118 = .ok (.iload 6, 2) := by decide +kernel
theorem dX12_who_120 : decode cX12_who 120 = .ok (.iconst 1, 1) := by decide +kernel
theorem dX12_who_121 : decode cX12_who 121 = .ok (.iconst 2, 1) := by decide +kernel
theorem dX12_who_122 : decode cX12_who 122 = .ok (.aload_n 0, 1) := by decide +kernel
theorem dX12_who_123 : decode cX12_who 123 = .ok (.getfield 7, 3) := by decide +kernel
theorem dX12_who_126 : decode cX12_who 126 = .ok (.iconst 1, 1) := by decide +kernel
theorem dX12_who_127 : decode cX12_who 127 = .ok (.iaload, 1) := by decide +kernel
theorem dX12_who_128 : decode cX12_who 128 = .ok (.imul, 1) := by decide +kernel
theorem dX12_who_129 : decode cX12_who 129 = .ok (.ishl, 1) := by decide +kernel
theorem dX12_who_130 : decode cX12_who 130 = .ok (.if_icmp .ge 70, 3) := by decide +kernel
theorem dX12_who_133 : decode cX12_who 133 = .ok (.iconst 0, 1) := by decide +kernel
theorem dX12_who_134 : decode cX12_who 134 = .ok (.istore 7, 2) := by decide +kernel
theorem dX12_who_136 : decode cX12_who 136 = .ok (.iconst 0, 1) := by decide +kernel
theorem dX12_who_137 : decode cX12_who 137 = .ok (.istore 8, 2) := by decide +kernel
theorem dX12_who_139 : decode cX12_who 139 = .ok (.iload 8, 2) := by decide +kernel
theorem dX12_who_141 : decode cX12_who 141 = .ok (.aload_n 0, 1) := by decide +kernel
theorem dX12_who_142 : decode cX12_who 142 = .ok (.getfield 7, 3) := by decide +kernel
theorem dX12_who_145 : decode cX12_who 145 = .ok (.iconst 1, 1) := by decide +kernel
theorem dX12_who_146 : decode cX12_who 146 = .ok (.iaload, 1) := by decide +kernel
theorem dX12_who_147 : decode cX12_who 147 = .ok (.if_icmp .ge 31, 3) := by decide +kernel
theorem dX12_who_150 : decode cX12_who 150 = .ok (.iload 7, 2) := by decide +kernel
theorem dX12_who_152 : decode cX12_who 152 = .ok (.iload 6, 2) := by decide +kernel
theorem dX12_who_154 : decode cX12_who 154 = .ok (.iconst 2, 1) := by decide +kernel
theorem dX12_who_155 : decode cX12_who 155 = .ok (.iload 8, 2) := by decide +kernel
theorem dX12_who_157 : decode cX12_who 157 = .ok (.imul, 1) := by decide +kernel
theorem dX12_who_158 : decode cX12_who 158 = .ok (.ishr, 1) := by decide +kernel
theorem dX12_who_159 : decode cX12_who 159 = .ok (.iconst 3, 1) := by decide +kernel
theorem dX12_who_160 : decode cX12_who 160 = .ok (.iand, 1) := by decide +kernel
theorem dX12_who_161 : decode cX12_who 161 = .ok (.aload_n 0, 1) := by decide +kernel
theorem dX12_who_162 : decode cX12_who 162 = .ok (.getfield 62, 3) := by decide +kernel
theorem dX12_who_165 : decode cX12_who 165 = .ok (.iload 8, 2) := by decide +kernel
theorem dX12_who_167 : decode cX12_who 167 = .ok (.iaload, 1) := by decide +kernel
theorem dX12_who_168 : decode cX12_who 168 = .ok (.imul, 1) := by decide +kernel
theorem dX12_who_169 : decode cX12_who 169 = .ok (.iadd, 1) := by decide +kernel
theorem dX12_who_170 : decode cX12_who 170 = .ok (.istore 7, 2) := by decide +kernel
theorem dX12_who_172 : decode cX12_who 172 = .ok (.iinc 8 1, 3) := by decide +kernel
theorem dX12_who_175 : decode cX12_who 175 = .ok (.goto (-36), 3) := by decide +kernel
theorem dX12_who_178 : decode cX12_who 178 = .ok (.lload 4, 2) := by decide +kernel
theorem dX12_who_180 : decode cX12_who 180 = .ok (.iload 7, 2) := by decide +kernel
theorem dX12_who_182 : decode cX12_who 182 = .ok (.iload_n 3, 1) := by decide +kernel
theorem dX12_who_183 : decode cX12_who 183 = .ok (.if_icmp .ne 7, 3) := by decide +kernel
theorem dX12_who_186 : decode cX12_who 186 = .ok (.lconst 1, 1) := by decide +kernel
theorem dX12_who_187 : decode cX12_who 187 = .ok (.goto 4, 3) := by decide +kernel
theorem dX12_who_190 : decode cX12_who 190 = .ok (.lconst 0, 1) := by decide +kernel
theorem dX12_who_191 : decode cX12_who 191 = .ok (.ladd, 1) := by decide +kernel
theorem dX12_who_192 : decode cX12_who 192 = .ok (.lstore 4, 2) := by decide +kernel
theorem dX12_who_194 : decode cX12_who 194 = .ok (.iinc 6 1, 3) := by decide +kernel
theorem dX12_who_197 : decode cX12_who 197 = .ok (.goto (-79), 3) := by decide +kernel
theorem dX12_who_200 : decode cX12_who 200 = .ok (.lload 4, 2) := by decide +kernel
theorem dX12_who_202 : decode cX12_who 202 = .ok (.lreturn, 1) := by decide +kernel
theorem dX12_roadsAt_0 : decode cX12_roadsAt 0 = .ok (.iconst 0, 1) := by decide +kernel
theorem dX12_roadsAt_1 : decode cX12_roadsAt 1 = .ok (.istore_n 2, 1) := by decide +kernel
theorem dX12_roadsAt_2 : decode cX12_roadsAt 2 = .ok (.iconst 0, 1) := by decide +kernel
theorem dX12_roadsAt_3 : decode cX12_roadsAt 3 = .ok (.istore_n 3, 1) := by decide +kernel
theorem dX12_roadsAt_4 : decode cX12_roadsAt 4 = .ok (.iload_n 3, 1) := by decide +kernel
theorem dX12_roadsAt_5 : decode cX12_roadsAt 5 = .ok (.aload_n 0, 1) := by decide +kernel
theorem dX12_roadsAt_6 : decode cX12_roadsAt 6 = .ok (.getfield 7, 3) := by decide +kernel
theorem dX12_roadsAt_9 : decode cX12_roadsAt 9 = .ok (.iconst 0, 1) := by decide +kernel
theorem dX12_roadsAt_10 : decode cX12_roadsAt 10 = .ok (.iaload, 1) := by decide +kernel
theorem dX12_roadsAt_11 : decode cX12_roadsAt 11 = .ok (.if_icmp .ge 35, 3) := by decide +kernel
theorem dX12_roadsAt_14 : decode cX12_roadsAt 14 = .ok (.iload_n 2, 1) := by decide +kernel
theorem dX12_roadsAt_15 : decode cX12_roadsAt 15 = .ok (.aload_n 0, 1) := by decide +kernel
theorem dX12_roadsAt_16 : decode cX12_roadsAt 16 = .ok (.iload_n 3, 1) := by decide +kernel
theorem dX12_roadsAt_17 : decode cX12_roadsAt 17 = .ok (.invokevirtual 431, 3) := by decide +kernel
theorem dX12_roadsAt_20 : decode cX12_roadsAt 20 = .ok (.ifCond .eq 17, 3) := by decide +kernel
theorem dX12_roadsAt_23 : decode cX12_roadsAt 23 = .ok (.aload_n 0, 1) := by decide +kernel
theorem dX12_roadsAt_24 : decode cX12_roadsAt 24 = .ok (.iload_n 3, 1) := by decide +kernel
theorem dX12_roadsAt_25 : decode cX12_roadsAt 25 = .ok (.iload_n 1, 1) := by decide +kernel
theorem dX12_roadsAt_26 : decode cX12_roadsAt 26 = .ok (.invokevirtual 339, 3) := by decide +kernel
theorem dX12_roadsAt_29 : decode cX12_roadsAt 29 = .ok (.iconst (-1), 1) := by decide +kernel
theorem dX12_roadsAt_30 : decode cX12_roadsAt 30 = .ok (.if_icmp .eq 7, 3) := by decide +kernel
theorem dX12_roadsAt_33 : decode cX12_roadsAt 33 = .ok (.iconst 1, 1) := by decide +kernel
theorem dX12_roadsAt_34 : decode cX12_roadsAt 34 = .ok (.goto 4, 3) := by decide +kernel
theorem dX12_roadsAt_37 : decode cX12_roadsAt 37 = .ok (.iconst 0, 1) := by decide +kernel
theorem dX12_roadsAt_38 : decode cX12_roadsAt 38 = .ok (.iadd, 1) := by decide +kernel
theorem dX12_roadsAt_39 : decode cX12_roadsAt 39 = .ok (.istore_n 2, 1) := by decide +kernel
theorem dX12_roadsAt_40 : decode cX12_roadsAt 40 = .ok (.iinc 3 1, 3) := by decide +kernel
theorem dX12_roadsAt_43 : decode cX12_roadsAt 43 = .ok (.goto (-39), 3) := by decide +kernel
theorem dX12_roadsAt_46 : decode cX12_roadsAt 46 = .ok (.iload_n 2, 1) := by decide +kernel
theorem dX12_roadsAt_47 : decode cX12_roadsAt 47 = .ok (.ireturn, 1) := by decide +kernel
theorem dX12_goAny_0 : decode cX12_goAny 0 = .ok (.iconst 0, 1) := by decide +kernel
theorem dX12_goAny_1 : decode cX12_goAny 1 = .ok (.istore_n 1, 1) := by decide +kernel
theorem dX12_goAny_2 : decode cX12_goAny 2 = .ok (.iload_n 1, 1) := by decide +kernel
theorem dX12_goAny_3 : decode cX12_goAny 3 = .ok (.bipush 8, 2) := by decide +kernel
theorem dX12_goAny_5 : decode cX12_goAny 5 = .ok (.if_icmp .ge 16, 3) := by decide +kernel
theorem dX12_goAny_8 : decode cX12_goAny 8 = .ok (.aload_n 0, 1) := by decide +kernel
theorem dX12_goAny_9 : decode cX12_goAny 9 = .ok (.getfield 74, 3) := by decide +kernel
theorem dX12_goAny_12 : decode cX12_goAny 12 = .ok (.iload_n 1, 1) := by decide +kernel
theorem dX12_goAny_13 : decode cX12_goAny 13 = .ok (.lconst 0, 1) := by decide +kernel
theorem dX12_goAny_14 : decode cX12_goAny 14 = .ok (.lastore, 1) := by decide +kernel
theorem dX12_goAny_15 : decode cX12_goAny 15 = .ok (.iinc 1 1, 3) := by decide +kernel
theorem dX12_goAny_18 : decode cX12_goAny 18 = .ok (.goto (-16), 3) := by decide +kernel
theorem dX12_goAny_21 : decode cX12_goAny 21 = .ok (.iconst 0, 1) := by decide +kernel
theorem dX12_goAny_22 : decode cX12_goAny 22 = .ok (.istore_n 1, 1) := by decide +kernel
theorem dX12_goAny_23 : decode cX12_goAny 23 = .ok (.iload_n 1, 1) := by decide +kernel
theorem dX12_goAny_24 : decode cX12_goAny 24 = .ok (.bipush 8, 2) := by decide +kernel
theorem dX12_goAny_26 : decode cX12_goAny 26 = .ok (.if_icmp .ge 101, 3) := by decide +kernel
theorem dX12_goAny_29 : decode cX12_goAny 29 = .ok (.aload_n 0, 1) := by decide +kernel
theorem dX12_goAny_30 : decode cX12_goAny 30 = .ok (.iload_n 1, 1) := by decide +kernel
theorem dX12_goAny_31 : decode cX12_goAny 31 = .ok (.invokevirtual 457, 3) := by decide +kernel
theorem dX12_goAny_34 : decode cX12_goAny 34 = .ok (.istore_n 2, 1) := by decide +kernel
theorem dX12_goAny_35 : decode cX12_goAny 35 = .ok (.iload_n 2, 1) := by decide +kernel
theorem dX12_goAny_36 : decode cX12_goAny 36 = .ok (.ifCond .ne 22, 3) := by decide +kernel
theorem dX12_goAny_39 : decode cX12_goAny 39 = .ok (.aload_n 0, 1) := by decide +kernel
theorem dX12_goAny_40 : decode cX12_goAny 40 = .ok (.getfield 74, 3) := by decide +kernel
theorem dX12_goAny_43 : decode cX12_goAny 43 = .ok (.iload_n 1, 1) := by decide +kernel
theorem dX12_goAny_44 : decode cX12_goAny 44 = .ok (.dup2, 1) := by decide +kernel
theorem dX12_goAny_45 : decode cX12_goAny 45 = .ok (.laload, 1) := by decide +kernel
theorem dX12_goAny_46 : decode cX12_goAny 46 = .ok (.aload_n 0, 1) := by decide +kernel
theorem dX12_goAny_47 : decode cX12_goAny 47 = .ok (.getfield 71, 3) := by decide +kernel
theorem dX12_goAny_50 : decode cX12_goAny 50 = .ok (.iload_n 1, 1) := by decide +kernel
theorem dX12_goAny_51 : decode cX12_goAny 51 = .ok (.laload, 1) := by decide +kernel
theorem dX12_goAny_52 : decode cX12_goAny 52 = .ok (.ldc2_w 460, 3) := by decide +kernel
theorem dX12_goAny_55 : decode cX12_goAny 55 = .ok (.lmul, 1) := by decide +kernel
theorem dX12_goAny_56 : decode cX12_goAny 56 = .ok (.ladd, 1) := by decide +kernel
theorem dX12_goAny_57 : decode cX12_goAny 57 = .ok (.lastore, 1) := by decide +kernel
theorem dX12_goAny_58 : decode cX12_goAny 58 = .ok (.iconst 0, 1) := by decide +kernel
theorem dX12_goAny_59 : decode cX12_goAny 59 = .ok (.istore_n 3, 1) := by decide +kernel
theorem dX12_goAny_60 : decode cX12_goAny 60 = .ok (.iload_n 3, 1) := by decide +kernel
theorem dX12_goAny_61 : decode cX12_goAny 61 = .ok (.aload_n 0, 1) := by decide +kernel
theorem dX12_goAny_62 : decode cX12_goAny 62 = .ok (.getfield 7, 3) := by decide +kernel
theorem dX12_goAny_65 : decode cX12_goAny 65 = .ok (.iconst 0, 1) := by decide +kernel
theorem dX12_goAny_66 : decode cX12_goAny 66 = .ok (.iaload, 1) := by decide +kernel
theorem dX12_goAny_67 : decode cX12_goAny 67 = .ok (.if_icmp .ge 54, 3) := by decide +kernel
theorem dX12_goAny_70 : decode cX12_goAny 70 = .ok (.aload_n 0, 1) := by decide +kernel
theorem dX12_goAny_71 : decode cX12_goAny 71 = .ok (.iload_n 3, 1) := by decide +kernel
theorem dX12_goAny_72 : decode cX12_goAny 72 = .ok (.invokevirtual 431, 3) := by decide +kernel
theorem dX12_goAny_75 : decode cX12_goAny 75 = .ok (.ifCond .eq 40, 3) := by decide +kernel
theorem dX12_goAny_78 : decode cX12_goAny 78 = .ok (.aload_n 0, 1) := by decide +kernel
theorem dX12_goAny_79 : decode cX12_goAny 79 = .ok (.iload_n 3, 1) := by decide +kernel
theorem dX12_goAny_80 : decode cX12_goAny 80 = .ok (.iload_n 1, 1) := by decide +kernel
theorem dX12_goAny_81 : decode cX12_goAny 81 = .ok (.invokevirtual 339, 3) := by decide +kernel
theorem dX12_goAny_84 : decode cX12_goAny 84 = .ok (.iconst (-1), 1) := by decide +kernel
theorem dX12_goAny_85 : decode cX12_goAny 85 = .ok (.if_icmp .eq 30, 3) := by decide +kernel
theorem dX12_goAny_88 : decode cX12_goAny 88 = .ok (.aload_n 0, 1) := by decide +kernel
theorem dX12_goAny_89 : decode cX12_goAny 89 = .ok (.getfield 74, 3) := by decide +kernel
theorem dX12_goAny_92 : decode cX12_goAny 92 = .ok (.aload_n 0, 1) := by decide +kernel
theorem dX12_goAny_93 : decode cX12_goAny 93 = .ok (.iload_n 3, 1) := by decide +kernel
theorem dX12_goAny_94 : decode cX12_goAny 94 = .ok (.iload_n 1, 1) := by decide +kernel
theorem dX12_goAny_95 : decode cX12_goAny 95 = .ok (.invokevirtual 339, 3) := by decide +kernel
theorem dX12_goAny_98 : decode cX12_goAny 98 = .ok (.dup2, 1) := by decide +kernel
theorem dX12_goAny_99 : decode cX12_goAny 99 = .ok (.laload, 1) := by decide +kernel
theorem dX12_goAny_100 : decode cX12_goAny 100 = .ok (.aload_n 0, 1) := by decide +kernel
theorem dX12_goAny_101 : decode cX12_goAny 101 = .ok (.getfield 71, 3) := by decide +kernel
theorem dX12_goAny_104 : decode cX12_goAny 104 = .ok (.iload_n 1, 1) := by decide +kernel
theorem dX12_goAny_105 : decode cX12_goAny 105 = .ok (.laload, 1) := by decide +kernel
theorem dX12_goAny_106 : decode cX12_goAny 106 = .ok (.ldc2_w 460, 3) := by decide +kernel
theorem dX12_goAny_109 : decode cX12_goAny 109 = .ok (.iload_n 2, 1) := by decide +kernel
theorem dX12_goAny_110 : decode cX12_goAny 110 = .ok (.i2l, 1) := by decide +kernel
theorem dX12_goAny_111 : decode cX12_goAny 111 = .ok (.ldiv, 1) := by decide +kernel
theorem dX12_goAny_112 : decode cX12_goAny 112 = .ok (.lmul, 1) := by decide +kernel
theorem dX12_goAny_113 : decode cX12_goAny 113 = .ok (.ladd, 1) := by decide +kernel
theorem dX12_goAny_114 : decode cX12_goAny 114 = .ok (.lastore, 1) := by decide +kernel
theorem dX12_goAny_115 : decode cX12_goAny 115 = .ok (.iinc 3 1, 3) := by decide +kernel
theorem dX12_goAny_118 : decode cX12_goAny 118 = .ok (.goto (-58), 3) := by decide +kernel
theorem dX12_goAny_121 : decode cX12_goAny 121 = .ok (.iinc 1 1, 3) := by decide +kernel
theorem dX12_goAny_124 : decode cX12_goAny 124 = .ok (.goto (-101), 3) := by decide +kernel
theorem dX12_goAny_127 : decode cX12_goAny 127 = .ok (.iconst 0, 1) := by decide +kernel
theorem dX12_goAny_128 : decode cX12_goAny 128 = .ok (.istore_n 1, 1) := by decide +kernel
theorem dX12_goAny_129 : decode cX12_goAny 129 = .ok (.iload_n 1, 1) := by decide +kernel
theorem dX12_goAny_130 : decode cX12_goAny 130 = .ok (.bipush 8, 2) := by decide +kernel
theorem dX12_goAny_132 : decode cX12_goAny 132 = .ok (.if_icmp .ge 21, 3) := by decide +kernel
theorem dX12_goAny_135 : decode cX12_goAny 135 = .ok (.aload_n 0, 1) := by decide +kernel
theorem dX12_goAny_136 : decode cX12_goAny 136 = .ok (.getfield 71, 3) := by decide +kernel
theorem dX12_goAny_139 : decode cX12_goAny 139 = .ok (.iload_n 1, 1) := by decide +kernel
theorem dX12_goAny_140 : decode cX12_goAny 140 = .ok (.aload_n 0, 1) := by decide +kernel
theorem dX12_goAny_141 : decode cX12_goAny 141 = .ok (.getfield 74, 3) := by decide +kernel
theorem dX12_goAny_144 : decode cX12_goAny 144 = .ok (.iload_n 1, 1) := by decide +kernel
theorem dX12_goAny_145 : decode cX12_goAny 145 = .ok (.laload, 1) := by decide +kernel
theorem dX12_goAny_146 : decode cX12_goAny 146 = .ok (.lastore, 1) := by decide +kernel
theorem dX12_goAny_147 : decode cX12_goAny 147 = .ok (.iinc 1 1, 3) := by decide +kernel
theorem dX12_goAny_150 : decode cX12_goAny 150 = .ok (.goto (-21), 3) := by decide +kernel
theorem dX12_goAny_153 : decode cX12_goAny 153 = .ok (.return_, 1) := by decide +kernel
theorem dX12_likely_0 : decode cX12_likely 0 = .ok (.iload_n 1, 1) := by decide +kernel
theorem dX12_likely_1 : decode cX12_likely 1 = .ok (.invokestatic 89, 3) := by decide +kernel
theorem dX12_likely_4 : decode cX12_likely 4 = .ok (.ifCond .eq 19, 3) := by decide +kernel
theorem dX12_likely_7 : decode cX12_likely 7 = .ok (.iload_n 3, 1) := by decide +kernel
theorem dX12_likely_8 : decode cX12_likely 8 = .ok (.invokestatic 89, 3) := by decide +kernel
theorem dX12_likely_11 : decode cX12_likely 11 = .ok (.ifCond .eq 12, 3) := by decide +kernel
theorem dX12_likely_14 : decode cX12_likely 14 = .ok (.iload_n 2, 1) := by decide +kernel
theorem dX12_likely_15 : decode cX12_likely 15 = .ok (.iconst 0, 1) := by decide +kernel
theorem dX12_likely_16 : decode cX12_likely 16 = .ok (.iconst 3, 1) := by decide +kernel
theorem dX12_likely_17 : decode cX12_likely 17 = .ok (.invokestatic 81, 3) := by decide +kernel
theorem dX12_likely_20 : decode cX12_likely 20 = .ok (.ifCond .ne 7, 3) := by decide +kernel
theorem dX12_likely_23 : decode cX12_likely 23 = .ok (.ldc2_w 455, 3) := by decide +kernel
theorem dX12_likely_26 : decode cX12_likely 26 = .ok (.lreturn, 1) := by decide +kernel
theorem dX12_likely_27 : decode cX12_likely 27 = .ok (.iconst 0, 1) := by decide +kernel
theorem dX12_likely_28 : decode cX12_likely 28 = .ok (.istore 5, 2) := by decide +kernel
theorem dX12_likely_30 : decode cX12_likely 30 = .ok (.iload 5, 2) := by decide +kernel
theorem dX12_likely_32 : decode cX12_likely 32 = .ok (.bipush 8, 2) := by decide +kernel
theorem dX12_likely_34 : decode cX12_likely 34 = .ok (.if_icmp .ge 27, 3) := by decide +kernel
theorem dX12_likely_37 : decode cX12_likely 37 = .ok (.aload_n 0, 1) := by decide +kernel
theorem dX12_likely_38 : decode cX12_likely 38 = .ok (.getfield 71, 3) := by decide +kernel
theorem dX12_likely_41 : decode cX12_likely 41 = .ok (.iload 5, 2) := by decide +kernel
theorem dX12_likely_43 : decode cX12_likely 43 = .ok (.iload 5, 2) := by decide +kernel
theorem dX12_likely_45 : decode cX12_likely 45 = .ok (.iload_n 1, 1) := by decide +kernel
theorem dX12_likely_46 : decode cX12_likely 46 = .ok (.if_icmp .ne 7, 3) := by decide +kernel
theorem dX12_likely_49 : decode cX12_likely 49 = .ok (.lconst 1, 1) := by decide +kernel
theorem dX12_likely_50 : decode cX12_likely 50 = .ok (.goto 4, 3) := by decide +kernel
theorem dX12_likely_53 : decode cX12_likely 53 = .ok (.lconst 0, 1) := by decide +kernel
theorem dX12_likely_54 : decode cX12_likely 54 = .ok (.lastore, 1) := by decide +kernel
theorem dX12_likely_55 : decode cX12_likely 55 = .ok (.iinc 5 1, 3) := by decide +kernel
theorem dX12_likely_58 : decode cX12_likely 58 = .ok (.goto (-28), 3) := by decide +kernel
theorem dX12_likely_61 : decode cX12_likely 61 = .ok (.lconst 1, 1) := by decide +kernel
theorem dX12_likely_62 : decode cX12_likely 62 = .ok (.lstore 5, 2) := by decide +kernel
theorem dX12_likely_64 : decode cX12_likely 64 = .ok (.iconst 0, 1) := by decide +kernel
theorem dX12_likely_65 : decode cX12_likely 65 = .ok (.istore 7, 2) := by decide +kernel
theorem dX12_likely_67 : decode cX12_likely 67 = .ok (.iload 7, 2) := by decide +kernel
theorem dX12_likely_69 : decode cX12_likely 69 = .ok (.iload_n 2, 1) := by decide +kernel
theorem dX12_likely_70 : decode cX12_likely 70 = .ok (.if_icmp .ge 21, 3) := by decide +kernel
theorem dX12_likely_73 : decode cX12_likely 73 = .ok (.aload_n 0, 1) := by decide +kernel
theorem dX12_likely_74 : decode cX12_likely 74 = .ok (.invokevirtual 462, 3) := by decide +kernel
theorem dX12_likely_77 : decode cX12_likely 77 = .ok (.lload 5, 2) := by decide +kernel
theorem dX12_likely_79 : decode cX12_likely 79 = .ok (.ldc2_w 460, 3) := by decide +kernel
theorem dX12_likely_82 : decode cX12_likely 82 = .ok (.lmul, 1) := by decide +kernel
theorem dX12_likely_83 : decode cX12_likely 83 = .ok (.lstore 5, 2) := by decide +kernel
theorem dX12_likely_85 : decode cX12_likely 85 = .ok (.iinc 7 1, 3) := by decide +kernel
theorem dX12_likely_88 : decode cX12_likely 88 = .ok (.goto (-21), 3) := by decide +kernel
theorem dX12_likely_91 : decode cX12_likely 91 = .ok (.iload 4, 2) := by decide +kernel
theorem dX12_likely_93 : decode cX12_likely 93 = .ok (.ifCond .eq 8, 3) := by decide +kernel
theorem dX12_likely_96 : decode cX12_likely 96 = .ok (.lload 5, 2) := by decide +kernel
theorem dX12_likely_98 : decode cX12_likely 98 = .ok (.goto 9, 3) := by decide +kernel
theorem dX12_likely_101 : decode cX12_likely 101 = .ok (.aload_n 0, 1) := by decide +kernel
theorem dX12_likely_102 : decode cX12_likely 102 = .ok (.getfield 71, 3) := by decide +kernel
theorem dX12_likely_105 : decode cX12_likely 105 = .ok (.iload_n 3, 1) := by decide +kernel
theorem dX12_likely_106 : decode cX12_likely 106 = .ok (.laload, 1) := by decide +kernel
theorem dX12_likely_107 : decode cX12_likely 107 = .ok (.aload_n 0, 1) := by decide +kernel
theorem dX12_likely_108 : decode cX12_likely 108 = .ok (.getfield 71, 3) := by decide +kernel
theorem dX12_likely_111 : decode cX12_likely 111 = .ok (.iload_n 3, 1) := by decide +kernel
theorem dX12_likely_112 : decode cX12_likely 112 = .ok (.laload, 1) := by decide +kernel
theorem dX12_likely_113 : decode cX12_likely 113 = .ok (.lload 5, 2) := by decide +kernel
theorem dX12_likely_115 : decode cX12_likely 115 = .ok (.invokestatic 282, 3) := by decide +kernel
theorem dX12_likely_118 : decode cX12_likely 118 = .ok (.ldiv, 1) := by decide +kernel
theorem dX12_likely_119 : decode cX12_likely 119 = .ok (.lreturn, 1) := by decide +kernel
theorem dX12_said_0 : decode cX12_said 0 = .ok (.iload_n 1, 1) := by decide +kernel
theorem dX12_said_1 : decode cX12_said 1 = .ok (.iconst (-1), 1) := by decide +kernel
theorem dX12_said_2 : decode cX12_said 2 = .ok (.if_icmp .ne 12, 3) := by decide +kernel
theorem dX12_said_5 : decode cX12_said 5 = .ok (.aload_n 0, 1) := by decide +kernel
theorem dX12_said_6 : decode cX12_said 6 = .ok (.getfield 7, 3) := by decide +kernel
theorem dX12_said_9 : decode cX12_said 9 = .ok (.iconst 5, 1) := by decide +kernel
theorem dX12_said_10 : decode cX12_said 10 = .ok (.iconst 0, 1) := by decide +kernel
theorem dX12_said_11 : decode cX12_said 11 = .ok (.iastore, 1) := by decide +kernel
theorem dX12_said_12 : decode cX12_said 12 = .ok (.iconst 0, 1) := by decide +kernel
theorem dX12_said_13 : decode cX12_said 13 = .ok (.ireturn, 1) := by decide +kernel
theorem dX12_said_14 : decode cX12_said 14 = .ok (.aload_n 0, 1) := by decide +kernel
theorem dX12_said_15 : decode cX12_said 15 = .ok (.iload_n 1, 1) := by decide +kernel
theorem dX12_said_16 : decode cX12_said 16 = .ok (.invokevirtual 330, 3) := by decide +kernel
theorem dX12_said_19 : decode cX12_said 19 = .ok (.ifCond .eq 32, 3) := by decide +kernel
theorem dX12_said_22 : decode cX12_said 22 = .ok (.aload_n 0, 1) := by decide +kernel
theorem dX12_said_23 : decode cX12_said 23 = .ok (.iload_n 2, 1) := by decide +kernel
theorem dX12_said_24 : decode cX12_said 24 = .ok (.invokevirtual 333, 3) := by decide +kernel
theorem dX12_said_27 : decode cX12_said 27 = .ok (.ifCond .eq 24, 3) := by decide +kernel
theorem dX12_said_30 : decode cX12_said 30 = .ok (.iload_n 3, 1) := by decide +kernel
theorem dX12_said_31 : decode cX12_said 31 = .ok (.iconst 0, 1) := by decide +kernel
theorem dX12_said_32 : decode cX12_said 32 = .ok (.bipush 99, 2) := by decide +kernel
theorem dX12_said_34 : decode cX12_said 34 = .ok (.invokestatic 81, 3) := by decide +kernel
theorem dX12_said_37 : decode cX12_said 37 = .ok (.ifCond .eq 14, 3) := by decide +kernel
theorem dX12_said_40 : decode cX12_said 40 = .ok (.aload_n 0, 1) := by decide +kernel
theorem dX12_said_41 : decode cX12_said 41 = .ok (.getfield 7, 3) := by decide +kernel
theorem dX12_said_44 : decode cX12_said 44 = .ok (.iconst 5, 1) := by decide +kernel
theorem dX12_said_45 : decode cX12_said 45 = .ok (.iaload, 1) := by decide +kernel
theorem dX12_said_46 : decode cX12_said 46 = .ok (.bipush 8, 2) := by decide +kernel
theorem dX12_said_48 : decode cX12_said 48 = .ok (.if_icmp .ne 6, 3) := by decide +kernel
theorem dX12_said_51 : decode cX12_said 51 = .ok (.bipush (-2), 2) := by decide +kernel
theorem dX12_said_53 : decode cX12_said 53 = .ok (.ireturn, 1) := by decide +kernel
theorem dX12_said_54 : decode cX12_said 54 = .ok (.bipush 115, 2) := by decide +kernel
theorem dX12_said_56 : decode cX12_said 56 = .ok (.iconst 3, 1) := by decide +kernel
theorem dX12_said_57 : decode cX12_said 57 = .ok (.aload_n 0, 1) := by decide +kernel
theorem dX12_said_58 : decode cX12_said 58 = .ok (.getfield 7, 3) := by decide +kernel
theorem dX12_said_61 : decode cX12_said 61 = .ok (.iconst 5, 1) := by decide +kernel
theorem dX12_said_62 : decode cX12_said 62 = .ok (.iaload, 1) := by decide +kernel
theorem dX12_said_63 : decode cX12_said 63 = .ok (.imul, 1) := by decide +kernel
theorem dX12_said_64 : decode cX12_said 64 = .ok (.iadd, 1) := by decide +kernel
theorem dX12_said_65 : decode cX12_said 65 = .ok (.istore 4, 2) := by decide +kernel
theorem dX12_said_67 : decode cX12_said 67 = .ok (.aload_n 0, 1) := by decide +kernel
theorem dX12_said_68 : decode cX12_said 68 = .ok (.getfield 7, 3) := by decide +kernel
theorem dX12_said_71 : decode cX12_said 71 = .ok (.iload 4, 2) := by decide +kernel
theorem dX12_said_73 : decode cX12_said 73 = .ok (.iload_n 1, 1) := by decide +kernel
theorem dX12_said_74 : decode cX12_said 74 = .ok (.iastore, 1) := by decide +kernel
theorem dX12_said_75 : decode cX12_said 75 = .ok (.aload_n 0, 1) := by decide +kernel
theorem dX12_said_76 : decode cX12_said 76 = .ok (.getfield 7, 3) := by decide +kernel
theorem dX12_said_79 : decode cX12_said 79 = .ok (.iload 4, 2) := by decide +kernel
theorem dX12_said_81 : decode cX12_said 81 = .ok (.iconst 1, 1) := by decide +kernel
theorem dX12_said_82 : decode cX12_said 82 = .ok (.iadd, 1) := by decide +kernel
theorem dX12_said_83 : decode cX12_said 83 = .ok (.iload_n 2, 1) := by decide +kernel
theorem dX12_said_84 : decode cX12_said 84 = .ok (.iastore, 1) := by decide +kernel
theorem dX12_said_85 : decode cX12_said 85 = .ok (.aload_n 0, 1) := by decide +kernel
theorem dX12_said_86 : decode cX12_said 86 = .ok (.getfield 7, 3) := by decide +kernel
theorem dX12_said_89 : decode cX12_said 89 = .ok (.iload 4, 2) := by decide +kernel
theorem dX12_said_91 : decode cX12_said 91 = .ok (.iconst 2, 1) := by decide +kernel
theorem dX12_said_92 : decode cX12_said 92 = .ok (.iadd, 1) := by decide +kernel
theorem dX12_said_93 : decode cX12_said 93 = .ok (.iload_n 3, 1) := by decide +kernel
theorem dX12_said_94 : decode cX12_said 94 = .ok (.iastore, 1) := by decide +kernel
theorem dX12_said_95 : decode cX12_said 95 = .ok (.aload_n 0, 1) := by decide +kernel
theorem dX12_said_96 : decode cX12_said 96 = .ok (.getfield 7, 3) := by decide +kernel
theorem dX12_said_99 : decode cX12_said 99 = .ok (.iconst 5, 1) := by decide +kernel
theorem dX12_said_100 : decode cX12_said 100 = .ok (.dup2, 1) := by decide +kernel
theorem dX12_said_101 : decode cX12_said 101 = .ok (.iaload, 1) := by decide +kernel
theorem dX12_said_102 : decode cX12_said 102 = .ok (.iconst 1, 1) := by decide +kernel
theorem dX12_said_103 : decode cX12_said 103 = .ok (.iadd, 1) := by decide +kernel
theorem dX12_said_104 : decode cX12_said 104 = .ok (.iastore, 1) := by decide +kernel
theorem dX12_said_105 : decode cX12_said 105 = .ok (.aload_n 0, 1) := by decide +kernel
theorem dX12_said_106 : decode cX12_said 106 = .ok (.getfield 7, 3) := by decide +kernel
theorem dX12_said_109 : decode cX12_said 109 = .ok (.iconst 5, 1) := by decide +kernel
theorem dX12_said_110 : decode cX12_said 110 = .ok (.iaload, 1) := by decide +kernel
theorem dX12_said_111 : decode cX12_said 111 = .ok (.ireturn, 1) := by decide +kernel
theorem dX12_whose_0 : decode cX12_whose 0 = .ok (.iconst 0, 1) := by decide +kernel
theorem dX12_whose_1 : decode cX12_whose 1 = .ok (.istore_n 1, 1) := by decide +kernel
theorem dX12_whose_2 : decode cX12_whose 2 = .ok (.iconst 0, 1) := by decide +kernel
theorem dX12_whose_3 : decode cX12_whose 3 = .ok (.istore_n 2, 1) := by decide +kernel
theorem dX12_whose_4 : decode cX12_whose 4 = .ok (.iload_n 2, 1) := by decide +kernel
theorem dX12_whose_5 : decode cX12_whose 5 = .ok (.aload_n 0, 1) := by decide +kernel
theorem dX12_whose_6 : decode cX12_whose 6 = .ok (.getfield 7, 3) := by decide +kernel
theorem dX12_whose_9 : decode cX12_whose 9 = .ok (.iconst 2, 1) := by decide +kernel
theorem dX12_whose_10 : decode cX12_whose 10 = .ok (.iaload, 1) := by decide +kernel
theorem dX12_whose_11 : decode cX12_whose 11 = .ok (.if_icmp .ge 94, 3) := by decide +kernel
theorem dX12_whose_14 : decode cX12_whose 14 = .ok (.iconst 1, 1) := by decide +kernel
theorem dX12_whose_15 : decode cX12_whose 15 = .ok (.istore_n 3, 1) := by decide +kernel
theorem dX12_whose_16 : decode cX12_whose 16 = .ok (.bipush 115, 2) := by decide +kernel
theorem dX12_whose_18 : decode cX12_whose 18 = .ok (.istore 4, 2) := by decide +kernel
theorem dX12_whose_20 : decode cX12_whose 20 = .ok (.iload 4, 2) := by decide +kernel
theorem dX12_whose_22 : decode cX12_whose 22 = .ok (.bipush 115, 2) := by decide +kernel
theorem dX12_whose_24 : decode cX12_whose 24 = .ok (.iconst 3, 1) := by decide +kernel
theorem dX12_whose_25 : decode cX12_whose 25 = .ok (.aload_n 0, 1) := by decide +kernel
theorem dX12_whose_26 : decode cX12_whose 26 = .ok (.getfield 7, 3) := by decide +kernel
theorem dX12_whose_29 : decode cX12_whose 29 = .ok (.iconst 5, 1) := by decide +kernel
theorem dX12_whose_30 : decode cX12_whose 30 = .ok (.iaload, 1) := by decide +kernel
theorem dX12_whose_31 : decode cX12_whose 31 = .ok (.imul, 1) := by decide +kernel
theorem dX12_whose_32 : decode cX12_whose 32 = .ok (.iadd, 1) := by decide +kernel
theorem dX12_whose_33 : decode cX12_whose 33 = .ok (.if_icmp .ge 52, 3) := by decide +kernel
theorem dX12_whose_36 : decode cX12_whose 36 = .ok (.iload_n 3, 1) := by decide +kernel
theorem dX12_whose_37 : decode cX12_whose 37 = .ok (.ifCond .eq 40, 3) := by decide +kernel
theorem dX12_whose_40 : decode cX12_whose 40 = .ok (.aload_n 0, 1) := by decide +kernel
theorem dX12_whose_41 : decode cX12_whose 41 = .ok (.iload_n 2, 1) := by decide +kernel
theorem dX12_whose_42 : decode cX12_whose 42 = .ok (.aload_n 0, 1) := by decide +kernel
theorem dX12_whose_43 : decode cX12_whose 43 = .ok (.getfield 7, 3) := by decide +kernel
theorem dX12_whose_46 : decode cX12_whose 46 = .ok (.iload 4, 2) := by decide +kernel
theorem dX12_whose_48 : decode cX12_whose 48 = .ok (.iaload, 1) := by decide +kernel
theorem dX12_whose_49 : decode cX12_whose 49 = .ok (.aload_n 0, 1) := by decide +kernel
theorem dX12_whose_50 : decode cX12_whose 50 = .ok (.getfield 7, 3) := by decide +kernel
theorem dX12_whose_53 : decode cX12_whose 53 = .ok (.iload 4, 2) := by decide +kernel
theorem dX12_whose_55 : decode cX12_whose 55 = .ok (.iconst 1, 1) := by decide +kernel
theorem dX12_whose_56 : decode cX12_whose 56 = .ok (.iadd, 1) := by decide +kernel
theorem dX12_whose_57 : decode cX12_whose 57 = .ok (.iaload, 1) := by decide +kernel
theorem dX12_whose_58 : decode cX12_whose 58 = .ok (.invokevirtual 327, 3) := by decide +kernel
theorem dX12_whose_61 : decode cX12_whose 61 = .ok (.aload_n 0, 1) := by decide +kernel
theorem dX12_whose_62 : decode cX12_whose 62 = .ok (.getfield 7, 3) := by decide +kernel
theorem dX12_whose_65 : decode cX12_whose 65 = .ok (.iload 4, 2) := by decide +kernel
theorem dX12_whose_67 : decode cX12_whose 67 = .ok (.iconst 2, 1) := by decide +kernel
theorem dX12_whose_68 : decode cX12_whose 68 = .ok (.iadd, 1) := by decide +kernel
theorem dX12_whose_69 : decode cX12_whose 69 = .ok (.iaload, 1) := by decide +kernel
theorem dX12_whose_70 : decode cX12_whose 70 = .ok (.if_icmp .ne 7, 3) := by decide +kernel
theorem dX12_whose_73 : decode cX12_whose 73 = .ok (.iconst 1, 1) := by decide +kernel
theorem dX12_whose_74 : decode cX12_whose 74 = .ok (.goto 4, 3) := by decide +kernel
theorem dX12_whose_77 : decode cX12_whose 77 = .ok (.iconst 0, 1) := by decide +kernel
theorem dX12_whose_78 : decode cX12_whose 78 = .ok (.istore_n 3, 1) := by decide +kernel
theorem dX12_whose_79 : decode cX12_whose 79 = .ok (.iinc 4 3, 3) := by decide +kernel
theorem dX12_whose_82 : decode cX12_whose 82 = .ok (.goto (-62), 3) := by decide +kernel
theorem dX12_whose_85 : decode cX12_whose 85 = .ok (.iload_n 1, 1) := by decide +kernel
theorem dX12_whose_86 : decode cX12_whose 86 = .ok (.iload_n 3, 1) := by decide +kernel
theorem dX12_whose_87 : decode cX12_whose 87 = .ok (.ifCond .eq 9, 3) := by decide +kernel
theorem dX12_whose_90 : decode cX12_whose 90 = .ok (.iconst 1, 1) := by decide +kernel
theorem dX12_whose_91 : decode cX12_whose 91 = .ok (.iload_n 2, 1) := by decide +kernel
theorem dX12_whose_92 : decode cX12_whose 92 = .ok (.ishl, 1) := by decide +kernel
theorem dX12_whose_93 : decode cX12_whose 93 = .ok (.goto 4, 3) := by decide +kernel
theorem dX12_whose_96 : decode cX12_whose 96 = .ok (.iconst 0, 1) := by decide +kernel
theorem dX12_whose_97 : decode cX12_whose 97 = .ok (.ior, 1) := by decide +kernel
theorem dX12_whose_98 : decode cX12_whose 98 = .ok (.istore_n 1, 1) := by decide +kernel
theorem dX12_whose_99 : decode cX12_whose 99 = .ok (.iinc 2 1, 3) := by decide +kernel
theorem dX12_whose_102 : decode cX12_whose 102 = .ok (.goto (-98), 3) := by decide +kernel
theorem dX12_whose_105 : decode cX12_whose 105 = .ok (.iload_n 1, 1) := by decide +kernel
theorem dX12_whose_106 : decode cX12_whose 106 = .ok (.ireturn, 1) := by decide +kernel
theorem dX12_image_0 : decode cX12_image 0 = .ok (.aload_n 0, 1) := by decide +kernel
theorem dX12_image_1 : decode cX12_image 1 = .ok (.getfield 7, 3) := by decide +kernel
theorem dX12_image_4 : decode cX12_image 4 = .ok (.aload_n 0, 1) := by decide +kernel
theorem dX12_image_5 : decode cX12_image 5 = .ok (.getfield 13, 3) := by decide +kernel
theorem dX12_image_8 : decode cX12_image 8 = .ok (.invokestatic 77, 3) := by decide +kernel
theorem dX12_image_11 : decode cX12_image 11 = .ok (.aload_n 0, 1) := by decide +kernel
theorem dX12_image_12 : decode cX12_image 12 = .ok (.getfield 7, 3) := by decide +kernel
theorem dX12_image_15 : decode cX12_image 15 = .ok (.bipush 6, 2) := by decide +kernel
theorem dX12_image_17 : decode cX12_image 17 = .ok (.iaload, 1) := by decide +kernel
theorem dX12_image_18 : decode cX12_image 18 = .ok (.ireturn, 1) := by decide +kernel
theorem dX12_back_0 : decode cX12_back 0 = .ok (.aload_n 0, 1) := by decide +kernel
theorem dX12_back_1 : decode cX12_back 1 = .ok (.getfield 13, 3) := by decide +kernel
theorem dX12_back_4 : decode cX12_back 4 = .ok (.aload_n 0, 1) := by decide +kernel
theorem dX12_back_5 : decode cX12_back 5 = .ok (.getfield 7, 3) := by decide +kernel
theorem dX12_back_8 : decode cX12_back 8 = .ok (.invokestatic 77, 3) := by decide +kernel
theorem dX12_back_11 : decode cX12_back 11 = .ok (.aload_n 0, 1) := by decide +kernel
theorem dX12_back_12 : decode cX12_back 12 = .ok (.getfield 7, 3) := by decide +kernel
theorem dX12_back_15 : decode cX12_back 15 = .ok (.bipush 6, 2) := by decide +kernel
theorem dX12_back_17 : decode cX12_back 17 = .ok (.iaload, 1) := by decide +kernel
theorem dX12_back_18 : decode cX12_back 18 = .ok (.ireturn, 1) := by decide +kernel
theorem dX12_about_0 : decode cX12_about 0 = .ok (.iload_n 1, 1) := by decide +kernel
theorem dX12_about_1 : decode cX12_about 1 = .ok (.iconst 0, 1) := by decide +kernel
theorem dX12_about_2 : decode cX12_about 2 = .ok (.iconst 5, 1) := by decide +kernel
theorem dX12_about_3 : decode cX12_about 3 = .ok (.invokestatic 81, 3) := by decide +kernel
theorem dX12_about_6 : decode cX12_about 6 = .ok (.ifCond .eq 12, 3) := by decide +kernel
theorem dX12_about_9 : decode cX12_about 9 = .ok (.aload_n 0, 1) := by decide +kernel
theorem dX12_about_10 : decode cX12_about 10 = .ok (.getfield 7, 3) := by decide +kernel
theorem dX12_about_13 : decode cX12_about 13 = .ok (.iload_n 1, 1) := by decide +kernel
theorem dX12_about_14 : decode cX12_about 14 = .ok (.iaload, 1) := by decide +kernel
theorem dX12_about_15 : decode cX12_about 15 = .ok (.goto 18, 3) := by decide +kernel
theorem dX12_about_18 : decode cX12_about 18 = .ok (.iload_n 1, 1) := by decide +kernel
theorem dX12_about_19 : decode cX12_about 19 = .ok (.bipush 6, 2) := by decide +kernel
theorem dX12_about_21 : decode cX12_about 21 = .ok (.if_icmp .ne 10, 3) := by decide +kernel
theorem dX12_about_24 : decode cX12_about 24 = .ok (.aload_n 0, 1) := by decide +kernel
theorem dX12_about_25 : decode cX12_about 25 = .ok (.getfield 97, 3) := by decide +kernel
theorem dX12_about_28 : decode cX12_about 28 = .ok (.goto 5, 3) := by decide +kernel
theorem dX12_about_31 : decode cX12_about 31 = .ok (.bipush (-2), 2) := by decide +kernel
theorem dX12_about_33 : decode cX12_about 33 = .ok (.ireturn, 1) := by decide +kernel
