theorem dX9_init_0 : decode cX9_init 0 = .ok (.aload_n 0, 1) := by decide +kernel
theorem dX9_init_1 : decode cX9_init 1 = .ok (.invokespecial 1, 3) := by decide +kernel
theorem dX9_init_4 : decode cX9_init 4 = .ok (.aload_n 0, 1) := by decide +kernel
theorem dX9_init_5 : decode cX9_init 5 = .ok (.bipush 60, 2) := by decide +kernel
theorem dX9_init_7 : decode cX9_init 7 = .ok (.newarray .int, 2) := by decide +kernel
theorem dX9_init_9 : decode cX9_init 9 = .ok (.putfield 7, 3) := by decide +kernel
theorem dX9_init_12 : decode cX9_init 12 = .ok (.aload_n 0, 1) := by decide +kernel
theorem dX9_init_13 : decode cX9_init 13 = .ok (.bipush 60, 2) := by decide +kernel
theorem dX9_init_15 : decode cX9_init 15 = .ok (.newarray .int, 2) := by decide +kernel
theorem dX9_init_17 : decode cX9_init 17 = .ok (.putfield 13, 3) := by decide +kernel
theorem dX9_init_20 : decode cX9_init 20 = .ok (.aload_n 0, 1) := by decide +kernel
theorem dX9_init_21 : decode cX9_init 21 = .ok (.bipush 60, 2) := by decide +kernel
theorem dX9_init_23 : decode cX9_init 23 = .ok (.newarray .int, 2) := by decide +kernel
theorem dX9_init_25 : decode cX9_init 25 = .ok (.putfield 16, 3) := by decide +kernel
theorem dX9_init_28 : decode cX9_init 28 = .ok (.aload_n 0, 1) := by decide +kernel
theorem dX9_init_29 : decode cX9_init 29 = .ok (.bipush 60, 2) := by decide +kernel
theorem dX9_init_31 : decode cX9_init 31 = .ok (.newarray .int, 2) := by decide +kernel
theorem dX9_init_33 : decode cX9_init 33 = .ok (.putfield 19, 3) := by decide +kernel
theorem dX9_init_36 : decode cX9_init 36 = .ok (.aload_n 0, 1) := by decide +kernel
theorem dX9_init_37 : decode cX9_init 37 = .ok (.bipush 60, 2) := by decide +kernel
theorem dX9_init_39 : decode cX9_init 39 = .ok (.newarray .int, 2) := by decide +kernel
theorem dX9_init_41 : decode cX9_init 41 = .ok (.putfield 22, 3) := by decide +kernel
theorem dX9_init_44 : decode cX9_init 44 = .ok (.aload_n 0, 1) := by decide +kernel
theorem dX9_init_45 : decode cX9_init 45 = .ok (.bipush 60, 2) := by decide +kernel
theorem dX9_init_47 : decode cX9_init 47 = .ok (.newarray .int, 2) := by decide +kernel
theorem dX9_init_49 : decode cX9_init 49 = .ok (.putfield 25, 3) := by decide +kernel
theorem dX9_init_52 : decode cX9_init 52 = .ok (.aload_n 0, 1) := by decide +kernel
theorem dX9_init_53 : decode cX9_init 53 = .ok (.bipush 60, 2) := by decide +kernel
theorem dX9_init_55 : decode cX9_init 55 = .ok (.newarray .boolean, 2) := by decide +kernel
theorem dX9_init_57 : decode cX9_init 57 = .ok (.putfield 28, 3) := by decide +kernel
theorem dX9_init_60 : decode cX9_init 60 = .ok (.aload_n 0, 1) := by decide +kernel
theorem dX9_init_61 : decode cX9_init 61 = .ok (.bipush 60, 2) := by decide +kernel
theorem dX9_init_63 : decode cX9_init 63 = .ok (.newarray .int, 2) := by decide +kernel
theorem dX9_init_65 : decode cX9_init 65 = .ok (.putfield 32, 3) := by decide +kernel
theorem dX9_init_68 : decode cX9_init 68 = .ok (.aload_n 0, 1) := by decide +kernel
theorem dX9_init_69 : decode cX9_init 69 = .ok (.sipush 240, 3) := by decide +kernel
theorem dX9_init_72 : decode cX9_init 72 = .ok (.newarray .long, 2) := by decide +kernel
theorem dX9_init_74 : decode cX9_init 74 = .ok (.putfield 35, 3) := by decide +kernel
theorem dX9_init_77 : decode cX9_init 77 = .ok (.aload_n 0, 1) := by decide +kernel
theorem dX9_init_78 : decode cX9_init 78 = .ok (.bipush 6, 2) := by decide +kernel
theorem dX9_init_80 : decode cX9_init 80 = .ok (.newarray .int, 2) := by decide +kernel
theorem dX9_init_82 : decode cX9_init 82 = .ok (.putfield 39, 3) := by decide +kernel
theorem dX9_init_85 : decode cX9_init 85 = .ok (.aload_n 0, 1) := by decide +kernel
theorem dX9_init_86 : decode cX9_init 86 = .ok (.bipush 6, 2) := by decide +kernel
theorem dX9_init_88 : decode cX9_init 88 = .ok (.newarray .int, 2) := by decide +kernel
theorem dX9_init_90 : decode cX9_init 90 = .ok (.putfield 42, 3) := by decide +kernel
theorem dX9_init_93 : decode cX9_init 93 = .ok (.aload_n 0, 1) := by decide +kernel
theorem dX9_init_94 : decode cX9_init 94 = .ok (.bipush 6, 2) := by decide +kernel
theorem dX9_init_96 : decode cX9_init 96 = .ok (.newarray .int, 2) := by decide +kernel
theorem dX9_init_98 : decode cX9_init 98 = .ok (.putfield 45, 3) := by decide +kernel
theorem dX9_init_101 : decode cX9_init 101 = .ok (.aload_n 0, 1) := by decide +kernel
theorem dX9_init_102 : decode cX9_init 102 = .ok (.bipush 6, 2) := by decide +kernel
theorem dX9_init_104 : decode cX9_init 104 = .ok (.newarray .int, 2) := by decide +kernel
theorem dX9_init_106 : decode cX9_init 106 = .ok (.putfield 48, 3) := by decide +kernel
theorem dX9_init_109 : decode cX9_init 109 = .ok (.aload_n 0, 1) := by decide +kernel
theorem dX9_init_110 : decode cX9_init 110 = .ok (.bipush 6, 2) := by decide +kernel
theorem dX9_init_112 : decode cX9_init 112 = .ok (.newarray .int, 2) := by decide +kernel
theorem dX9_init_114 : decode cX9_init 114 = .ok (.putfield 51, 3) := by decide +kernel
theorem dX9_init_117 : decode cX9_init 117 = .ok (.aload_n 0, 1) := by decide +kernel
theorem dX9_init_118 : decode cX9_init 118 = .ok (.bipush 6, 2) := by decide +kernel
theorem dX9_init_120 : decode cX9_init 120 = .ok (.newarray .int, 2) := by decide +kernel
theorem dX9_init_122 : decode cX9_init 122 = .ok (.putfield 54, 3) := by decide +kernel
theorem dX9_init_125 : decode cX9_init 125 = .ok (.aload_n 0, 1) := by decide +kernel
theorem dX9_init_126 : decode cX9_init 126 = .ok (.bipush 6, 2) := by decide +kernel
theorem dX9_init_128 : decode cX9_init 128 = .ok (.newarray .long, 2) := by decide +kernel
theorem dX9_init_130 : decode cX9_init 130 = .ok (.putfield 57, 3) := by decide +kernel
theorem dX9_init_133 : decode cX9_init 133 = .ok (.aload_n 0, 1) := by decide +kernel
theorem dX9_init_134 : decode cX9_init 134 = .ok (.bipush 6, 2) := by decide +kernel
theorem dX9_init_136 : decode cX9_init 136 = .ok (.newarray .boolean, 2) := by decide +kernel
theorem dX9_init_138 : decode cX9_init 138 = .ok (.putfield 60, 3) := by decide +kernel
theorem dX9_init_141 : decode cX9_init 141 = .ok (.aload_n 0, 1) := by decide +kernel
theorem dX9_init_142 : decode cX9_init 142 = .ok (.bipush 40, 2) := by decide +kernel
theorem dX9_init_144 : decode cX9_init 144 = .ok (.newarray .int, 2) := by decide +kernel
theorem dX9_init_146 : decode cX9_init 146 = .ok (.putfield 63, 3) := by decide +kernel
theorem dX9_init_149 : decode cX9_init 149 = .ok (.aload_n 0, 1) := by decide +kernel
theorem dX9_init_150 : decode cX9_init 150 = .ok (.sipush 240, 3) := by decide +kernel
theorem dX9_init_153 : decode cX9_init 153 = .ok (.newarray .long, 2) := by decide +kernel
theorem dX9_init_155 : decode cX9_init 155 = .ok (.putfield 66, 3) := by decide +kernel
theorem dX9_init_158 : decode cX9_init 158 = .ok (.aload_n 0, 1) := by decide +kernel
theorem dX9_init_159 : decode cX9_init 159 = .ok (.bipush 60, 2) := by decide +kernel
theorem dX9_init_161 : decode cX9_init 161 = .ok (.newarray .boolean, 2) := by decide +kernel
theorem dX9_init_163 : decode cX9_init 163 = .ok (.putfield 69, 3) := by decide +kernel
theorem dX9_init_166 : decode cX9_init 166 = .ok (.aload_n 0, 1) := by decide +kernel
theorem dX9_init_167 : decode cX9_init 167 = .ok (.sipush 256, 3) := by decide +kernel
theorem dX9_init_170 : decode cX9_init 170 = .ok (.newarray .int, 2) := by decide +kernel
theorem dX9_init_172 : decode cX9_init 172 = .ok (.putfield 72, 3) := by decide +kernel
theorem dX9_init_175 : decode cX9_init 175 = .ok (.aload_n 0, 1) := by decide +kernel
theorem dX9_init_176 : decode cX9_init 176 = .ok (.sipush 256, 3) := by decide +kernel
theorem dX9_init_179 : decode cX9_init 179 = .ok (.newarray .int, 2) := by decide +kernel
theorem dX9_init_181 : decode cX9_init 181 = .ok (.putfield 75, 3) := by decide +kernel
theorem dX9_init_184 : decode cX9_init 184 = .ok (.aload_n 0, 1) := by decide +kernel
theorem dX9_init_185 : decode cX9_init 185 = .ok (.bipush 12, 2) := by decide +kernel
theorem dX9_init_187 : decode cX9_init 187 = .ok (.newarray .int, 2) := by decide +kernel
theorem dX9_init_189 : decode cX9_init 189 = .ok (.putfield 78, 3) := by decide +kernel
theorem dX9_init_192 : decode cX9_init 192 = .ok (.aload_n 0, 1) := by decide +kernel
theorem dX9_init_193 : decode cX9_init 193 = .ok (.iconst 4, 1) := by decide +kernel
theorem dX9_init_194 : decode cX9_init 194 = .ok (.newarray .long, 2) := by decide +kernel
theorem dX9_init_196 : decode cX9_init 196 = .ok (.putfield 81, 3) := by decide +kernel
theorem dX9_init_199 : decode cX9_init 199 = .ok (.aload_n 0, 1) := by decide +kernel
theorem dX9_init_200 : decode cX9_init 200 = .ok (.sipush 256, 3) := by decide +kernel
theorem dX9_init_203 : decode cX9_init 203 = .ok (.newarray .boolean, 2) := by decide +kernel
theorem dX9_init_205 : decode cX9_init 205 = .ok (.putfield 84, 3) := by decide +kernel
theorem dX9_init_208 : decode cX9_init 208 = .ok (.return_, 1) := by decide +kernel
theorem dX9_thrown_0 : decode cX9_thrown 0 = .ok (.aload_n 0, 1) := by decide +kernel
theorem dX9_thrown_1 : decode cX9_thrown 1 = .ok (.getfield 87, 3) := by decide +kernel
theorem dX9_thrown_4 : decode cX9_thrown 4 = .ok (.ireturn, 1) := by decide +kernel
theorem dX9_within_0 : decode cX9_within 0 = .ok (.iload_n 0, 1) := by decide +kernel
theorem dX9_within_1 : decode cX9_within 1 = .ok (.iload_n 1, 1) := by decide +kernel
theorem dX9_within_2 : decode cX9_within 2 = .ok (.if_icmp .lt 12, 3) := by decide +kernel
theorem dX9_within_5 : decode cX9_within 5 = .ok (.iload_n 0, 1) := by decide +kernel
theorem dX9_within_6 : decode cX9_within 6 = .ok (.iload_n 2, 1) := by decide +kernel
theorem dX9_within_7 : decode cX9_within 7 = .ok (.if_icmp .gt 7, 3) := by decide +kernel
theorem dX9_within_10 : decode cX9_within 10 = .ok (.iconst 1, 1) := by decide +kernel
theorem dX9_within_11 : decode cX9_within 11 = .ok (.goto 4, 3) := by decide +kernel
theorem dX9_within_14 : decode cX9_within 14 = .ok (.iconst 0, 1) := by decide +kernel
theorem dX9_within_15 : decode cX9_within 15 = .ok (.ireturn, 1) := by decide +kernel
theorem dX9_isUser_0 : decode cX9_isUser 0 = .ok (.iload_n 0, 1) := by decide +kernel
theorem dX9_isUser_1 : decode cX9_isUser 1 = .ok (.iconst 0, 1) := by decide +kernel
theorem dX9_isUser_2 : decode cX9_isUser 2 = .ok (.iconst 4, 1) := by decide +kernel
theorem dX9_isUser_3 : decode cX9_isUser 3 = .ok (.invokestatic 91, 3) := by decide +kernel
theorem dX9_isUser_6 : decode cX9_isUser 6 = .ok (.ireturn, 1) := by decide +kernel
theorem dX9_isCell_0 : decode cX9_isCell 0 = .ok (.iload_n 0, 1) := by decide +kernel
theorem dX9_isCell_1 : decode cX9_isCell 1 = .ok (.iconst 0, 1) := by decide +kernel
theorem dX9_isCell_2 : decode cX9_isCell 2 = .ok (.sipush 255, 3) := by decide +kernel
theorem dX9_isCell_5 : decode cX9_isCell 5 = .ok (.invokestatic 91, 3) := by decide +kernel
theorem dX9_isCell_8 : decode cX9_isCell 8 = .ok (.ireturn, 1) := by decide +kernel
theorem dX9_isMark_0 : decode cX9_isMark 0 = .ok (.iload_n 0, 1) := by decide +kernel
theorem dX9_isMark_1 : decode cX9_isMark 1 = .ok (.iconst 0, 1) := by decide +kernel
theorem dX9_isMark_2 : decode cX9_isMark 2 = .ok (.iconst 5, 1) := by decide +kernel
theorem dX9_isMark_3 : decode cX9_isMark 3 = .ok (.invokestatic 91, 3) := by decide +kernel
theorem dX9_isMark_6 : decode cX9_isMark 6 = .ok (.ireturn, 1) := by decide +kernel
theorem dX9_isOperation_0 : decode cX9_isOperation 0 = .ok (.iload_n 1, 1) := by decide +kernel
theorem dX9_isOperation_1 : decode cX9_isOperation 1 = .ok (.iconst 0, 1) := by decide +kernel
theorem dX9_isOperation_2 : decode cX9_isOperation 2 = .ok (.aload_n 0, 1) := by decide +kernel
theorem dX9_isOperation_3 : decode cX9_isOperation 3 = .ok (.getfield 95, 3) := by decide +kernel
theorem dX9_isOperation_6 : decode cX9_isOperation 6 = .ok (.iconst 1, 1) := by decide +kernel
theorem dX9_isOperation_7 : decode cX9_isOperation 7 = .ok (.isub, 1) := by decide +kernel
theorem dX9_isOperation_8 : decode cX9_isOperation 8 = .ok (.invokestatic 91, 3) := by decide +kernel
theorem dX9_isOperation_11 : decode cX9_isOperation 11 = .ok (.ireturn, 1) := by decide +kernel
theorem dX9_size_0 : decode cX9_size 0 = .ok (.iconst 0, 1) := by decide +kernel
theorem dX9_size_1 : decode cX9_size 1 = .ok (.istore_n 2, 1) := by decide +kernel
theorem dX9_size_2 : decode cX9_size 2 = .ok (.iconst 0, 1) := by decide +kernel
theorem dX9_size_3 : decode cX9_size 3 = .ok (.istore_n 3, 1) := by decide +kernel
theorem dX9_size_4 : decode cX9_size 4 = .ok (.iload_n 3, 1) := by decide +kernel
theorem dX9_size_5 : decode cX9_size 5 = .ok (.bipush 64, 2) := by decide +kernel
theorem dX9_size_7 : decode cX9_size 7 = .ok (.if_icmp .ge 19, 3) := by decide +kernel
theorem dX9_size_10 : decode cX9_size 10 = .ok (.iload_n 2, 1) := by decide +kernel
theorem dX9_size_11 : decode cX9_size 11 = .ok (.i2l, 1) := by decide +kernel
theorem dX9_size_12 : decode cX9_size 12 = .ok (.lload_n 0, 1) := by decide +kernel
theorem dX9_size_13 : decode cX9_size 13 = .ok (.iload_n 3, 1) := by decide +kernel
theorem dX9_size_14 : decode cX9_size 14 = .ok (.lushr, 1) := by decide +kernel
theorem dX9_size_15 : decode cX9_size 15 = .ok (.lconst 1, 1) := by decide +kernel
theorem dX9_size_16 : decode cX9_size 16 = .ok (.land, 1) := by decide +kernel
theorem dX9_size_17 : decode cX9_size 17 = .ok (.ladd, 1) := by decide +kernel
theorem dX9_size_18 : decode cX9_size 18 = .ok (.l2i, 1) := by decide +kernel
theorem dX9_size_19 : decode cX9_size 19 = .ok (.istore_n 2, 1) := by decide +kernel
theorem dX9_size_20 : decode cX9_size 20 = .ok (.iinc 3 1, 3) := by decide +kernel
theorem dX9_size_23 : decode cX9_size 23 = .ok (.goto (-19), 3) := by decide +kernel
theorem dX9_size_26 : decode cX9_size 26 = .ok (.iload_n 2, 1) := by decide +kernel
theorem dX9_size_27 : decode cX9_size 27 = .ok (.ireturn, 1) := by decide +kernel
theorem dX9_hasIn_0 : decode cX9_hasIn 0 = .ok (.aload_n 0, 1) := by decide +kernel
theorem dX9_hasIn_1 : decode cX9_hasIn 1 = .ok (.iconst 4, 1) := by decide +kernel
theorem dX9_hasIn_2 : decode cX9_hasIn 2 = .ok (.iload_n 1, 1) := by decide +kernel
theorem dX9_hasIn_3 : decode cX9_hasIn 3 = .ok (.imul, 1) := by decide +kernel
theorem dX9_hasIn_4 : decode cX9_hasIn 4 = .ok (.iload_n 2, 1) := by decide +kernel
theorem dX9_hasIn_5 : decode cX9_hasIn 5 = .ok (.bipush 64, 2) := by decide +kernel
theorem dX9_hasIn_7 : decode cX9_hasIn 7 = .ok (.idiv, 1) := by decide +kernel
theorem dX9_hasIn_8 : decode cX9_hasIn 8 = .ok (.iadd, 1) := by decide +kernel
theorem dX9_hasIn_9 : decode cX9_hasIn 9 = .ok (.laload, 1) := by decide +kernel
theorem dX9_hasIn_10 : decode cX9_hasIn 10 = .ok (.iload_n 2, 1) := by decide +kernel
theorem dX9_hasIn_11 : decode cX9_hasIn 11 = .ok (.bipush 64, 2) := by decide +kernel
theorem dX9_hasIn_13 : decode cX9_hasIn 13 = .ok (.irem, 1) := by decide +kernel
theorem dX9_hasIn_14 : decode cX9_hasIn 14 = .ok (.lushr, 1) := by decide +kernel
theorem dX9_hasIn_15 : decode cX9_hasIn 15 = .ok (.lconst 1, 1) := by decide +kernel
theorem dX9_hasIn_16 : decode cX9_hasIn 16 = .ok (.land, 1) := by decide +kernel
theorem dX9_hasIn_17 : decode cX9_hasIn 17 = .ok (.lconst 1, 1) := by decide +kernel
theorem dX9_hasIn_18 : decode cX9_hasIn 18 = .ok (.lcmp, 1) := by decide +kernel
theorem dX9_hasIn_19 : decode cX9_hasIn 19 = .ok (.ifCond .ne 7, 3) := by decide +kernel
theorem dX9_hasIn_22 : decode cX9_hasIn 22 = .ok (.iconst 1, 1) := by decide +kernel
theorem dX9_hasIn_23 : decode cX9_hasIn 23 = .ok (.goto 4, 3) := by decide +kernel
theorem dX9_hasIn_26 : decode cX9_hasIn 26 = .ok (.iconst 0, 1) := by decide +kernel
theorem dX9_hasIn_27 : decode cX9_hasIn 27 = .ok (.ireturn, 1) := by decide +kernel
theorem dX9_sizeIn_0 : decode cX9_sizeIn 0 = .ok (.aload_n 0, 1) := by decide +kernel
theorem dX9_sizeIn_1 : decode cX9_sizeIn 1 = .ok (.iconst 4, 1) := by decide +kernel
theorem dX9_sizeIn_2 : decode cX9_sizeIn 2 = .ok (.iload_n 1, 1) := by decide +kernel
theorem dX9_sizeIn_3 : decode cX9_sizeIn 3 = .ok (.imul, 1) := by decide +kernel
theorem dX9_sizeIn_4 : decode cX9_sizeIn 4 = .ok (.laload, 1) := by decide +kernel
theorem dX9_sizeIn_5 : decode cX9_sizeIn 5 = .ok (.invokestatic 98, 3) := by decide +kernel
theorem dX9_sizeIn_8 : decode cX9_sizeIn 8 = .ok (.aload_n 0, 1) := by decide +kernel
theorem dX9_sizeIn_9 : decode cX9_sizeIn 9 = .ok (.iconst 4, 1) := by decide +kernel
theorem dX9_sizeIn_10 : decode cX9_sizeIn 10 = .ok (.iload_n 1, 1) := by decide +kernel
theorem dX9_sizeIn_11 : decode cX9_sizeIn 11 = .ok (.imul, 1) := by decide +kernel
theorem dX9_sizeIn_12 : decode cX9_sizeIn 12 = .ok (.iconst 1, 1) := by decide +kernel
theorem dX9_sizeIn_13 : decode cX9_sizeIn 13 = .ok (.iadd, 1) := by decide +kernel
theorem dX9_sizeIn_14 : decode cX9_sizeIn 14 = .ok (.laload, 1) := by decide +kernel
theorem dX9_sizeIn_15 : decode cX9_sizeIn 15 = .ok (.invokestatic 98, 3) := by decide +kernel
theorem dX9_sizeIn_18 : decode cX9_sizeIn 18 = .ok (.iadd, 1) := by decide +kernel
theorem dX9_sizeIn_19 : decode cX9_sizeIn 19 = .ok (.aload_n 0, 1) := by decide +kernel
theorem dX9_sizeIn_20 : decode cX9_sizeIn 20 = .ok (.iconst 4, 1) := by decide +kernel
theorem dX9_sizeIn_21 : decode cX9_sizeIn 21 = .ok (.iload_n 1, 1) := by decide +kernel
theorem dX9_sizeIn_22 : decode cX9_sizeIn 22 = .ok (.imul, 1) := by decide +kernel
theorem dX9_sizeIn_23 : decode cX9_sizeIn 23 = .ok (.iconst 2, 1) := by decide +kernel
theorem dX9_sizeIn_24 : decode cX9_sizeIn 24 = .ok (.iadd, 1) := by decide +kernel
theorem dX9_sizeIn_25 : decode cX9_sizeIn 25 = .ok (.laload, 1) := by decide +kernel
theorem dX9_sizeIn_26 : decode cX9_sizeIn 26 = .ok (.invokestatic 98, 3) := by decide +kernel
theorem dX9_sizeIn_29 : decode cX9_sizeIn 29 = .ok (.iadd, 1) := by decide +kernel
theorem dX9_sizeIn_30 : decode cX9_sizeIn 30 = .ok (.aload_n 0, 1) := by decide +kernel
theorem dX9_sizeIn_31 : decode cX9_sizeIn 31 = .ok (.iconst 4, 1) := by decide +kernel
theorem dX9_sizeIn_32 : decode cX9_sizeIn 32 = .ok (.iload_n 1, 1) := by decide +kernel
theorem dX9_sizeIn_33 : decode cX9_sizeIn 33 = .ok (.imul, 1) := by decide +kernel
theorem dX9_sizeIn_34 : decode cX9_sizeIn 34 = .ok (.iconst 3, 1) := by decide +kernel
theorem dX9_sizeIn_35 : decode cX9_sizeIn 35 = .ok (.iadd, 1) := by decide +kernel
theorem dX9_sizeIn_36 : decode cX9_sizeIn 36 = .ok (.laload, 1) := by decide +kernel
theorem dX9_sizeIn_37 : decode cX9_sizeIn 37 = .ok (.invokestatic 98, 3) := by decide +kernel
theorem dX9_sizeIn_40 : decode cX9_sizeIn 40 = .ok (.iadd, 1) := by decide +kernel
theorem dX9_sizeIn_41 : decode cX9_sizeIn 41 = .ok (.ireturn, 1) := by decide +kernel
theorem dX9_meets_0 : decode cX9_meets 0 = .ok (.iconst 0, 1) := by decide +kernel
theorem dX9_meets_1 : decode cX9_meets 1 = .ok (.istore_n 3, 1) := by decide +kernel
theorem dX9_meets_2 : decode cX9_meets 2 = .ok (.iconst 0, 1) := by decide +kernel
theorem dX9_meets_3 : decode cX9_meets 3 = .ok (.istore 4, 2) := by decide +kernel
theorem dX9_meets_5 : decode cX9_meets 5 = .ok (.iload 4, 2) := by decide +kernel
theorem dX9_meets_7 : decode cX9_meets 7 = .ok (.iconst 4, 1) := by decide +kernel
theorem dX9_meets_8 : decode cX9_meets 8 = .ok (.if_icmp .ge 47, 3) := by decide +kernel
theorem dX9_meets_11 : decode cX9_meets 11 = .ok (.iload_n 3, 1) := by decide +kernel
theorem dX9_meets_12 : decode cX9_meets 12 = .ok (.ifCond .ne 31, 3) := by decide +kernel
theorem dX9_meets_15 : decode cX9_meets 15 = .ok (.aload_n 0, 1) := by decide +kernel
theorem dX9_meets_16 : decode cX9_meets 16 = .ok (.getfield 66, 3) := by decide +kernel
theorem dX9_meets_19 : decode cX9_meets 19 = .ok (.iconst 4, 1) := by decide +kernel
theorem dX9_meets_20 : decode cX9_meets 20 = .ok (.iload_n 1, 1) := by decide +kernel
theorem dX9_meets_21 : decode cX9_meets 21 = .ok (.imul, 1) := by decide +kernel
theorem dX9_meets_22 : decode cX9_meets 22 = .ok (.iload 4, 2) := by decide +kernel
theorem dX9_meets_24 : decode cX9_meets 24 = .ok (.iadd, 1) := by decide +kernel
theorem dX9_meets_25 : decode cX9_meets 25 = .ok (.laload, 1) := by decide +kernel
theorem dX9_meets_26 : decode cX9_meets 26 = .ok (.aload_n 0, 1) := by decide +kernel
theorem dX9_meets_27 : decode cX9_meets 27 = .ok (.getfield 35, 3) := by decide +kernel
theorem dX9_meets_30 : decode cX9_meets 30 = .ok (.iconst 4, 1) := by decide +kernel
theorem dX9_meets_31 : decode cX9_meets 31 = .ok (.iload_n 2, 1) := by decide +kernel
theorem dX9_meets_32 : decode cX9_meets 32 = .ok (.imul, 1) := by decide +kernel
theorem dX9_meets_33 : decode cX9_meets 33 = .ok (.iload 4, 2) := by decide +kernel
theorem dX9_meets_35 : decode cX9_meets 35 = .ok (.iadd, 1) := by decide +kernel
theorem dX9_meets_36 : decode cX9_meets 36 = .ok (.laload, 1) := by decide +kernel
theorem dX9_meets_37 : decode cX9_meets 37 = .ok (.land, 1) := by decide +kernel
theorem dX9_meets_38 : decode cX9_meets 38 = .ok (.lconst 0, 1) := by decide +kernel
theorem dX9_meets_39 : decode cX9_meets 39 = .ok (.lcmp, 1) := by decide +kernel
theorem dX9_meets_40 : decode cX9_meets 40 = .ok (.ifCond .eq 7, 3) := by decide +kernel
theorem dX9_meets_43 : decode cX9_meets 43 = .ok (.iconst 1, 1) := by decide +kernel
theorem dX9_meets_44 : decode cX9_meets 44 = .ok (.goto 4, 3) := by decide +kernel
theorem dX9_meets_47 : decode cX9_meets 47 = .ok (.iconst 0, 1) := by decide +kernel
theorem dX9_meets_48 : decode cX9_meets 48 = .ok (.istore_n 3, 1) := by decide +kernel
theorem dX9_meets_49 : decode cX9_meets 49 = .ok (.iinc 4 1, 3) := by decide +kernel
theorem dX9_meets_52 : decode cX9_meets 52 = .ok (.goto (-47), 3) := by decide +kernel
theorem dX9_meets_55 : decode cX9_meets 55 = .ok (.iload_n 3, 1) := by decide +kernel
theorem dX9_meets_56 : decode cX9_meets 56 = .ok (.ireturn, 1) := by decide +kernel
theorem dX9_eraseBy_0 : decode cX9_eraseBy 0 = .ok (.aload_n 0, 1) := by decide +kernel
theorem dX9_eraseBy_1 : decode cX9_eraseBy 1 = .ok (.getfield 19, 3) := by decide +kernel
theorem dX9_eraseBy_4 : decode cX9_eraseBy 4 = .ok (.iload_n 1, 1) := by decide +kernel
theorem dX9_eraseBy_5 : decode cX9_eraseBy 5 = .ok (.iaload, 1) := by decide +kernel
theorem dX9_eraseBy_6 : decode cX9_eraseBy 6 = .ok (.istore_n 2, 1) := by decide +kernel
theorem dX9_eraseBy_7 : decode cX9_eraseBy 7 = .ok (.iconst 0, 1) := by decide +kernel
theorem dX9_eraseBy_8 : decode cX9_eraseBy 8 = .ok (.istore_n 3, 1) := by decide +kernel
theorem dX9_eraseBy_9 : decode cX9_eraseBy 9 = .ok (.iload_n 3, 1) := by decide +kernel
theorem dX9_eraseBy_10 : decode cX9_eraseBy 10 = .ok (.iload_n 1, 1) := by decide +kernel
theorem dX9_eraseBy_11 : decode cX9_eraseBy 11 = .ok (.if_icmp .ge 156, 3) := by decide +kernel
theorem dX9_eraseBy_14 : decode cX9_eraseBy 14 = .ok (.aload_n 0, 1) := by decide +kernel
theorem dX9_eraseBy_15 : decode cX9_eraseBy 15 = .ok (.getfield 7, 3) := by decide +kernel
theorem dX9_eraseBy_18 : decode cX9_eraseBy 18 = .ok (.iload_n 3, 1) := by decide +kernel
theorem dX9_eraseBy_19 : decode cX9_eraseBy 19 = .ok (.iaload, 1) := by decide +kernel
theorem dX9_eraseBy_20 : decode cX9_eraseBy 20 = .ok (.iconst 2, 1) := by decide +kernel
theorem dX9_eraseBy_21 : decode cX9_eraseBy 21 = .ok (.if_icmp .eq 42, 3) := by decide +kernel
theorem dX9_eraseBy_24 : decode cX9_eraseBy 24 = .ok (.aload_n 0, 1) := by decide +kernel
theorem dX9_eraseBy_25 : decode cX9_eraseBy 25 = .ok (.getfield 16, 3) := by decide +kernel
theorem dX9_eraseBy_28 : decode cX9_eraseBy 28 = .ok (.iload_n 3, 1) := by decide +kernel
theorem dX9_eraseBy_29 : decode cX9_eraseBy 29 = .ok (.iaload, 1) := by decide +kernel
theorem dX9_eraseBy_30 : decode cX9_eraseBy 30 = .ok (.aload_n 0, 1) := by decide +kernel
theorem dX9_eraseBy_31 : decode cX9_eraseBy 31 = .ok (.getfield 16, 3) := by decide +kernel
theorem dX9_eraseBy_34 : decode cX9_eraseBy 34 = .ok (.iload_n 1, 1) := by decide +kernel
theorem dX9_eraseBy_35 : decode cX9_eraseBy 35 = .ok (.iaload, 1) := by decide +kernel
theorem dX9_eraseBy_36 : decode cX9_eraseBy 36 = .ok (.if_icmp .gt 27, 3) := by decide +kernel
theorem dX9_eraseBy_39 : decode cX9_eraseBy 39 = .ok (.iload_n 2, 1) := by decide +kernel
theorem dX9_eraseBy_40 : decode cX9_eraseBy 40 = .ok (.iconst 2, 1) := by decide +kernel
theorem dX9_eraseBy_41 : decode cX9_eraseBy 41 = .ok (.if_icmp .lt 18, 3) := by decide +kernel
theorem dX9_eraseBy_44 : decode cX9_eraseBy 44 = .ok (.aload_n 0, 1) := by decide +kernel
theorem dX9_eraseBy_45 : decode cX9_eraseBy 45 = .ok (.getfield 13, 3) := by decide +kernel
theorem dX9_eraseBy_48 : decode cX9_eraseBy 48 = .ok (.iload_n 3, 1) := by decide +kernel
theorem dX9_eraseBy_49 : decode cX9_eraseBy 49 = .ok (.iaload, 1) := by decide +kernel
theorem dX9_eraseBy_50 : decode cX9_eraseBy 50 = .ok (.aload_n 0, 1) := by decide +kernel
theorem dX9_eraseBy_51 : decode cX9_eraseBy 51 = .ok (.getfield 13, 3) := by decide +kernel
theorem dX9_eraseBy_54 : decode cX9_eraseBy 54 = .ok (.iload_n 1, 1) := by decide +kernel
theorem dX9_eraseBy_55 : decode cX9_eraseBy 55 = .ok (.iaload, 1) := by decide +kernel
theorem dX9_eraseBy_56 : decode cX9_eraseBy 56 = .ok (.if_icmp .ne 7, 3) := by decide +kernel
theorem dX9_eraseBy_59 : decode cX9_eraseBy 59 = .ok (.iconst 1, 1) := by decide +kernel
theorem dX9_eraseBy_60 : decode cX9_eraseBy 60 = .ok (.goto 4, 3) := by decide +kernel
theorem dX9_eraseBy_63 : decode cX9_eraseBy 63 = .ok (.iconst 0, 1) := by decide +kernel
theorem dX9_eraseBy_64 : decode cX9_eraseBy 64 = .ok (.istore 4, 2) := by decide +kernel
theorem dX9_eraseBy_66 : decode cX9_eraseBy 66 = .ok (.iload 4, 2) := by decide +kernel
theorem dX9_eraseBy_68 : decode cX9_eraseBy 68 = .ok (.ifCond .eq 21, 3) := by decide +kernel
theorem dX9_eraseBy_71 : decode cX9_eraseBy 71 = .ok (.iload_n 2, 1) := by decide +kernel
theorem dX9_eraseBy_72 : decode cX9_eraseBy 72 = .ok (.iconst 1, 1) := by decide +kernel
theorem dX9_eraseBy_73 : decode cX9_eraseBy 73 = .ok (.if_icmp .ne 16, 3) := by decide +kernel
theorem dX9_eraseBy_76 : decode cX9_eraseBy 76 = .ok (.aload_n 0, 1) := by decide +kernel
theorem dX9_eraseBy_77 : decode cX9_eraseBy 77 = .ok (.iload_n 3, 1) := by decide +kernel
theorem dX9_eraseBy_78 : decode cX9_eraseBy 78 = .ok (.iload_n 1, 1) := by decide +kernel
theorem dX9_eraseBy_79 : decode cX9_eraseBy 79 = .ok (.invokevirtual 102, 3) := by decide +kernel
theorem dX9_eraseBy_82 : decode cX9_eraseBy 82 = .ok (.ifCond .eq 7, 3) := by decide +kernel
theorem dX9_eraseBy_85 : decode cX9_eraseBy 85 = .ok (.iconst 1, 1) := by decide +kernel
theorem dX9_eraseBy_86 : decode cX9_eraseBy 86 = .ok (.goto 4, 3) := by decide +kernel
theorem dX9_eraseBy_89 : decode cX9_eraseBy 89 = .ok (.iconst 0, 1) := by decide +kernel
theorem dX9_eraseBy_90 : decode cX9_eraseBy 90 = .ok (.istore 5, 2) := by decide +kernel
theorem dX9_eraseBy_92 : decode cX9_eraseBy 92 = .ok (.iconst 0, 1) := by decide +kernel
theorem dX9_eraseBy_93 : decode cX9_eraseBy 93 = .ok (.istore 6, 2) := by decide +kernel
theorem dX9_eraseBy_95 : decode cX9_eraseBy 95 = .ok (.iload 6, 2) := by decide +kernel
theorem dX9_eraseBy_97 : decode cX9_eraseBy 97 = .ok (.iconst 4, 1) := by decide +kernel
theorem dX9_eraseBy_98 : decode cX9_eraseBy 98 = .ok (.if_icmp .ge 63, 3) := by decide +kernel
theorem dX9_eraseBy_101 : decode cX9_eraseBy 101 = .ok (.iload 4, 2) := by decide +kernel
theorem dX9_eraseBy_103 : decode cX9_eraseBy 103 = .ok (.ifCond .eq 58, 3) := by decide +kernel
theorem dX9_eraseBy_106 : decode cX9_eraseBy 106 = .ok (.aload_n 0, 1) := by decide +kernel
theorem dX9_eraseBy_107 : decode cX9_eraseBy 107 = .ok (.getfield 66, 3) := by decide +kernel
theorem dX9_eraseBy_110 : decode cX9_eraseBy 110 = .ok (.iconst 4, 1) := by decide +kernel
theorem dX9_eraseBy_111 : decode cX9_eraseBy 111 = .ok (.iload_n 3, 1) := by decide +kernel
theorem dX9_eraseBy_112 : decode cX9_eraseBy 112 = .ok (.imul, 1) := by decide +kernel
theorem dX9_eraseBy_113 : decode cX9_eraseBy 113 = .ok (.iload 6, 2) := by decide +kernel
theorem dX9_eraseBy_115 : decode cX9_eraseBy 115 = .ok (.iadd, 1) := by decide +kernel
theorem dX9_eraseBy_116 : decode cX9_eraseBy 116 = .ok (.dup2, 1) := by decide +kernel
theorem dX9_eraseBy_117 : decode cX9_eraseBy 117 = .ok (.laload, 1) := by decide +kernel
theorem dX9_eraseBy_118 : decode cX9_eraseBy 118 = .ok (.iload 5, 2) := by decide +kernel
theorem dX9_eraseBy_120 : decode cX9_eraseBy 120 = .ok (.ifCond .eq 7, 3) := by decide +kernel
theorem dX9_eraseBy_123 : decode cX9_eraseBy 123 = .ok (.lconst 0, 1) := by decide +kernel
theorem dX9_eraseBy_124 : decode cX9_eraseBy 124 = .ok (.goto 29, 3) := by decide +kernel
theorem dX9_eraseBy_127 : decode cX9_eraseBy 127 = .ok (.iload_n 2, 1) := by decide +kernel
theorem dX9_eraseBy_128 : decode cX9_eraseBy 128 = .ok (.iconst 1, 1) := by decide +kernel
theorem dX9_eraseBy_129 : decode cX9_eraseBy 129 = .ok (.if_icmp .ne 9, 3) := by decide +kernel
theorem dX9_eraseBy_132 : decode cX9_eraseBy 132 = .ok (.ldc2_w 106, 3) := by decide +kernel
theorem dX9_eraseBy_135 : decode cX9_eraseBy 135 = .ok (.goto 18, 3) := by decide +kernel
theorem dX9_eraseBy_138 : decode cX9_eraseBy 138 = .ok (.aload_n 0, 1) := by decide +kernel
theorem dX9_eraseBy_139 : decode cX9_eraseBy 139 = .ok (.getfield 35, 3) := by decide +kernel
theorem dX9_eraseBy_142 : decode cX9_eraseBy 142 = .ok (.iconst 4, 1) := by decide +kernel
theorem dX9_eraseBy_143 : decode cX9_eraseBy 143 = .ok (.iload_n 1, 1) := by decide +kernel
theorem dX9_eraseBy_144 : decode cX9_eraseBy 144 = .ok (.imul, 1) := by decide +kernel
theorem dX9_eraseBy_145 : decode cX9_eraseBy 145 = .ok (.iload 6, 2) := by decide +kernel
theorem dX9_eraseBy_147 : decode cX9_eraseBy 147 = .ok (.iadd, 1) := by decide +kernel
theorem dX9_eraseBy_148 : decode cX9_eraseBy 148 = .ok (.laload, 1) := by decide +kernel
theorem dX9_eraseBy_149 : decode cX9_eraseBy 149 = .ok (.ldc2_w 106, 3) := by decide +kernel
theorem dX9_eraseBy_152 : decode cX9_eraseBy 152 = .ok (.lxor, 1) := by decide +kernel
theorem dX9_eraseBy_153 : decode cX9_eraseBy 153 = .ok (.land, 1) := by decide +kernel
theorem dX9_eraseBy_154 : decode cX9_eraseBy 154 = .ok (.lastore, 1) := by decide +kernel
theorem dX9_eraseBy_155 : decode cX9_eraseBy 155 = .ok (.iinc 6 1, 3) := by decide +kernel
theorem dX9_eraseBy_158 : decode cX9_eraseBy 158 = .ok (.goto (-63), 3) := by decide +kernel
theorem dX9_eraseBy_161 : decode cX9_eraseBy 161 = .ok (.iinc 3 1, 3) := by decide +kernel
theorem dX9_eraseBy_164 : decode cX9_eraseBy 164 = .ok (.goto (-155), 3) := by decide +kernel
theorem dX9_eraseBy_167 : decode cX9_eraseBy 167 = .ok (.return_, 1) := by decide +kernel
theorem dX9_isVanished_0 : decode cX9_isVanished 0 = .ok (.aload_n 0, 1) := by decide +kernel
theorem dX9_isVanished_1 : decode cX9_isVanished 1 = .ok (.getfield 22, 3) := by decide +kernel
theorem dX9_isVanished_4 : decode cX9_isVanished 4 = .ok (.iload_n 1, 1) := by decide +kernel
theorem dX9_isVanished_5 : decode cX9_isVanished 5 = .ok (.iaload, 1) := by decide +kernel
theorem dX9_isVanished_6 : decode cX9_isVanished 6 = .ok (.ifCond .le 24, 3) := by decide +kernel
theorem dX9_isVanished_9 : decode cX9_isVanished 9 = .ok (.iload_n 2, 1) := by decide +kernel
theorem dX9_isVanished_10 : decode cX9_isVanished 10 = .ok (.aload_n 0, 1) := by decide +kernel
theorem dX9_isVanished_11 : decode cX9_isVanished 11 = .ok (.getfield 25, 3) := by decide +kernel
theorem dX9_isVanished_14 : decode cX9_isVanished 14 = .ok (.iload_n 1, 1) := by decide +kernel
theorem dX9_isVanished_15 : decode cX9_isVanished 15 = .ok (.iaload, 1) := by decide +kernel
theorem dX9_isVanished_16 : decode cX9_isVanished 16 = .ok (.aload_n 0, 1) := by decide +kernel
theorem dX9_isVanished_17 : decode cX9_isVanished 17 = .ok (.getfield 22, 3) := by decide +kernel
theorem dX9_isVanished_20 : decode cX9_isVanished 20 = .ok (.iload_n 1, 1) := by decide +kernel
theorem dX9_isVanished_21 : decode cX9_isVanished 21 = .ok (.iaload, 1) := by decide +kernel
theorem dX9_isVanished_22 : decode cX9_isVanished 22 = .ok (.iadd, 1) := by decide +kernel
theorem dX9_isVanished_23 : decode cX9_isVanished 23 = .ok (.if_icmp .lt 7, 3) := by decide +kernel
theorem dX9_isVanished_26 : decode cX9_isVanished 26 = .ok (.iconst 1, 1) := by decide +kernel
theorem dX9_isVanished_27 : decode cX9_isVanished 27 = .ok (.goto 4, 3) := by decide +kernel
theorem dX9_isVanished_30 : decode cX9_isVanished 30 = .ok (.iconst 0, 1) := by decide +kernel
theorem dX9_isVanished_31 : decode cX9_isVanished 31 = .ok (.ireturn, 1) := by decide +kernel
theorem dX9_layLeft_0 : decode cX9_layLeft 0 = .ok (.iconst 0, 1) := by decide +kernel
theorem dX9_layLeft_1 : decode cX9_layLeft 1 = .ok (.istore_n 2, 1) := by decide +kernel
theorem dX9_layLeft_2 : decode cX9_layLeft 2 = .ok (.iload_n 2, 1) := by decide +kernel
theorem dX9_layLeft_3 : decode cX9_layLeft 3 = .ok (.iload_n 1, 1) := by decide +kernel
theorem dX9_layLeft_4 : decode cX9_layLeft 4 = .ok (.if_icmp .ge 89, 3) := by decide +kernel
theorem dX9_layLeft_7 : decode cX9_layLeft 7 = .ok (.iconst 0, 1) := by decide +kernel
theorem dX9_layLeft_8 : decode cX9_layLeft 8 = .ok (.istore_n 3, 1) := by decide +kernel
theorem dX9_layLeft_9 : decode cX9_layLeft 9 = .ok (.iload_n 3, 1) := by decide +kernel
theorem dX9_layLeft_10 : decode cX9_layLeft 10 = .ok (.iconst 4, 1) := by decide +kernel
theorem dX9_layLeft_11 : decode cX9_layLeft 11 = .ok (.if_icmp .ge 52, 3) := by decide +kernel
theorem dX9_layLeft_14 : decode cX9_layLeft 14 = .ok (.aload_n 0, 1) := by decide +kernel
theorem dX9_layLeft_15 : decode cX9_layLeft 15 = .ok (.getfield 66, 3) := by decide +kernel
theorem dX9_layLeft_18 : decode cX9_layLeft 18 = .ok (.iconst 4, 1) := by decide +kernel
theorem dX9_layLeft_19 : decode cX9_layLeft 19 = .ok (.iload_n 2, 1) := by decide +kernel
theorem dX9_layLeft_20 : decode cX9_layLeft 20 = .ok (.imul, 1) := by decide +kernel
theorem dX9_layLeft_21 : decode cX9_layLeft 21 = .ok (.iload_n 3, 1) := by decide +kernel
theorem dX9_layLeft_22 : decode cX9_layLeft 22 = .ok (.iadd, 1) := by decide +kernel
theorem dX9_layLeft_23 : decode cX9_layLeft 23 = .ok (.aload_n 0, 1) := by decide +kernel
theorem dX9_layLeft_24 : decode cX9_layLeft 24 = .ok (.getfield 69, 3) := by decide +kernel
theorem dX9_layLeft_27 : decode cX9_layLeft 27 = .ok (.iload_n 2, 1) := by decide +kernel
theorem dX9_layLeft_28 : decode cX9_layLeft 28 = .ok (.baload, 1) := by decide +kernel
theorem dX9_layLeft_29 : decode cX9_layLeft 29 = .ok (.ifCond .eq 26, 3) := by decide +kernel
theorem dX9_layLeft_32 : decode cX9_layLeft 32 = .ok (.aload_n 0, 1) := by decide +kernel
theorem dX9_layLeft_33 : decode cX9_layLeft 33 = .ok (.getfield 7, 3) := by decide +kernel
theorem dX9_layLeft_36 : decode cX9_layLeft 36 = .ok (.iload_n 2, 1) := by decide +kernel
theorem dX9_layLeft_37 : decode cX9_layLeft 37 = .ok (.iaload, 1) := by decide +kernel
theorem dX9_layLeft_38 : decode cX9_layLeft 38 = .ok (.iconst 2, 1) := by decide +kernel
theorem dX9_layLeft_39 : decode cX9_layLeft 39 = .ok (.if_icmp .eq 16, 3) := by decide +kernel
theorem dX9_layLeft_42 : decode cX9_layLeft 42 = .ok (.aload_n 0, 1) := by decide +kernel
theorem dX9_layLeft_43 : decode cX9_layLeft 43 = .ok (.getfield 35, 3) := by decide +kernel
theorem dX9_layLeft_46 : decode cX9_layLeft 46 = .ok (.iconst 4, 1) := by decide +kernel
theorem dX9_layLeft_47 : decode cX9_layLeft 47 = .ok (.iload_n 2, 1) := by decide +kernel
theorem dX9_layLeft_48 : decode cX9_layLeft 48 = .ok (.imul, 1) := by decide +kernel
theorem dX9_layLeft_49 : decode cX9_layLeft 49 = .ok (.iload_n 3, 1) := by decide +kernel
theorem dX9_layLeft_50 : decode cX9_layLeft 50 = .ok (.iadd, 1) := by decide +kernel
theorem dX9_layLeft_51 : decode cX9_layLeft 51 = .ok (.laload, 1) := by decide +kernel
theorem dX9_layLeft_52 : decode cX9_layLeft 52 = .ok (.goto 4, 3) := by decide +kernel
theorem dX9_layLeft_55 : decode cX9_layLeft 55 = .ok (.lconst 0, 1) := by decide +kernel
theorem dX9_layLeft_56 : decode cX9_layLeft 56 = .ok (.lastore, 1) := by decide +kernel
theorem dX9_layLeft_57 : decode cX9_layLeft 57 = .ok (.iinc 3 1, 3) := by decide +kernel
theorem dX9_layLeft_60 : decode cX9_layLeft 60 = .ok (.goto (-51), 3) := by decide +kernel
theorem dX9_layLeft_63 : decode cX9_layLeft 63 = .ok (.aload_n 0, 1) := by decide +kernel
theorem dX9_layLeft_64 : decode cX9_layLeft 64 = .ok (.getfield 69, 3) := by decide +kernel
theorem dX9_layLeft_67 : decode cX9_layLeft 67 = .ok (.iload_n 2, 1) := by decide +kernel
theorem dX9_layLeft_68 : decode cX9_layLeft 68 = .ok (.baload, 1) := by decide +kernel
theorem dX9_layLeft_69 : decode cX9_layLeft 69 = .ok (.ifCond .eq 18, 3) := by decide +kernel
theorem dX9_layLeft_72 : decode cX9_layLeft 72 = .ok (.aload_n 0, 1) := by decide +kernel
theorem dX9_layLeft_73 : decode cX9_layLeft 73 = .ok (.getfield 7, 3) := by decide +kernel
theorem dX9_layLeft_76 : decode cX9_layLeft 76 = .ok (.iload_n 2, 1) := by decide +kernel
theorem dX9_layLeft_77 : decode cX9_layLeft 77 = .ok (.iaload, 1) := by decide +kernel
theorem dX9_layLeft_78 : decode cX9_layLeft 78 = .ok (.iconst 2, 1) := by decide +kernel
theorem dX9_layLeft_79 : decode cX9_layLeft 79 = .ok (.if_icmp .ne 8, 3) := by decide +kernel
theorem dX9_layLeft_82 : decode cX9_layLeft 82 = .ok (.aload_n 0, 1) := by decide +kernel
theorem dX9_layLeft_83 : decode cX9_layLeft 83 = .ok (.iload_n 2, 1) := by decide +kernel
theorem dX9_layLeft_84 : decode cX9_layLeft 84 = .ok (.invokevirtual 108, 3) := by decide +kernel
theorem dX9_layLeft_87 : decode cX9_layLeft 87 = .ok (.iinc 2 1, 3) := by decide +kernel
theorem dX9_layLeft_90 : decode cX9_layLeft 90 = .ok (.goto (-88), 3) := by decide +kernel
theorem dX9_layLeft_93 : decode cX9_layLeft 93 = .ok (.return_, 1) := by decide +kernel
theorem dX9_layTop_0 : decode cX9_layTop 0 = .ok (.iconst 0, 1) := by decide +kernel
theorem dX9_layTop_1 : decode cX9_layTop 1 = .ok (.istore_n 3, 1) := by decide +kernel
theorem dX9_layTop_2 : decode cX9_layTop 2 = .ok (.iload_n 3, 1) := by decide +kernel
theorem dX9_layTop_3 : decode cX9_layTop 3 = .ok (.sipush 256, 3) := by decide +kernel
theorem dX9_layTop_6 : decode cX9_layTop 6 = .ok (.if_icmp .ge 16, 3) := by decide +kernel
theorem dX9_layTop_9 : decode cX9_layTop 9 = .ok (.aload_n 0, 1) := by decide +kernel
theorem dX9_layTop_10 : decode cX9_layTop 10 = .ok (.getfield 72, 3) := by decide +kernel
theorem dX9_layTop_13 : decode cX9_layTop 13 = .ok (.iload_n 3, 1) := by decide +kernel
theorem dX9_layTop_14 : decode cX9_layTop 14 = .ok (.iconst (-1), 1) := by decide +kernel
theorem dX9_layTop_15 : decode cX9_layTop 15 = .ok (.iastore, 1) := by decide +kernel
theorem dX9_layTop_16 : decode cX9_layTop 16 = .ok (.iinc 3 1, 3) := by decide +kernel
theorem dX9_layTop_19 : decode cX9_layTop 19 = .ok (.goto (-17), 3) := by decide +kernel
theorem dX9_layTop_22 : decode cX9_layTop 22 = .ok (.iconst 0, 1) := by decide +kernel
theorem dX9_layTop_23 : decode cX9_layTop 23 = .ok (.istore_n 3, 1) := by decide +kernel
theorem dX9_layTop_24 : decode cX9_layTop 24 = .ok (.iload_n 3, 1) := by decide +kernel
theorem dX9_layTop_25 : decode cX9_layTop 25 = .ok (.iload_n 1, 1) := by decide +kernel
theorem dX9_layTop_26 : decode cX9_layTop 26 = .ok (.if_icmp .ge 110, 3) := by decide +kernel
theorem dX9_layTop_29 : decode cX9_layTop 29 = .ok (.aload_n 0, 1) := by decide +kernel
theorem dX9_layTop_30 : decode cX9_layTop 30 = .ok (.iload_n 3, 1) := by decide +kernel
theorem dX9_layTop_31 : decode cX9_layTop 31 = .ok (.iload_n 2, 1) := by decide +kernel
theorem dX9_layTop_32 : decode cX9_layTop 32 = .ok (.invokevirtual 112, 3) := by decide +kernel
theorem dX9_layTop_35 : decode cX9_layTop 35 = .ok (.ifCond .ne 95, 3) := by decide +kernel
theorem dX9_layTop_38 : decode cX9_layTop 38 = .ok (.iconst 0, 1) := by decide +kernel
theorem dX9_layTop_39 : decode cX9_layTop 39 = .ok (.istore 4, 2) := by decide +kernel
theorem dX9_layTop_41 : decode cX9_layTop 41 = .ok (.iload 4, 2) := by decide +kernel
theorem dX9_layTop_43 : decode cX9_layTop 43 = .ok (.sipush 256, 3) := by decide +kernel
theorem dX9_layTop_46 : decode cX9_layTop 46 = .ok (.if_icmp .ge 84, 3) := by decide +kernel
theorem dX9_layTop_49 : decode cX9_layTop 49 = .ok (.aload_n 0, 1) := by decide +kernel
theorem dX9_layTop_50 : decode cX9_layTop 50 = .ok (.getfield 66, 3) := by decide +kernel
theorem dX9_layTop_53 : decode cX9_layTop 53 = .ok (.iload_n 3, 1) := by decide +kernel
theorem dX9_layTop_54 : decode cX9_layTop 54 = .ok (.iload 4, 2) := by decide +kernel
theorem dX9_layTop_56 : decode cX9_layTop 56 = .ok (.invokestatic 115, 3) := by decide +kernel
theorem dX9_layTop_59 : decode cX9_layTop 59 = .ok (.ifCond .eq 39, 3) := by decide +kernel
theorem dX9_layTop_62 : decode cX9_layTop 62 = .ok (.aload_n 0, 1) := by decide +kernel
theorem dX9_layTop_63 : decode cX9_layTop 63 = .ok (.getfield 72, 3) := by decide +kernel
theorem dX9_layTop_66 : decode cX9_layTop 66 = .ok (.iload 4, 2) := by decide +kernel
theorem dX9_layTop_68 : decode cX9_layTop 68 = .ok (.iaload, 1) := by decide +kernel
theorem dX9_layTop_69 : decode cX9_layTop 69 = .ok (.iconst (-1), 1) := by decide +kernel
theorem dX9_layTop_70 : decode cX9_layTop 70 = .ok (.if_icmp .eq 24, 3) := by decide +kernel
theorem dX9_layTop_73 : decode cX9_layTop 73 = .ok (.aload_n 0, 1) := by decide +kernel
theorem dX9_layTop_74 : decode cX9_layTop 74 = .ok (.getfield 16, 3) := by decide +kernel
theorem dX9_layTop_77 : decode cX9_layTop 77 = .ok (.iload_n 3, 1) := by decide +kernel
theorem dX9_layTop_78 : decode cX9_layTop 78 = .ok (.iaload, 1) := by decide +kernel
theorem dX9_layTop_79 : decode cX9_layTop 79 = .ok (.aload_n 0, 1) := by decide +kernel
theorem dX9_layTop_80 : decode cX9_layTop 80 = .ok (.getfield 16, 3) := by decide +kernel
theorem dX9_layTop_83 : decode cX9_layTop 83 = .ok (.aload_n 0, 1) := by decide +kernel
theorem dX9_layTop_84 : decode cX9_layTop 84 = .ok (.getfield 72, 3) := by decide +kernel
theorem dX9_layTop_87 : decode cX9_layTop 87 = .ok (.iload 4, 2) := by decide +kernel
theorem dX9_layTop_89 : decode cX9_layTop 89 = .ok (.iaload, 1) := by decide +kernel
theorem dX9_layTop_90 : decode cX9_layTop 90 = .ok (.iaload, 1) := by decide +kernel
theorem dX9_layTop_91 : decode cX9_layTop 91 = .ok (.if_icmp .lt 7, 3) := by decide +kernel
theorem dX9_layTop_94 : decode cX9_layTop 94 = .ok (.iconst 1, 1) := by decide +kernel
theorem dX9_layTop_95 : decode cX9_layTop 95 = .ok (.goto 4, 3) := by decide +kernel
theorem dX9_layTop_98 : decode cX9_layTop 98 = .ok (.iconst 0, 1) := by decide +kernel
theorem dX9_layTop_99 : decode cX9_layTop 99 = .ok (.istore 5, 2) := by decide +kernel
theorem dX9_layTop_101 : decode cX9_layTop 101 = .ok (.aload_n 0, 1) := by decide +kernel
theorem dX9_layTop_102 : decode cX9_layTop 102 = .ok (.getfield 72, 3) := by decide +kernel
theorem dX9_layTop_105 : decode cX9_layTop 105 = .ok (.iload 4, 2) := by decide +kernel
theorem dX9_layTop_107 : decode cX9_layTop 107 = .ok (.iload 5, 2) := by decide +kernel
theorem dX9_layTop_109 : decode cX9_layTop 109 = .ok (.ifCond .eq 7, 3) := by decide +kernel
theorem dX9_layTop_112 : decode cX9_layTop 112 = .ok (.iload_n 3, 1) := by decide +kernel
theorem dX9_layTop_113 : decode cX9_layTop 113 = .ok (.goto 10, 3) := by decide +kernel
theorem dX9_layTop_116 : decode cX9_layTop 116 = .ok (.aload_n 0, 1) := by decide +kernel
theorem dX9_layTop_117 : decode cX9_layTop 117 = .ok (.getfield 72, 3) := by decide +kernel
theorem dX9_layTop_120 : decode cX9_layTop 120 = .ok (.iload 4, 2) := by decide +kernel
theorem dX9_layTop_122 : decode cX9_layTop 122 = .ok (.iaload, 1) := by decide +kernel
theorem dX9_layTop_123 : decode cX9_layTop 123 = .ok (.iastore, 1) := by decide +kernel
theorem dX9_layTop_124 : decode cX9_layTop 124 = .ok (.iinc 4 1, 3) := by decide +kernel
theorem dX9_layTop_127 : decode cX9_layTop 127 = .ok (.goto (-86), 3) := by decide +kernel
theorem dX9_layTop_130 : decode cX9_layTop 130 = .ok (.iinc 3 1, 3) := by decide +kernel
theorem dX9_layTop_133 : decode cX9_layTop 133 = .ok (.goto (-109), 3) := by decide +kernel
theorem dX9_layTop_136 : decode cX9_layTop 136 = .ok (.return_, 1) := by decide +kernel
theorem dX9_layAt_0 : decode cX9_layAt 0 = .ok (.iconst 0, 1) := by decide +kernel
theorem dX9_layAt_1 : decode cX9_layAt 1 = .ok (.istore_n 2, 1) := by decide +kernel
theorem dX9_layAt_2 : decode cX9_layAt 2 = .ok (.iload_n 2, 1) := by decide +kernel
theorem dX9_layAt_3 : decode cX9_layAt 3 = .ok (.aload_n 0, 1) := by decide +kernel
theorem dX9_layAt_4 : decode cX9_layAt 4 = .ok (.getfield 95, 3) := by decide +kernel
theorem dX9_layAt_7 : decode cX9_layAt 7 = .ok (.if_icmp .ge 21, 3) := by decide +kernel
theorem dX9_layAt_10 : decode cX9_layAt 10 = .ok (.aload_n 0, 1) := by decide +kernel
theorem dX9_layAt_11 : decode cX9_layAt 11 = .ok (.getfield 69, 3) := by decide +kernel
theorem dX9_layAt_14 : decode cX9_layAt 14 = .ok (.iload_n 2, 1) := by decide +kernel
theorem dX9_layAt_15 : decode cX9_layAt 15 = .ok (.aload_n 0, 1) := by decide +kernel
theorem dX9_layAt_16 : decode cX9_layAt 16 = .ok (.getfield 28, 3) := by decide +kernel
theorem dX9_layAt_19 : decode cX9_layAt 19 = .ok (.iload_n 2, 1) := by decide +kernel
theorem dX9_layAt_20 : decode cX9_layAt 20 = .ok (.baload, 1) := by decide +kernel
theorem dX9_layAt_21 : decode cX9_layAt 21 = .ok (.bastore, 1) := by decide +kernel
theorem dX9_layAt_22 : decode cX9_layAt 22 = .ok (.iinc 2 1, 3) := by decide +kernel
theorem dX9_layAt_25 : decode cX9_layAt 25 = .ok (.goto (-23), 3) := by decide +kernel
theorem dX9_layAt_28 : decode cX9_layAt 28 = .ok (.aload_n 0, 1) := by decide +kernel
theorem dX9_layAt_29 : decode cX9_layAt 29 = .ok (.aload_n 0, 1) := by decide +kernel
theorem dX9_layAt_30 : decode cX9_layAt 30 = .ok (.getfield 95, 3) := by decide +kernel
theorem dX9_layAt_33 : decode cX9_layAt 33 = .ok (.invokevirtual 119, 3) := by decide +kernel
theorem dX9_layAt_36 : decode cX9_layAt 36 = .ok (.aload_n 0, 1) := by decide +kernel
theorem dX9_layAt_37 : decode cX9_layAt 37 = .ok (.aload_n 0, 1) := by decide +kernel
theorem dX9_layAt_38 : decode cX9_layAt 38 = .ok (.getfield 95, 3) := by decide +kernel
theorem dX9_layAt_41 : decode cX9_layAt 41 = .ok (.iload_n 1, 1) := by decide +kernel
theorem dX9_layAt_42 : decode cX9_layAt 42 = .ok (.invokevirtual 122, 3) := by decide +kernel
theorem dX9_layAt_45 : decode cX9_layAt 45 = .ok (.return_, 1) := by decide +kernel
theorem dX9_layNow_0 : decode cX9_layNow 0 = .ok (.aload_n 0, 1) := by decide +kernel
theorem dX9_layNow_1 : decode cX9_layNow 1 = .ok (.aload_n 0, 1) := by decide +kernel
theorem dX9_layNow_2 : decode cX9_layNow 2 = .ok (.getfield 126, 3) := by decide +kernel
theorem dX9_layNow_5 : decode cX9_layNow 5 = .ok (.invokevirtual 129, 3) := by decide +kernel
theorem dX9_layNow_8 : decode cX9_layNow 8 = .ok (.return_, 1) := by decide +kernel
theorem dX9_shown_0 : decode cX9_shown 0 = .ok (.aload_n 0, 1) := by decide +kernel
theorem dX9_shown_1 : decode cX9_shown 1 = .ok (.getfield 72, 3) := by decide +kernel
theorem dX9_shown_4 : decode cX9_shown 4 = .ok (.iload_n 1, 1) := by decide +kernel
theorem dX9_shown_5 : decode cX9_shown 5 = .ok (.iaload, 1) := by decide +kernel
theorem dX9_shown_6 : decode cX9_shown 6 = .ok (.iconst (-1), 1) := by decide +kernel
theorem dX9_shown_7 : decode cX9_shown 7 = .ok (.if_icmp .ne 7, 3) := by decide +kernel
theorem dX9_shown_10 : decode cX9_shown 10 = .ok (.iconst 0, 1) := by decide +kernel
theorem dX9_shown_11 : decode cX9_shown 11 = .ok (.goto 14, 3) := by decide +kernel
theorem dX9_shown_14 : decode cX9_shown 14 = .ok (.aload_n 0, 1) := by decide +kernel
theorem dX9_shown_15 : decode cX9_shown 15 = .ok (.getfield 19, 3) := by decide +kernel
theorem dX9_shown_18 : decode cX9_shown 18 = .ok (.aload_n 0, 1) := by decide +kernel
theorem dX9_shown_19 : decode cX9_shown 19 = .ok (.getfield 72, 3) := by decide +kernel
theorem dX9_shown_22 : decode cX9_shown 22 = .ok (.iload_n 1, 1) := by decide +kernel
theorem dX9_shown_23 : decode cX9_shown 23 = .ok (.iaload, 1) := by decide +kernel
theorem dX9_shown_24 : decode cX9_shown 24 = .ok (.iaload, 1) := by decide +kernel
theorem dX9_shown_25 : decode cX9_shown 25 = .ok (.ireturn, 1) := by decide +kernel
theorem dX9_keepPicture_0 : decode cX9_keepPicture 0 = .ok (.iconst 0, 1) := by decide +kernel
theorem dX9_keepPicture_1 : decode cX9_keepPicture 1 = .ok (.istore_n 1, 1) := by decide +kernel
theorem dX9_keepPicture_2 : decode cX9_keepPicture 2 = .ok (.iload_n 1, 1) := by decide +kernel
theorem dX9_keepPicture_3 : decode cX9_keepPicture 3 = .ok (.sipush 256, 3) := by decide +kernel
theorem dX9_keepPicture_6 : decode cX9_keepPicture 6 = .ok (.if_icmp .ge 20, 3) := by decide +kernel
theorem dX9_keepPicture_9 : decode cX9_keepPicture 9 = .ok (.aload_n 0, 1) := by decide +kernel
theorem dX9_keepPicture_10 : decode cX9_keepPicture 10 = .ok (.getfield 75, 3) := by decide +kernel
theorem dX9_keepPicture_13 : decode cX9_keepPicture 13 = .ok (.iload_n 1, 1) := by decide +kernel
theorem dX9_keepPicture_14 : decode cX9_keepPicture 14 = .ok (.aload_n 0, 1) := by decide +kernel
theorem dX9_keepPicture_15 : decode cX9_keepPicture 15 = .ok (.iload_n 1, 1) := by decide +kernel
theorem dX9_keepPicture_16 : decode cX9_keepPicture 16 = .ok (.invokevirtual 132, 3) := by decide +kernel
theorem dX9_keepPicture_19 : decode cX9_keepPicture 19 = .ok (.iastore, 1) := by decide +kernel
theorem dX9_keepPicture_20 : decode cX9_keepPicture 20 = .ok (.iinc 1 1, 3) := by decide +kernel
theorem dX9_keepPicture_23 : decode cX9_keepPicture 23 = .ok (.goto (-21), 3) := by decide +kernel
theorem dX9_keepPicture_26 : decode cX9_keepPicture 26 = .ok (.return_, 1) := by decide +kernel
theorem dX9_others_0 : decode cX9_others 0 = .ok (.iconst 0, 1) := by decide +kernel
theorem dX9_others_1 : decode cX9_others 1 = .ok (.istore_n 1, 1) := by decide +kernel
theorem dX9_others_2 : decode cX9_others 2 = .ok (.iconst 0, 1) := by decide +kernel
theorem dX9_others_3 : decode cX9_others 3 = .ok (.istore_n 2, 1) := by decide +kernel
theorem dX9_others_4 : decode cX9_others 4 = .ok (.iload_n 2, 1) := by decide +kernel
theorem dX9_others_5 : decode cX9_others 5 = .ok (.sipush 256, 3) := by decide +kernel
theorem dX9_others_8 : decode cX9_others 8 = .ok (.if_icmp .ge 31, 3) := by decide +kernel
theorem dX9_others_11 : decode cX9_others 11 = .ok (.iload_n 1, 1) := by decide +kernel
theorem dX9_others_12 : decode cX9_others 12 = .ok (.aload_n 0, 1) := by decide +kernel
theorem dX9_others_13 : decode cX9_others 13 = .ok (.getfield 75, 3) := by decide +kernel
theorem dX9_others_16 : decode cX9_others 16 = .ok (.iload_n 2, 1) := by decide +kernel
theorem dX9_others_17 : decode cX9_others 17 = .ok (.iaload, 1) := by decide +kernel
theorem dX9_others_18 : decode cX9_others 18 = .ok (.aload_n 0, 1) := by decide +kernel
theorem dX9_others_19 : decode cX9_others 19 = .ok (.iload_n 2, 1) := by decide +kernel
theorem dX9_others_20 : decode cX9_others 20 = .ok (.invokevirtual 132, 3) := by decide +kernel
theorem dX9_others_23 : decode cX9_others 23 = .ok (.if_icmp .ne 7, 3) := by decide +kernel
theorem dX9_others_26 : decode cX9_others 26 = .ok (.iconst 0, 1) := by decide +kernel
theorem dX9_others_27 : decode cX9_others 27 = .ok (.goto 4, 3) := by decide +kernel
theorem dX9_others_30 : decode cX9_others 30 = .ok (.iconst 1, 1) := by decide +kernel
theorem dX9_others_31 : decode cX9_others 31 = .ok (.iadd, 1) := by decide +kernel
theorem dX9_others_32 : decode cX9_others 32 = .ok (.istore_n 1, 1) := by decide +kernel
theorem dX9_others_33 : decode cX9_others 33 = .ok (.iinc 2 1, 3) := by decide +kernel
theorem dX9_others_36 : decode cX9_others 36 = .ok (.goto (-32), 3) := by decide +kernel
theorem dX9_others_39 : decode cX9_others 39 = .ok (.iload_n 1, 1) := by decide +kernel
theorem dX9_others_40 : decode cX9_others 40 = .ok (.ireturn, 1) := by decide +kernel
theorem dX9_clear_0 : decode cX9_clear 0 = .ok (.aload_n 0, 1) := by decide +kernel
theorem dX9_clear_1 : decode cX9_clear 1 = .ok (.iconst 0, 1) := by decide +kernel
theorem dX9_clear_2 : decode cX9_clear 2 = .ok (.putfield 87, 3) := by decide +kernel
theorem dX9_clear_5 : decode cX9_clear 5 = .ok (.aload_n 0, 1) := by decide +kernel
theorem dX9_clear_6 : decode cX9_clear 6 = .ok (.getfield 95, 3) := by decide +kernel
theorem dX9_clear_9 : decode cX9_clear 9 = .ok (.istore_n 1, 1) := by decide +kernel
theorem dX9_clear_10 : decode cX9_clear 10 = .ok (.aload_n 0, 1) := by decide +kernel
theorem dX9_clear_11 : decode cX9_clear 11 = .ok (.iconst 0, 1) := by decide +kernel
theorem dX9_clear_12 : decode cX9_clear 12 = .ok (.putfield 95, 3) := by decide +kernel
theorem dX9_clear_15 : decode cX9_clear 15 = .ok (.aload_n 0, 1) := by decide +kernel
theorem dX9_clear_16 : decode cX9_clear 16 = .ok (.iconst 0, 1) := by decide +kernel
theorem dX9_clear_17 : decode cX9_clear 17 = .ok (.putfield 126, 3) := by decide +kernel
theorem dX9_clear_20 : decode cX9_clear 20 = .ok (.aload_n 0, 1) := by decide +kernel
theorem dX9_clear_21 : decode cX9_clear 21 = .ok (.iconst 0, 1) := by decide +kernel
theorem dX9_clear_22 : decode cX9_clear 22 = .ok (.putfield 136, 3) := by decide +kernel
theorem dX9_clear_25 : decode cX9_clear 25 = .ok (.aload_n 0, 1) := by decide +kernel
theorem dX9_clear_26 : decode cX9_clear 26 = .ok (.iconst 0, 1) := by decide +kernel
theorem dX9_clear_27 : decode cX9_clear 27 = .ok (.putfield 139, 3) := by decide +kernel
theorem dX9_clear_30 : decode cX9_clear 30 = .ok (.iconst 0, 1) := by decide +kernel
theorem dX9_clear_31 : decode cX9_clear 31 = .ok (.istore_n 2, 1) := by decide +kernel
theorem dX9_clear_32 : decode cX9_clear 32 = .ok (.iload_n 2, 1) := by decide +kernel
theorem dX9_clear_33 : decode cX9_clear 33 = .ok (.bipush 6, 2) := by decide +kernel
theorem dX9_clear_35 : decode cX9_clear 35 = .ok (.if_icmp .ge 16, 3) := by decide +kernel
theorem dX9_clear_38 : decode cX9_clear 38 = .ok (.aload_n 0, 1) := by decide +kernel
theorem dX9_clear_39 : decode cX9_clear 39 = .ok (.getfield 60, 3) := by decide +kernel
theorem dX9_clear_42 : decode cX9_clear 42 = .ok (.iload_n 2, 1) := by decide +kernel
theorem dX9_clear_43 : decode cX9_clear 43 = .ok (.iconst 0, 1) := by decide +kernel
theorem dX9_clear_44 : decode cX9_clear 44 = .ok (.bastore, 1) := by decide +kernel
theorem dX9_clear_45 : decode cX9_clear 45 = .ok (.iinc 2 1, 3) := by decide +kernel
theorem dX9_clear_48 : decode cX9_clear 48 = .ok (.goto (-16), 3) := by decide +kernel
theorem dX9_clear_51 : decode cX9_clear 51 = .ok (.iload_n 1, 1) := by decide +kernel
theorem dX9_clear_52 : decode cX9_clear 52 = .ok (.ireturn, 1) := by decide +kernel
theorem dX9_dropLeases_0 : decode cX9_dropLeases 0 = .ok (.iconst 0, 1) := by decide +kernel
theorem dX9_dropLeases_1 : decode cX9_dropLeases 1 = .ok (.istore_n 2, 1) := by decide +kernel
theorem dX9_dropLeases_2 : decode cX9_dropLeases 2 = .ok (.iconst 0, 1) := by decide +kernel
theorem dX9_dropLeases_3 : decode cX9_dropLeases 3 = .ok (.istore_n 3, 1) := by decide +kernel
theorem dX9_dropLeases_4 : decode cX9_dropLeases 4 = .ok (.iload_n 3, 1) := by decide +kernel
theorem dX9_dropLeases_5 : decode cX9_dropLeases 5 = .ok (.aload_n 0, 1) := by decide +kernel
theorem dX9_dropLeases_6 : decode cX9_dropLeases 6 = .ok (.getfield 136, 3) := by decide +kernel
theorem dX9_dropLeases_9 : decode cX9_dropLeases 9 = .ok (.if_icmp .ge 83, 3) := by decide +kernel
theorem dX9_dropLeases_12 : decode cX9_dropLeases 12 = .ok (.aload_n 0, 1) := by decide +kernel
theorem dX9_dropLeases_13 : decode cX9_dropLeases 13 = .ok (.getfield 48, 3) := by decide +kernel
theorem dX9_dropLeases_16 : decode cX9_dropLeases 16 = .ok (.iload_n 3, 1) := by decide +kernel
theorem dX9_dropLeases_17 : decode cX9_dropLeases 17 = .ok (.iaload, 1) := by decide +kernel
theorem dX9_dropLeases_18 : decode cX9_dropLeases 18 = .ok (.aload_n 0, 1) := by decide +kernel
theorem dX9_dropLeases_19 : decode cX9_dropLeases 19 = .ok (.getfield 126, 3) := by decide +kernel
theorem dX9_dropLeases_22 : decode cX9_dropLeases 22 = .ok (.if_icmp .le 64, 3) := by decide +kernel
theorem dX9_dropLeases_25 : decode cX9_dropLeases 25 = .ok (.aload_n 0, 1) := by decide +kernel
theorem dX9_dropLeases_26 : decode cX9_dropLeases 26 = .ok (.getfield 39, 3) := by decide +kernel
theorem dX9_dropLeases_29 : decode cX9_dropLeases 29 = .ok (.iload_n 3, 1) := by decide +kernel
theorem dX9_dropLeases_30 : decode cX9_dropLeases 30 = .ok (.iaload, 1) := by decide +kernel
theorem dX9_dropLeases_31 : decode cX9_dropLeases 31 = .ok (.iload_n 1, 1) := by decide +kernel
theorem dX9_dropLeases_32 : decode cX9_dropLeases 32 = .ok (.if_icmp .eq 54, 3) := by decide +kernel
theorem dX9_dropLeases_35 : decode cX9_dropLeases 35 = .ok (.aload_n 0, 1) := by decide +kernel
theorem dX9_dropLeases_36 : decode cX9_dropLeases 36 = .ok (.getfield 39, 3) := by decide +kernel
theorem dX9_dropLeases_39 : decode cX9_dropLeases 39 = .ok (.iload_n 2, 1) := by decide +kernel
theorem dX9_dropLeases_40 : decode cX9_dropLeases 40 = .ok (.aload_n 0, 1) := by decide +kernel
theorem dX9_dropLeases_41 : decode cX9_dropLeases 41 = .ok (.getfield 39, 3) := by decide +kernel
theorem dX9_dropLeases_44 : decode cX9_dropLeases 44 = .ok (.iload_n 3, 1) := by decide +kernel
theorem dX9_dropLeases_45 : decode cX9_dropLeases 45 = .ok (.iaload, 1) := by decide +kernel
theorem dX9_dropLeases_46 : decode cX9_dropLeases 46 = .ok (.iastore, 1) := by decide +kernel
theorem dX9_dropLeases_47 : decode cX9_dropLeases 47 = .ok (.aload_n 0, 1) := by decide +kernel
theorem dX9_dropLeases_48 : decode cX9_dropLeases 48 = .ok (.getfield 42, 3) := by decide +kernel
theorem dX9_dropLeases_51 : decode cX9_dropLeases 51 = .ok (.iload_n 2, 1) := by decide +kernel
theorem dX9_dropLeases_52 : decode cX9_dropLeases 52 = .ok (.aload_n 0, 1) := by decide +kernel
theorem dX9_dropLeases_53 : decode cX9_dropLeases 53 = .ok (.getfield 42, 3) := by decide +kernel
theorem dX9_dropLeases_56 : decode cX9_dropLeases 56 = .ok (.iload_n 3, 1) := by decide +kernel
theorem dX9_dropLeases_57 : decode cX9_dropLeases 57 = .ok (.iaload, 1) := by decide +kernel
theorem dX9_dropLeases_58 : decode cX9_dropLeases 58 = .ok (.iastore, 1) := by decide +kernel
theorem dX9_dropLeases_59 : decode cX9_dropLeases 59 = .ok (.aload_n 0, 1) := by decide +kernel
theorem dX9_dropLeases_60 : decode cX9_dropLeases 60 = .ok (.getfield 45, 3) := by decide +kernel
theorem dX9_dropLeases_63 : decode cX9_dropLeases 63 = .ok (.iload_n 2, 1) := by decide +kernel
theorem dX9_dropLeases_64 : decode cX9_dropLeases 64 = .ok (.aload_n 0, 1) := by decide +kernel
theorem dX9_dropLeases_65 : decode cX9_dropLeases 65 = .ok (.getfield 45, 3) := by decide +kernel
theorem dX9_dropLeases_68 : decode cX9_dropLeases 68 = .ok (.iload_n 3, 1) := by decide +kernel
theorem dX9_dropLeases_69 : decode cX9_dropLeases 69 = .ok (.iaload, 1) := by decide +kernel
theorem dX9_dropLeases_70 : decode cX9_dropLeases 70 = .ok (.iastore, 1) := by decide +kernel
theorem dX9_dropLeases_71 : decode cX9_dropLeases 71 = .ok (.aload_n 0, 1) := by decide +kernel
theorem dX9_dropLeases_72 : decode cX9_dropLeases 72 = .ok (.getfield 48, 3) := by decide +kernel
theorem dX9_dropLeases_75 : decode cX9_dropLeases 75 = .ok (.iload_n 2, 1) := by decide +kernel
theorem dX9_dropLeases_76 : decode cX9_dropLeases 76 = .ok (.aload_n 0, 1) := by decide +kernel
theorem dX9_dropLeases_77 : decode cX9_dropLeases 77 = .ok (.getfield 48, 3) := by decide +kernel
theorem dX9_dropLeases_80 : decode cX9_dropLeases 80 = .ok (.iload_n 3, 1) := by decide +kernel
theorem dX9_dropLeases_81 : decode cX9_dropLeases 81 = .ok (.iaload, 1) := by decide +kernel
theorem dX9_dropLeases_82 : decode cX9_dropLeases 82 = .ok (.iastore, 1) := by decide +kernel
theorem dX9_dropLeases_83 : decode cX9_dropLeases 83 = .ok (.iinc 2 1, 3) := by decide +kernel
theorem dX9_dropLeases_86 : decode cX9_dropLeases 86 = .ok (.iinc 3 1, 3) := by decide +kernel
theorem dX9_dropLeases_89 : decode cX9_dropLeases 89 = .ok (.goto (-85), 3) := by decide +kernel
theorem dX9_dropLeases_92 : decode cX9_dropLeases 92 = .ok (.aload_n 0, 1) := by decide +kernel
theorem dX9_dropLeases_93 : decode cX9_dropLeases 93 = .ok (.iload_n 2, 1) := by decide +kernel
theorem dX9_dropLeases_94 : decode cX9_dropLeases 94 = .ok (.putfield 136, 3) := by decide +kernel
theorem dX9_dropLeases_97 : decode cX9_dropLeases 97 = .ok (.return_, 1) := by decide +kernel
theorem dX9_pass_0 : decode cX9_pass 0 = .ok (.aload_n 0, 1) := by decide +kernel
theorem dX9_pass_1 : decode cX9_pass 1 = .ok (.iload_n 1, 1) := by decide +kernel
theorem dX9_pass_2 : decode cX9_pass 2 = .ok (.iconst 1, 1) := by decide +kernel
theorem dX9_pass_3 : decode cX9_pass 3 = .ok (.sipush 1000, 3) := by decide +kernel
theorem dX9_pass_6 : decode cX9_pass 6 = .ok (.invokestatic 91, 3) := by decide +kernel
theorem dX9_pass_9 : decode cX9_pass 9 = .ok (.ifCond .ne 7, 3) := by decide +kernel
theorem dX9_pass_12 : decode cX9_pass 12 = .ok (.iconst 1, 1) := by decide +kernel
theorem dX9_pass_13 : decode cX9_pass 13 = .ok (.goto 19, 3) := by decide +kernel
theorem dX9_pass_16 : decode cX9_pass 16 = .ok (.aload_n 0, 1) := by decide +kernel
theorem dX9_pass_17 : decode cX9_pass 17 = .ok (.getfield 126, 3) := by decide +kernel
theorem dX9_pass_20 : decode cX9_pass 20 = .ok (.iload_n 1, 1) := by decide +kernel
theorem dX9_pass_21 : decode cX9_pass 21 = .ok (.iadd, 1) := by decide +kernel
theorem dX9_pass_22 : decode cX9_pass 22 = .ok (.ldc 142, 2) := by decide +kernel
theorem dX9_pass_24 : decode cX9_pass 24 = .ok (.if_icmp .le 7, 3) := by decide +kernel
theorem dX9_pass_27 : decode cX9_pass 27 = .ok (.iconst 2, 1) := by decide +kernel
theorem dX9_pass_28 : decode cX9_pass 28 = .ok (.goto 4, 3) := by decide +kernel
theorem dX9_pass_31 : decode cX9_pass 31 = .ok (.iconst 0, 1) := by decide +kernel
theorem dX9_pass_32 : decode cX9_pass 32 = .ok (.putfield 87, 3) := by decide +kernel
theorem dX9_pass_35 : decode cX9_pass 35 = .ok (.aload_n 0, 1) := by decide +kernel
theorem dX9_pass_36 : decode cX9_pass 36 = .ok (.getfield 87, 3) := by decide +kernel
theorem dX9_pass_39 : decode cX9_pass 39 = .ok (.ifCond .le 5, 3) := by decide +kernel
theorem dX9_pass_42 : decode cX9_pass 42 = .ok (.iconst 0, 1) := by decide +kernel
theorem dX9_pass_43 : decode cX9_pass 43 = .ok (.ireturn, 1) := by decide +kernel
theorem dX9_pass_44 : decode cX9_pass 44 = .ok (.aload_n 0, 1) := by decide +kernel
theorem dX9_pass_45 : decode cX9_pass 45 = .ok (.dup, 1) := by decide +kernel
theorem dX9_pass_46 : decode cX9_pass 46 = .ok (.getfield 126, 3) := by decide +kernel
theorem dX9_pass_49 : decode cX9_pass 49 = .ok (.iload_n 1, 1) := by decide +kernel
theorem dX9_pass_50 : decode cX9_pass 50 = .ok (.iadd, 1) := by decide +kernel
theorem dX9_pass_51 : decode cX9_pass 51 = .ok (.putfield 126, 3) := by decide +kernel
theorem dX9_pass_54 : decode cX9_pass 54 = .ok (.aload_n 0, 1) := by decide +kernel
theorem dX9_pass_55 : decode cX9_pass 55 = .ok (.iconst (-1), 1) := by decide +kernel
theorem dX9_pass_56 : decode cX9_pass 56 = .ok (.invokevirtual 143, 3) := by decide +kernel
theorem dX9_pass_59 : decode cX9_pass 59 = .ok (.aload_n 0, 1) := by decide +kernel
theorem dX9_pass_60 : decode cX9_pass 60 = .ok (.getfield 126, 3) := by decide +kernel
theorem dX9_pass_63 : decode cX9_pass 63 = .ok (.ireturn, 1) := by decide +kernel
theorem dX9_append_0 : decode cX9_append 0 = .ok (.aload_n 0, 1) := by decide +kernel
theorem dX9_append_1 : decode cX9_append 1 = .ok (.iload_n 1, 1) := by decide +kernel
theorem dX9_append_2 : decode cX9_append 2 = .ok (.bipush 33, 2) := by decide +kernel
theorem dX9_append_4 : decode cX9_append 4 = .ok (.bipush 126, 2) := by decide +kernel
theorem dX9_append_6 : decode cX9_append 6 = .ok (.invokestatic 91, 3) := by decide +kernel
theorem dX9_append_9 : decode cX9_append 9 = .ok (.ifCond .ne 7, 3) := by decide +kernel
theorem dX9_append_12 : decode cX9_append 12 = .ok (.iconst 1, 1) := by decide +kernel
theorem dX9_append_13 : decode cX9_append 13 = .ok (.goto 17, 3) := by decide +kernel
theorem dX9_append_16 : decode cX9_append 16 = .ok (.aload_n 0, 1) := by decide +kernel
theorem dX9_append_17 : decode cX9_append 17 = .ok (.getfield 146, 3) := by decide +kernel
theorem dX9_append_20 : decode cX9_append 20 = .ok (.bipush 40, 2) := by decide +kernel
theorem dX9_append_22 : decode cX9_append 22 = .ok (.if_icmp .ne 7, 3) := by decide +kernel
theorem dX9_append_25 : decode cX9_append 25 = .ok (.iconst 2, 1) := by decide +kernel
theorem dX9_append_26 : decode cX9_append 26 = .ok (.goto 4, 3) := by decide +kernel
theorem dX9_append_29 : decode cX9_append 29 = .ok (.iconst 0, 1) := by decide +kernel
theorem dX9_append_30 : decode cX9_append 30 = .ok (.putfield 87, 3) := by decide +kernel
theorem dX9_append_33 : decode cX9_append 33 = .ok (.aload_n 0, 1) := by decide +kernel
theorem dX9_append_34 : decode cX9_append 34 = .ok (.getfield 87, 3) := by decide +kernel
theorem dX9_append_37 : decode cX9_append 37 = .ok (.ifCond .le 5, 3) := by decide +kernel
theorem dX9_append_40 : decode cX9_append 40 = .ok (.iconst 0, 1) := by decide +kernel
theorem dX9_append_41 : decode cX9_append 41 = .ok (.ireturn, 1) := by decide +kernel
theorem dX9_append_42 : decode cX9_append 42 = .ok (.aload_n 0, 1) := by decide +kernel
theorem dX9_append_43 : decode cX9_append 43 = .ok (.getfield 63, 3) := by decide +kernel
theorem dX9_append_46 : decode cX9_append 46 = .ok (.aload_n 0, 1) := by decide +kernel
theorem dX9_append_47 : decode cX9_append 47 = .ok (.getfield 146, 3) := by decide +kernel
theorem dX9_append_50 : decode cX9_append 50 = .ok (.iload_n 1, 1) := by decide +kernel
theorem dX9_append_51 : decode cX9_append 51 = .ok (.iastore, 1) := by decide +kernel
theorem dX9_append_52 : decode cX9_append 52 = .ok (.aload_n 0, 1) := by decide +kernel
theorem dX9_append_53 : decode cX9_append 53 = .ok (.dup, 1) := by decide +kernel
theorem dX9_append_54 : decode cX9_append 54 = .ok (.getfield 146, 3) := by decide +kernel
theorem dX9_append_57 : decode cX9_append 57 = .ok (.iconst 1, 1) := by decide +kernel
theorem dX9_append_58 : decode cX9_append 58 = .ok (.iadd, 1) := by decide +kernel
theorem dX9_append_59 : decode cX9_append 59 = .ok (.putfield 146, 3) := by decide +kernel
theorem dX9_append_62 : decode cX9_append 62 = .ok (.aload_n 0, 1) := by decide +kernel
theorem dX9_append_63 : decode cX9_append 63 = .ok (.getfield 146, 3) := by decide +kernel
theorem dX9_append_66 : decode cX9_append 66 = .ok (.ireturn, 1) := by decide +kernel
theorem dX9_clearBuffer_0 : decode cX9_clearBuffer 0 = .ok (.aload_n 0, 1) := by decide +kernel
theorem dX9_clearBuffer_1 : decode cX9_clearBuffer 1 = .ok (.iconst 0, 1) := by decide +kernel
theorem dX9_clearBuffer_2 : decode cX9_clearBuffer 2 = .ok (.putfield 87, 3) := by decide +kernel
theorem dX9_clearBuffer_5 : decode cX9_clearBuffer 5 = .ok (.aload_n 0, 1) := by decide +kernel
theorem dX9_clearBuffer_6 : decode cX9_clearBuffer 6 = .ok (.getfield 146, 3) := by decide +kernel
theorem dX9_clearBuffer_9 : decode cX9_clearBuffer 9 = .ok (.istore_n 1, 1) := by decide +kernel
theorem dX9_clearBuffer_10 : decode cX9_clearBuffer 10 = .ok (.aload_n 0, 1) := by decide +kernel
theorem dX9_clearBuffer_11 : decode cX9_clearBuffer 11 = .ok (.iconst 0, 1) := by decide +kernel
theorem dX9_clearBuffer_12 : decode cX9_clearBuffer 12 = .ok (.putfield 146, 3) := by decide +kernel
theorem dX9_clearBuffer_15 : decode cX9_clearBuffer 15 = .ok (.iload_n 1, 1) := by decide +kernel
theorem dX9_clearBuffer_16 : decode cX9_clearBuffer 16 = .ok (.ireturn, 1) := by decide +kernel
theorem dX9_takes_0 : decode cX9_takes 0 = .ok (.aload_n 0, 1) := by decide +kernel
theorem dX9_takes_1 : decode cX9_takes 1 = .ok (.getfield 78, 3) := by decide +kernel
theorem dX9_takes_4 : decode cX9_takes 4 = .ok (.aload_n 0, 1) := by decide +kernel
theorem dX9_takes_5 : decode cX9_takes 5 = .ok (.getfield 149, 3) := by decide +kernel
theorem dX9_takes_8 : decode cX9_takes 8 = .ok (.iaload, 1) := by decide +kernel
theorem dX9_takes_9 : decode cX9_takes 9 = .ok (.istore_n 2, 1) := by decide +kernel
theorem dX9_takes_10 : decode cX9_takes 10 = .ok (.iload_n 1, 1) := by decide +kernel
theorem dX9_takes_11 : decode cX9_takes 11 = .ok (.bipush 48, 2) := by decide +kernel
theorem dX9_takes_13 : decode cX9_takes 13 = .ok (.bipush 57, 2) := by decide +kernel
theorem dX9_takes_15 : decode cX9_takes 15 = .ok (.invokestatic 91, 3) := by decide +kernel
theorem dX9_takes_18 : decode cX9_takes 18 = .ok (.ifCond .eq 59, 3) := by decide +kernel
theorem dX9_takes_21 : decode cX9_takes 21 = .ok (.iload_n 2, 1) := by decide +kernel
theorem dX9_takes_22 : decode cX9_takes 22 = .ok (.iconst (-1), 1) := by decide +kernel
theorem dX9_takes_23 : decode cX9_takes 23 = .ok (.if_icmp .eq 14, 3) := by decide +kernel
theorem dX9_takes_26 : decode cX9_takes 26 = .ok (.iload_n 2, 1) := by decide +kernel
theorem dX9_takes_27 : decode cX9_takes 27 = .ok (.iconst 1, 1) := by decide +kernel
theorem dX9_takes_28 : decode cX9_takes 28 = .ok (.if_icmp .ne 13, 3) := by decide +kernel
theorem dX9_takes_31 : decode cX9_takes 31 = .ok (.iload_n 1, 1) := by decide +kernel
theorem dX9_takes_32 : decode cX9_takes 32 = .ok (.bipush 53, 2) := by decide +kernel
theorem dX9_takes_34 : decode cX9_takes 34 = .ok (.if_icmp .gt 7, 3) := by decide +kernel
theorem dX9_takes_37 : decode cX9_takes 37 = .ok (.iconst 1, 1) := by decide +kernel
theorem dX9_takes_38 : decode cX9_takes 38 = .ok (.goto 4, 3) := by decide +kernel
theorem dX9_takes_41 : decode cX9_takes 41 = .ok (.iconst 0, 1) := by decide +kernel
theorem dX9_takes_42 : decode cX9_takes 42 = .ok (.istore_n 3, 1) := by decide +kernel
theorem dX9_takes_43 : decode cX9_takes 43 = .ok (.iload_n 3, 1) := by decide +kernel
theorem dX9_takes_44 : decode cX9_takes 44 = .ok (.ifCond .eq 31, 3) := by decide +kernel
theorem dX9_takes_47 : decode cX9_takes 47 = .ok (.aload_n 0, 1) := by decide +kernel
theorem dX9_takes_48 : decode cX9_takes 48 = .ok (.getfield 78, 3) := by decide +kernel
theorem dX9_takes_51 : decode cX9_takes 51 = .ok (.aload_n 0, 1) := by decide +kernel
theorem dX9_takes_52 : decode cX9_takes 52 = .ok (.getfield 149, 3) := by decide +kernel
theorem dX9_takes_55 : decode cX9_takes 55 = .ok (.iload_n 2, 1) := by decide +kernel
theorem dX9_takes_56 : decode cX9_takes 56 = .ok (.iconst (-1), 1) := by decide +kernel
theorem dX9_takes_57 : decode cX9_takes 57 = .ok (.if_icmp .ne 10, 3) := by decide +kernel
theorem dX9_takes_60 : decode cX9_takes 60 = .ok (.iload_n 1, 1) := by decide +kernel
theorem dX9_takes_61 : decode cX9_takes 61 = .ok (.bipush 48, 2) := by decide +kernel
theorem dX9_takes_63 : decode cX9_takes 63 = .ok (.isub, 1) := by decide +kernel
theorem dX9_takes_64 : decode cX9_takes 64 = .ok (.goto 10, 3) := by decide +kernel
theorem dX9_takes_67 : decode cX9_takes 67 = .ok (.bipush 10, 2) := by decide +kernel
theorem dX9_takes_69 : decode cX9_takes 69 = .ok (.iload_n 1, 1) := by decide +kernel
theorem dX9_takes_70 : decode cX9_takes 70 = .ok (.iadd, 1) := by decide +kernel
theorem dX9_takes_71 : decode cX9_takes 71 = .ok (.bipush 48, 2) := by decide +kernel
theorem dX9_takes_73 : decode cX9_takes 73 = .ok (.isub, 1) := by decide +kernel
theorem dX9_takes_74 : decode cX9_takes 74 = .ok (.iastore, 1) := by decide +kernel
theorem dX9_takes_75 : decode cX9_takes 75 = .ok (.iload_n 3, 1) := by decide +kernel
theorem dX9_takes_76 : decode cX9_takes 76 = .ok (.ireturn, 1) := by decide +kernel
theorem dX9_takes_77 : decode cX9_takes 77 = .ok (.iload_n 2, 1) := by decide +kernel
theorem dX9_takes_78 : decode cX9_takes 78 = .ok (.iconst (-1), 1) := by decide +kernel
theorem dX9_takes_79 : decode cX9_takes 79 = .ok (.if_icmp .eq 40, 3) := by decide +kernel
theorem dX9_takes_82 : decode cX9_takes 82 = .ok (.aload_n 0, 1) := by decide +kernel
theorem dX9_takes_83 : decode cX9_takes 83 = .ok (.getfield 149, 3) := by decide +kernel
theorem dX9_takes_86 : decode cX9_takes 86 = .ok (.iconst 2, 1) := by decide +kernel
theorem dX9_takes_87 : decode cX9_takes 87 = .ok (.irem, 1) := by decide +kernel
theorem dX9_takes_88 : decode cX9_takes 88 = .ok (.ifCond .ne 12, 3) := by decide +kernel
theorem dX9_takes_91 : decode cX9_takes 91 = .ok (.iload_n 1, 1) := by decide +kernel
theorem dX9_takes_92 : decode cX9_takes 92 = .ok (.bipush 44, 2) := by decide +kernel
theorem dX9_takes_94 : decode cX9_takes 94 = .ok (.if_icmp .ne 25, 3) := by decide +kernel
theorem dX9_takes_97 : decode cX9_takes 97 = .ok (.goto 18, 3) := by decide +kernel
theorem dX9_takes_100 : decode cX9_takes 100 = .ok (.iload_n 1, 1) := by decide +kernel
theorem dX9_takes_101 : decode cX9_takes 101 = .ok (.bipush 45, 2) := by decide +kernel
theorem dX9_takes_103 : decode cX9_takes 103 = .ok (.if_icmp .ne 16, 3) := by decide +kernel
theorem dX9_takes_106 : decode cX9_takes 106 = .ok (.aload_n 0, 1) := by decide +kernel
theorem dX9_takes_107 : decode cX9_takes 107 = .ok (.getfield 149, 3) := by decide +kernel
theorem dX9_takes_110 : decode cX9_takes 110 = .ok (.bipush 11, 2) := by decide +kernel
theorem dX9_takes_112 : decode cX9_takes 112 = .ok (.if_icmp .ge 7, 3) := by decide +kernel
theorem dX9_takes_115 : decode cX9_takes 115 = .ok (.iconst 1, 1) := by decide +kernel
theorem dX9_takes_116 : decode cX9_takes 116 = .ok (.goto 4, 3) := by decide +kernel
theorem dX9_takes_119 : decode cX9_takes 119 = .ok (.iconst 0, 1) := by decide +kernel
theorem dX9_takes_120 : decode cX9_takes 120 = .ok (.istore_n 3, 1) := by decide +kernel
theorem dX9_takes_121 : decode cX9_takes 121 = .ok (.iload_n 3, 1) := by decide +kernel
theorem dX9_takes_122 : decode cX9_takes 122 = .ok (.ifCond .eq 23, 3) := by decide +kernel
theorem dX9_takes_125 : decode cX9_takes 125 = .ok (.aload_n 0, 1) := by decide +kernel
theorem dX9_takes_126 : decode cX9_takes 126 = .ok (.dup, 1) := by decide +kernel
theorem dX9_takes_127 : decode cX9_takes 127 = .ok (.getfield 149, 3) := by decide +kernel
theorem dX9_takes_130 : decode cX9_takes 130 = .ok (.iconst 1, 1) := by decide +kernel
theorem dX9_takes_131 : decode cX9_takes 131 = .ok (.iadd, 1) := by decide +kernel
theorem dX9_takes_132 : decode cX9_takes 132 = .ok (.putfield 149, 3) := by decide +kernel
theorem dX9_takes_135 : decode cX9_takes 135 = .ok (.aload_n 0, 1) := by decide +kernel
theorem dX9_takes_136 : decode cX9_takes 136 = .ok (.getfield 78, 3) := by decide +kernel
theorem dX9_takes_139 : decode cX9_takes 139 = .ok (.aload_n 0, 1) := by decide +kernel
theorem dX9_takes_140 : decode cX9_takes 140 = .ok (.getfield 149, 3) := by decide +kernel
theorem dX9_takes_143 : decode cX9_takes 143 = .ok (.iconst (-1), 1) := by decide +kernel
theorem dX9_takes_144 : decode cX9_takes 144 = .ok (.iastore, 1) := by decide +kernel
theorem dX9_takes_145 : decode cX9_takes 145 = .ok (.iload_n 3, 1) := by decide +kernel
theorem dX9_takes_146 : decode cX9_takes 146 = .ok (.ireturn, 1) := by decide +kernel
theorem dX9_read_0 : decode cX9_read 0 = .ok (.aload_n 0, 1) := by decide +kernel
theorem dX9_read_1 : decode cX9_read 1 = .ok (.iconst 0, 1) := by decide +kernel
theorem dX9_read_2 : decode cX9_read 2 = .ok (.putfield 149, 3) := by decide +kernel
theorem dX9_read_5 : decode cX9_read 5 = .ok (.aload_n 0, 1) := by decide +kernel
theorem dX9_read_6 : decode cX9_read 6 = .ok (.getfield 78, 3) := by decide +kernel
theorem dX9_read_9 : decode cX9_read 9 = .ok (.iconst 0, 1) := by decide +kernel
theorem dX9_read_10 : decode cX9_read 10 = .ok (.iconst (-1), 1) := by decide +kernel
theorem dX9_read_11 : decode cX9_read 11 = .ok (.iastore, 1) := by decide +kernel
theorem dX9_read_12 : decode cX9_read 12 = .ok (.iconst 0, 1) := by decide +kernel
theorem dX9_read_13 : decode cX9_read 13 = .ok (.istore_n 1, 1) := by decide +kernel
theorem dX9_read_14 : decode cX9_read 14 = .ok (.iload_n 1, 1) := by decide +kernel
theorem dX9_read_15 : decode cX9_read 15 = .ok (.aload_n 0, 1) := by decide +kernel
theorem dX9_read_16 : decode cX9_read 16 = .ok (.getfield 146, 3) := by decide +kernel
theorem dX9_read_19 : decode cX9_read 19 = .ok (.if_icmp .ge 22, 3) := by decide +kernel
theorem dX9_read_22 : decode cX9_read 22 = .ok (.aload_n 0, 1) := by decide +kernel
theorem dX9_read_23 : decode cX9_read 23 = .ok (.aload_n 0, 1) := by decide +kernel
theorem dX9_read_24 : decode cX9_read 24 = .ok (.getfield 63, 3) := by decide +kernel
theorem dX9_read_27 : decode cX9_read 27 = .ok (.iload_n 1, 1) := by decide +kernel
theorem dX9_read_28 : decode cX9_read 28 = .ok (.iaload, 1) := by decide +kernel
theorem dX9_read_29 : decode cX9_read 29 = .ok (.invokevirtual 152, 3) := by decide +kernel
theorem dX9_read_32 : decode cX9_read 32 = .ok (.ifCond .eq 9, 3) := by decide +kernel
theorem dX9_read_35 : decode cX9_read 35 = .ok (.iinc 1 1, 3) := by decide +kernel
theorem dX9_read_38 : decode cX9_read 38 = .ok (.goto (-24), 3) := by decide +kernel
theorem dX9_read_41 : decode cX9_read 41 = .ok (.iload_n 1, 1) := by decide +kernel
theorem dX9_read_42 : decode cX9_read 42 = .ok (.ireturn, 1) := by decide +kernel
theorem dX9_firstError_0 : decode cX9_firstError 0 = .ok (.aload_n 0, 1) := by decide +kernel
theorem dX9_firstError_1 : decode cX9_firstError 1 = .ok (.iconst 0, 1) := by decide +kernel
theorem dX9_firstError_2 : decode cX9_firstError 2 = .ok (.putfield 87, 3) := by decide +kernel
theorem dX9_firstError_5 : decode cX9_firstError 5 = .ok (.aload_n 0, 1) := by decide +kernel
theorem dX9_firstError_6 : decode cX9_firstError 6 = .ok (.invokevirtual 156, 3) := by decide +kernel
theorem dX9_firstError_9 : decode cX9_firstError 9 = .ok (.ireturn, 1) := by decide +kernel
theorem dX9_isPath_0 : decode cX9_isPath 0 = .ok (.aload_n 0, 1) := by decide +kernel
theorem dX9_isPath_1 : decode cX9_isPath 1 = .ok (.invokevirtual 156, 3) := by decide +kernel
theorem dX9_isPath_4 : decode cX9_isPath 4 = .ok (.aload_n 0, 1) := by decide +kernel
theorem dX9_isPath_5 : decode cX9_isPath 5 = .ok (.getfield 146, 3) := by decide +kernel
theorem dX9_isPath_8 : decode cX9_isPath 8 = .ok (.if_icmp .ne 30, 3) := by decide +kernel
theorem dX9_isPath_11 : decode cX9_isPath 11 = .ok (.aload_n 0, 1) := by decide +kernel
theorem dX9_isPath_12 : decode cX9_isPath 12 = .ok (.getfield 149, 3) := by decide +kernel
theorem dX9_isPath_15 : decode cX9_isPath 15 = .ok (.iconst 2, 1) := by decide +kernel
theorem dX9_isPath_16 : decode cX9_isPath 16 = .ok (.irem, 1) := by decide +kernel
theorem dX9_isPath_17 : decode cX9_isPath 17 = .ok (.iconst 1, 1) := by decide +kernel
theorem dX9_isPath_18 : decode cX9_isPath 18 = .ok (.if_icmp .ne 20, 3) := by decide +kernel
theorem dX9_isPath_21 : decode cX9_isPath 21 = .ok (.aload_n 0, 1) := by decide +kernel
theorem dX9_isPath_22 : decode cX9_isPath 22 = .ok (.getfield 78, 3) := by decide +kernel
theorem dX9_isPath_25 : decode cX9_isPath 25 = .ok (.aload_n 0, 1) := by decide +kernel
theorem dX9_isPath_26 : decode cX9_isPath 26 = .ok (.getfield 149, 3) := by decide +kernel
theorem dX9_isPath_29 : decode cX9_isPath 29 = .ok (.iaload, 1) := by decide +kernel
theorem dX9_isPath_30 : decode cX9_isPath 30 = .ok (.iconst (-1), 1) := by decide +kernel
theorem dX9_isPath_31 : decode cX9_isPath 31 = .ok (.if_icmp .eq 7, 3) := by decide +kernel
theorem dX9_isPath_34 : decode cX9_isPath 34 = .ok (.iconst 1, 1) := by decide +kernel
theorem dX9_isPath_35 : decode cX9_isPath 35 = .ok (.goto 4, 3) := by decide +kernel
theorem dX9_isPath_38 : decode cX9_isPath 38 = .ok (.iconst 0, 1) := by decide +kernel
theorem dX9_isPath_39 : decode cX9_isPath 39 = .ok (.ireturn, 1) := by decide +kernel
theorem dX9_rounded_0 : decode cX9_rounded 0 = .ok (.iload_n 0, 1) := by decide +kernel
theorem dX9_rounded_1 : decode cX9_rounded 1 = .ok (.ifCond .ge 17, 3) := by decide +kernel
theorem dX9_rounded_4 : decode cX9_rounded 4 = .ok (.iconst 2, 1) := by decide +kernel
theorem dX9_rounded_5 : decode cX9_rounded 5 = .ok (.iload_n 0, 1) := by decide +kernel
theorem dX9_rounded_6 : decode cX9_rounded 6 = .ok (.ineg, 1) := by decide +kernel
theorem dX9_rounded_7 : decode cX9_rounded 7 = .ok (.imul, 1) := by decide +kernel
theorem dX9_rounded_8 : decode cX9_rounded 8 = .ok (.iload_n 1, 1) := by decide +kernel
theorem dX9_rounded_9 : decode cX9_rounded 9 = .ok (.iadd, 1) := by decide +kernel
theorem dX9_rounded_10 : decode cX9_rounded 10 = .ok (.iconst 2, 1) := by decide +kernel
theorem dX9_rounded_11 : decode cX9_rounded 11 = .ok (.iload_n 1, 1) := by decide +kernel
theorem dX9_rounded_12 : decode cX9_rounded 12 = .ok (.imul, 1) := by decide +kernel
theorem dX9_rounded_13 : decode cX9_rounded 13 = .ok (.idiv, 1) := by decide +kernel
theorem dX9_rounded_14 : decode cX9_rounded 14 = .ok (.ineg, 1) := by decide +kernel
theorem dX9_rounded_15 : decode cX9_rounded 15 = .ok (.goto 12, 3) := by decide +kernel
theorem dX9_rounded_18 : decode cX9_rounded 18 = .ok (.iconst 2, 1) := by decide +kernel
theorem dX9_rounded_19 : decode cX9_rounded 19 = .ok (.iload_n 0, 1) := by decide +kernel
theorem dX9_rounded_20 : decode cX9_rounded 20 = .ok (.imul, 1) := by decide +kernel
theorem dX9_rounded_21 : decode cX9_rounded 21 = .ok (.iload_n 1, 1) := by decide +kernel
theorem dX9_rounded_22 : decode cX9_rounded 22 = .ok (.iadd, 1) := by decide +kernel
theorem dX9_rounded_23 : decode cX9_rounded 23 = .ok (.iconst 2, 1) := by decide +kernel
theorem dX9_rounded_24 : decode cX9_rounded 24 = .ok (.iload_n 1, 1) := by decide +kernel
theorem dX9_rounded_25 : decode cX9_rounded 25 = .ok (.imul, 1) := by decide +kernel
theorem dX9_rounded_26 : decode cX9_rounded 26 = .ok (.idiv, 1) := by decide +kernel
theorem dX9_rounded_27 : decode cX9_rounded 27 = .ok (.ireturn, 1) := by decide +kernel
theorem dX9_addCell_0 : decode cX9_addCell 0 = .ok (.aload_n 0, 1) := by decide +kernel
theorem dX9_addCell_1 : decode cX9_addCell 1 = .ok (.getfield 35, 3) := by decide +kernel
theorem dX9_addCell_4 : decode cX9_addCell 4 = .ok (.iconst 4, 1) := by decide +kernel
theorem dX9_addCell_5 : decode cX9_addCell 5 = .ok (.aload_n 0, 1) := by decide +kernel
theorem dX9_addCell_6 : decode cX9_addCell 6 = .ok (.getfield 95, 3) := by decide +kernel
theorem dX9_addCell_9 : decode cX9_addCell 9 = .ok (.imul, 1) := by decide +kernel
theorem dX9_addCell_10 : decode cX9_addCell 10 = .ok (.iload_n 1, 1) := by decide +kernel
theorem dX9_addCell_11 : decode cX9_addCell 11 = .ok (.bipush 64, 2) := by decide +kernel
theorem dX9_addCell_13 : decode cX9_addCell 13 = .ok (.idiv, 1) := by decide +kernel
theorem dX9_addCell_14 : decode cX9_addCell 14 = .ok (.iadd, 1) := by decide +kernel
theorem dX9_addCell_15 : decode cX9_addCell 15 = .ok (.dup2, 1) := by decide +kernel
theorem dX9_addCell_16 : decode cX9_addCell 16 = .ok (.laload, 1) := by decide +kernel
theorem dX9_addCell_17 : decode cX9_addCell 17 = .ok (.lconst 1, 1) := by decide +kernel
theorem dX9_addCell_18 : decode cX9_addCell 18 = .ok (.iload_n 1, 1) := by decide +kernel
theorem dX9_addCell_19 : decode cX9_addCell 19 = .ok (.bipush 64, 2) := by decide +kernel
theorem dX9_addCell_21 : decode cX9_addCell 21 = .ok (.irem, 1) := by decide +kernel
theorem dX9_addCell_22 : decode cX9_addCell 22 = .ok (.lshl, 1) := by decide +kernel
theorem dX9_addCell_23 : decode cX9_addCell 23 = .ok (.lor, 1) := by decide +kernel
theorem dX9_addCell_24 : decode cX9_addCell 24 = .ok (.lastore, 1) := by decide +kernel
theorem dX9_addCell_25 : decode cX9_addCell 25 = .ok (.return_, 1) := by decide +kernel
theorem dX9_addLine_0 : decode cX9_addLine 0 = .ok (.iload_n 3, 1) := by decide +kernel
theorem dX9_addLine_1 : decode cX9_addLine 1 = .ok (.iload_n 1, 1) := by decide +kernel
theorem dX9_addLine_2 : decode cX9_addLine 2 = .ok (.if_icmp .le 9, 3) := by decide +kernel
theorem dX9_addLine_5 : decode cX9_addLine 5 = .ok (.iload_n 3, 1) := by decide +kernel
theorem dX9_addLine_6 : decode cX9_addLine 6 = .ok (.iload_n 1, 1) := by decide +kernel
theorem dX9_addLine_7 : decode cX9_addLine 7 = .ok (.isub, 1) := by decide +kernel
theorem dX9_addLine_8 : decode cX9_addLine 8 = .ok (.goto 6, 3) := by decide +kernel
theorem dX9_addLine_11 : decode cX9_addLine 11 = .ok (.iload_n 1, 1) := by decide +kernel
theorem dX9_addLine_12 : decode cX9_addLine 12 = .ok (.iload_n 3, 1) := by decide +kernel
theorem dX9_addLine_13 : decode cX9_addLine 13 = .ok (.isub, 1) := by decide +kernel
theorem dX9_addLine_14 : decode cX9_addLine 14 = .ok (.istore 5, 2) := by decide +kernel
theorem dX9_addLine_16 : decode cX9_addLine 16 = .ok (.iload 4, 2) := by decide +kernel
theorem dX9_addLine_18 : decode cX9_addLine 18 = .ok (.iload_n 2, 1) := by decide +kernel
theorem dX9_addLine_19 : decode cX9_addLine 19 = .ok (.if_icmp .le 10, 3) := by decide +kernel
theorem dX9_addLine_22 : decode cX9_addLine 22 = .ok (.iload 4, 2) := by decide +kernel
theorem dX9_addLine_24 : decode cX9_addLine 24 = .ok (.iload_n 2, 1) := by decide +kernel
theorem dX9_addLine_25 : decode cX9_addLine 25 = .ok (.isub, 1) := by decide +kernel
theorem dX9_addLine_26 : decode cX9_addLine 26 = .ok (.goto 7, 3) := by decide +kernel
theorem dX9_addLine_29 : decode cX9_addLine 29 = .ok (.iload_n 2, 1) := by decide +kernel
theorem dX9_addLine_30 : decode cX9_addLine 30 = .ok (.iload 4, 2) := by decide +kernel
theorem dX9_addLine_32 : decode cX9_addLine 32 = .ok (.isub, 1) := by decide +kernel
theorem dX9_addLine_33 : decode cX9_addLine 33 = .ok (.istore 6, 2) := by decide +kernel
theorem dX9_addLine_35 : decode cX9_addLine 35 = .ok (.iload 5, 2) := by decide +kernel
theorem dX9_addLine_37 : decode cX9_addLine 37 = .ok (.iload 6, 2) := by decide +kernel
theorem dX9_addLine_39 : decode cX9_addLine 39 = .ok (.if_icmp .le 8, 3) := by decide +kernel
theorem dX9_addLine_42 : decode cX9_addLine 42 = .ok (.iload 5, 2) := by decide +kernel
theorem dX9_addLine_44 : decode cX9_addLine 44 = .ok (.goto 5, 3) := by decide +kernel
theorem dX9_addLine_47 : decode cX9_addLine 47 = .ok (.iload 6, 2) := by decide +kernel
theorem dX9_addLine_49 : decode cX9_addLine 49 = .ok (.istore 7, 2) := by decide +kernel
theorem dX9_addLine_51 : decode cX9_addLine 51 = .ok (.aload_n 0, 1) := by decide +kernel
theorem dX9_addLine_52 : decode cX9_addLine 52 = .ok (.bipush 16, 2) := by decide +kernel
theorem dX9_addLine_54 : decode cX9_addLine 54 = .ok (.iload_n 2, 1) := by decide +kernel
theorem dX9_addLine_55 : decode cX9_addLine 55 = .ok (.imul, 1) := by decide +kernel
theorem dX9_addLine_56 : decode cX9_addLine 56 = .ok (.iload_n 1, 1) := by decide +kernel
theorem dX9_addLine_57 : decode cX9_addLine 57 = .ok (.iadd, 1) := by decide +kernel
theorem dX9_addLine_58 : decode cX9_addLine 58 = .ok (.invokevirtual 160, 3) := by decide +kernel
theorem dX9_addLine_61 : decode cX9_addLine 61 = .ok (.iconst 1, 1) := by decide +kernel
theorem dX9_addLine_62 : decode cX9_addLine 62 = .ok (.istore 8, 2) := by decide +kernel
theorem dX9_addLine_64 : decode cX9_addLine 64 = .ok (.iload 8, 2) := by decide +kernel
theorem dX9_addLine_66 : decode cX9_addLine 66 = .ok (.iload 7, 2) := by decide +kernel
theorem dX9_addLine_68 : decode cX9_addLine 68 = .ok (.if_icmp .gt 44, 3) := by decide +kernel
theorem dX9_addLine_71 : decode cX9_addLine 71 = .ok (.aload_n 0, 1) := by decide +kernel
theorem dX9_addLine_72 : decode cX9_addLine 72 = .ok (.bipush 16, 2) := by decide +kernel
theorem dX9_addLine_74 : decode cX9_addLine 74 = .ok (.iload_n 2, 1) := by decide +kernel
theorem dX9_addLine_75 : decode cX9_addLine 75 = .ok (.iload 8, 2) := by decide +kernel
theorem dX9_addLine_77 : decode cX9_addLine 77 = .ok (.iload 4, 2) := by decide +kernel
theorem dX9_addLine_79 : decode cX9_addLine 79 = .ok (.iload_n 2, 1) := by decide +kernel
theorem dX9_addLine_80 : decode cX9_addLine 80 = .ok (.isub, 1) := by decide +kernel
theorem dX9_addLine_81 : decode cX9_addLine 81 = .ok (.imul, 1) := by decide +kernel
theorem dX9_addLine_82 : decode cX9_addLine 82 = .ok (.iload 7, 2) := by decide +kernel
theorem dX9_addLine_84 : decode cX9_addLine 84 = .ok (.invokestatic 163, 3) := by decide +kernel
theorem dX9_addLine_87 : decode cX9_addLine 87 = .ok (.iadd, 1) := by decide +kernel
theorem dX9_addLine_88 : decode cX9_addLine 88 = .ok (.imul, 1) := by decide +kernel
theorem dX9_addLine_89 : decode cX9_addLine 89 = .ok (.iload_n 1, 1) := by decide +kernel
theorem dX9_addLine_90 : decode cX9_addLine 90 = .ok (.iadd, 1) := by decide +kernel
theorem dX9_addLine_91 : decode cX9_addLine 91 = .ok (.iload 8, 2) := by decide +kernel
theorem dX9_addLine_93 : decode cX9_addLine 93 = .ok (.iload_n 3, 1) := by decide +kernel
theorem dX9_addLine_94 : decode cX9_addLine 94 = .ok (.iload_n 1, 1) := by decide +kernel
theorem dX9_addLine_95 : decode cX9_addLine 95 = .ok (.isub, 1) := by decide +kernel
theorem dX9_addLine_96 : decode cX9_addLine 96 = .ok (.imul, 1) := by decide +kernel
theorem dX9_addLine_97 : decode cX9_addLine 97 = .ok (.iload 7, 2) := by decide +kernel
theorem dX9_addLine_99 : decode cX9_addLine 99 = .ok (.invokestatic 163, 3) := by decide +kernel
theorem dX9_addLine_102 : decode cX9_addLine 102 = .ok (.iadd, 1) := by decide +kernel
theorem dX9_addLine_103 : decode cX9_addLine 103 = .ok (.invokevirtual 160, 3) := by decide +kernel
theorem dX9_addLine_106 : decode cX9_addLine 106 = .ok (.iinc 8 1, 3) := by decide +kernel
theorem dX9_addLine_109 : decode cX9_addLine 109 = .ok (.goto (-45), 3) := by decide +kernel
theorem dX9_addLine_112 : decode cX9_addLine 112 = .ok (.return_, 1) := by decide +kernel
theorem dX9_isInLease_0 : decode cX9_isInLease 0 = .ok (.aload_n 0, 1) := by decide +kernel
theorem dX9_isInLease_1 : decode cX9_isInLease 1 = .ok (.getfield 42, 3) := by decide +kernel
theorem dX9_isInLease_4 : decode cX9_isInLease 4 = .ok (.iload_n 1, 1) := by decide +kernel
theorem dX9_isInLease_5 : decode cX9_isInLease 5 = .ok (.iaload, 1) := by decide +kernel
theorem dX9_isInLease_6 : decode cX9_isInLease 6 = .ok (.bipush 16, 2) := by decide +kernel
theorem dX9_isInLease_8 : decode cX9_isInLease 8 = .ok (.irem, 1) := by decide +kernel
theorem dX9_isInLease_9 : decode cX9_isInLease 9 = .ok (.istore_n 3, 1) := by decide +kernel
theorem dX9_isInLease_10 : decode cX9_isInLease 10 = .ok (.aload_n 0, 1) := by decide +kernel
theorem dX9_isInLease_11 : decode cX9_isInLease 11 = .ok (.getfield 45, 3) := by decide +kernel
theorem dX9_isInLease_14 : decode cX9_isInLease 14 = .ok (.iload_n 1, 1) := by decide +kernel
theorem dX9_isInLease_15 : decode cX9_isInLease 15 = .ok (.iaload, 1) := by decide +kernel
theorem dX9_isInLease_16 : decode cX9_isInLease 16 = .ok (.bipush 16, 2) := by decide +kernel
theorem dX9_isInLease_18 : decode cX9_isInLease 18 = .ok (.irem, 1) := by decide +kernel
theorem dX9_isInLease_19 : decode cX9_isInLease 19 = .ok (.istore 4, 2) := by decide +kernel
theorem dX9_isInLease_21 : decode cX9_isInLease 21 = .ok (.aload_n 0, 1) := by decide +kernel
theorem dX9_isInLease_22 : decode cX9_isInLease 22 = .ok (.getfield 42, 3) := by decide +kernel
theorem dX9_isInLease_25 : decode cX9_isInLease 25 = .ok (.iload_n 1, 1) := by decide +kernel
theorem dX9_isInLease_26 : decode cX9_isInLease 26 = .ok (.iaload, 1) := by decide +kernel
theorem dX9_isInLease_27 : decode cX9_isInLease 27 = .ok (.bipush 16, 2) := by decide +kernel
theorem dX9_isInLease_29 : decode cX9_isInLease 29 = .ok (.idiv, 1) := by decide +kernel
theorem dX9_isInLease_30 : decode cX9_isInLease 30 = .ok (.istore 5, 2) := by decide +kernel
theorem dX9_isInLease_32 : decode cX9_isInLease 32 = .ok (.aload_n 0, 1) := by decide +kernel
theorem dX9_isInLease_33 : decode cX9_isInLease 33 = .ok (.getfield 45, 3) := by decide +kernel
theorem dX9_isInLease_36 : decode cX9_isInLease 36 = .ok (.iload_n 1, 1) := by decide +kernel
theorem dX9_isInLease_37 : decode cX9_isInLease 37 = .ok (.iaload, 1) := by decide +kernel
theorem dX9_isInLease_38 : decode cX9_isInLease 38 = .ok (.bipush 16, 2) := by decide +kernel
theorem dX9_isInLease_40 : decode cX9_isInLease 40 = .ok (.idiv, 1) := by decide +kernel
theorem dX9_isInLease_41 : decode cX9_isInLease 41 = .ok (.istore 6, 2) := by decide +kernel
theorem dX9_isInLease_43 : decode cX9_isInLease 43 = .ok (.iload_n 2, 1) := by decide +kernel
theorem dX9_isInLease_44 : decode cX9_isInLease 44 = .ok (.bipush 16, 2) := by decide +kernel
theorem dX9_isInLease_46 : decode cX9_isInLease 46 = .ok (.irem, 1) := by decide +kernel
theorem dX9_isInLease_47 : decode cX9_isInLease 47 = .ok (.iload_n 3, 1) := by decide +kernel
theorem dX9_isInLease_48 : decode cX9_isInLease 48 = .ok (.iload 4, 2) := by decide +kernel
theorem dX9_isInLease_50 : decode cX9_isInLease 50 = .ok (.if_icmp .ge 7, 3) := by decide +kernel
theorem dX9_isInLease_53 : decode cX9_isInLease 53 = .ok (.iload_n 3, 1) := by decide +kernel
theorem dX9_isInLease_54 : decode cX9_isInLease 54 = .ok (.goto 5, 3) := by decide +kernel
theorem dX9_isInLease_57 : decode cX9_isInLease 57 = .ok (.iload 4, 2) := by decide +kernel
theorem dX9_isInLease_59 : decode cX9_isInLease 59 = .ok (.iload_n 3, 1) := by decide +kernel
theorem dX9_isInLease_60 : decode cX9_isInLease 60 = .ok (.iload 4, 2) := by decide +kernel
theorem dX9_isInLease_62 : decode cX9_isInLease 62 = .ok (.if_icmp .ge 8, 3) := by decide +kernel
theorem dX9_isInLease_65 : decode cX9_isInLease 65 = .ok (.iload 4, 2) := by decide +kernel
theorem dX9_isInLease_67 : decode cX9_isInLease 67 = .ok (.goto 4, 3) := by decide +kernel
theorem dX9_isInLease_70 : decode cX9_isInLease 70 = .ok (.iload_n 3, 1) := by decide +kernel
theorem dX9_isInLease_71 : decode cX9_isInLease 71 = .ok (.invokestatic 91, 3) := by decide +kernel
theorem dX9_isInLease_74 : decode cX9_isInLease 74 = .ok (.istore 7, 2) := by decide +kernel
theorem dX9_isInLease_76 : decode cX9_isInLease 76 = .ok (.iload 7, 2) := by decide +kernel
theorem dX9_isInLease_78 : decode cX9_isInLease 78 = .ok (.ifCond .eq 45, 3) := by decide +kernel
theorem dX9_isInLease_81 : decode cX9_isInLease 81 = .ok (.iload_n 2, 1) := by decide +kernel
theorem dX9_isInLease_82 : decode cX9_isInLease 82 = .ok (.bipush 16, 2) := by decide +kernel
theorem dX9_isInLease_84 : decode cX9_isInLease 84 = .ok (.idiv, 1) := by decide +kernel
theorem dX9_isInLease_85 : decode cX9_isInLease 85 = .ok (.iload 5, 2) := by decide +kernel
theorem dX9_isInLease_87 : decode cX9_isInLease 87 = .ok (.iload 6, 2) := by decide +kernel
theorem dX9_isInLease_89 : decode cX9_isInLease 89 = .ok (.if_icmp .ge 8, 3) := by decide +kernel
theorem dX9_isInLease_92 : decode cX9_isInLease 92 = .ok (.iload 5, 2) := by decide +kernel
theorem dX9_isInLease_94 : decode cX9_isInLease 94 = .ok (.goto 5, 3) := by decide +kernel
theorem dX9_isInLease_97 : decode cX9_isInLease 97 = .ok (.iload 6, 2) := by decide +kernel
theorem dX9_isInLease_99 : decode cX9_isInLease 99 = .ok (.iload 5, 2) := by decide +kernel
theorem dX9_isInLease_101 : decode cX9_isInLease 101 = .ok (.iload 6, 2) := by decide +kernel
theorem dX9_isInLease_103 : decode cX9_isInLease 103 = .ok (.if_icmp .ge 8, 3) := by decide +kernel
theorem dX9_isInLease_106 : decode cX9_isInLease 106 = .ok (.iload 6, 2) := by decide +kernel
theorem dX9_isInLease_108 : decode cX9_isInLease 108 = .ok (.goto 5, 3) := by decide +kernel
theorem dX9_isInLease_111 : decode cX9_isInLease 111 = .ok (.iload 5, 2) := by decide +kernel
theorem dX9_isInLease_113 : decode cX9_isInLease 113 = .ok (.invokestatic 91, 3) := by decide +kernel
theorem dX9_isInLease_116 : decode cX9_isInLease 116 = .ok (.ifCond .eq 7, 3) := by decide +kernel
theorem dX9_isInLease_119 : decode cX9_isInLease 119 = .ok (.iconst 1, 1) := by decide +kernel
theorem dX9_isInLease_120 : decode cX9_isInLease 120 = .ok (.goto 4, 3) := by decide +kernel
theorem dX9_isInLease_123 : decode cX9_isInLease 123 = .ok (.iconst 0, 1) := by decide +kernel
theorem dX9_isInLease_124 : decode cX9_isInLease 124 = .ok (.ireturn, 1) := by decide +kernel
theorem dX9_isClosed_0 : decode cX9_isClosed 0 = .ok (.iconst 0, 1) := by decide +kernel
theorem dX9_isClosed_1 : decode cX9_isClosed 1 = .ok (.istore_n 3, 1) := by decide +kernel
theorem dX9_isClosed_2 : decode cX9_isClosed 2 = .ok (.iconst 0, 1) := by decide +kernel
theorem dX9_isClosed_3 : decode cX9_isClosed 3 = .ok (.istore 4, 2) := by decide +kernel
theorem dX9_isClosed_5 : decode cX9_isClosed 5 = .ok (.iload 4, 2) := by decide +kernel
theorem dX9_isClosed_7 : decode cX9_isClosed 7 = .ok (.aload_n 0, 1) := by decide +kernel
theorem dX9_isClosed_8 : decode cX9_isClosed 8 = .ok (.getfield 136, 3) := by decide +kernel
theorem dX9_isClosed_11 : decode cX9_isClosed 11 = .ok (.if_icmp .ge 40, 3) := by decide +kernel
theorem dX9_isClosed_14 : decode cX9_isClosed 14 = .ok (.iload_n 3, 1) := by decide +kernel
theorem dX9_isClosed_15 : decode cX9_isClosed 15 = .ok (.ifCond .ne 24, 3) := by decide +kernel
theorem dX9_isClosed_18 : decode cX9_isClosed 18 = .ok (.aload_n 0, 1) := by decide +kernel
theorem dX9_isClosed_19 : decode cX9_isClosed 19 = .ok (.getfield 39, 3) := by decide +kernel
theorem dX9_isClosed_22 : decode cX9_isClosed 22 = .ok (.iload 4, 2) := by decide +kernel
theorem dX9_isClosed_24 : decode cX9_isClosed 24 = .ok (.iaload, 1) := by decide +kernel
theorem dX9_isClosed_25 : decode cX9_isClosed 25 = .ok (.iload_n 1, 1) := by decide +kernel
theorem dX9_isClosed_26 : decode cX9_isClosed 26 = .ok (.if_icmp .eq 17, 3) := by decide +kernel
theorem dX9_isClosed_29 : decode cX9_isClosed 29 = .ok (.aload_n 0, 1) := by decide +kernel
theorem dX9_isClosed_30 : decode cX9_isClosed 30 = .ok (.iload 4, 2) := by decide +kernel
theorem dX9_isClosed_32 : decode cX9_isClosed 32 = .ok (.iload_n 2, 1) := by decide +kernel
theorem dX9_isClosed_33 : decode cX9_isClosed 33 = .ok (.invokevirtual 167, 3) := by decide +kernel
theorem dX9_isClosed_36 : decode cX9_isClosed 36 = .ok (.ifCond .eq 7, 3) := by decide +kernel
theorem dX9_isClosed_39 : decode cX9_isClosed 39 = .ok (.iconst 1, 1) := by decide +kernel
theorem dX9_isClosed_40 : decode cX9_isClosed 40 = .ok (.goto 4, 3) := by decide +kernel
theorem dX9_isClosed_43 : decode cX9_isClosed 43 = .ok (.iconst 0, 1) := by decide +kernel
theorem dX9_isClosed_44 : decode cX9_isClosed 44 = .ok (.istore_n 3, 1) := by decide +kernel
theorem dX9_isClosed_45 : decode cX9_isClosed 45 = .ok (.iinc 4 1, 3) := by decide +kernel
theorem dX9_isClosed_48 : decode cX9_isClosed 48 = .ok (.goto (-43), 3) := by decide +kernel
theorem dX9_isClosed_51 : decode cX9_isClosed 51 = .ok (.iload_n 3, 1) := by decide +kernel
theorem dX9_isClosed_52 : decode cX9_isClosed 52 = .ok (.ireturn, 1) := by decide +kernel
theorem dX9_freshCells_0 : decode cX9_freshCells 0 = .ok (.iconst 0, 1) := by decide +kernel
theorem dX9_freshCells_1 : decode cX9_freshCells 1 = .ok (.istore_n 1, 1) := by decide +kernel
theorem dX9_freshCells_2 : decode cX9_freshCells 2 = .ok (.iload_n 1, 1) := by decide +kernel
theorem dX9_freshCells_3 : decode cX9_freshCells 3 = .ok (.iconst 4, 1) := by decide +kernel
theorem dX9_freshCells_4 : decode cX9_freshCells 4 = .ok (.if_icmp .ge 23, 3) := by decide +kernel
theorem dX9_freshCells_7 : decode cX9_freshCells 7 = .ok (.aload_n 0, 1) := by decide +kernel
theorem dX9_freshCells_8 : decode cX9_freshCells 8 = .ok (.getfield 35, 3) := by decide +kernel
theorem dX9_freshCells_11 : decode cX9_freshCells 11 = .ok (.iconst 4, 1) := by decide +kernel
theorem dX9_freshCells_12 : decode cX9_freshCells 12 = .ok (.aload_n 0, 1) := by decide +kernel
theorem dX9_freshCells_13 : decode cX9_freshCells 13 = .ok (.getfield 95, 3) := by decide +kernel
theorem dX9_freshCells_16 : decode cX9_freshCells 16 = .ok (.imul, 1) := by decide +kernel
theorem dX9_freshCells_17 : decode cX9_freshCells 17 = .ok (.iload_n 1, 1) := by decide +kernel
theorem dX9_freshCells_18 : decode cX9_freshCells 18 = .ok (.iadd, 1) := by decide +kernel
theorem dX9_freshCells_19 : decode cX9_freshCells 19 = .ok (.lconst 0, 1) := by decide +kernel
theorem dX9_freshCells_20 : decode cX9_freshCells 20 = .ok (.lastore, 1) := by decide +kernel
theorem dX9_freshCells_21 : decode cX9_freshCells 21 = .ok (.iinc 1 1, 3) := by decide +kernel
theorem dX9_freshCells_24 : decode cX9_freshCells 24 = .ok (.goto (-22), 3) := by decide +kernel
theorem dX9_freshCells_27 : decode cX9_freshCells 27 = .ok (.return_, 1) := by decide +kernel
theorem dX9_add_0 : decode cX9_add 0 = .ok (.iconst 0, 1) := by decide +kernel
theorem dX9_add_1 : decode cX9_add 1 = .ok (.istore 6, 2) := by decide +kernel
theorem dX9_add_3 : decode cX9_add 3 = .ok (.iload 6, 2) := by decide +kernel
theorem dX9_add_5 : decode cX9_add 5 = .ok (.sipush 256, 3) := by decide +kernel
theorem dX9_add_8 : decode cX9_add 8 = .ok (.if_icmp .ge 50, 3) := by decide +kernel
theorem dX9_add_11 : decode cX9_add 11 = .ok (.aload_n 0, 1) := by decide +kernel
theorem dX9_add_12 : decode cX9_add 12 = .ok (.iload_n 2, 1) := by decide +kernel
theorem dX9_add_13 : decode cX9_add 13 = .ok (.iload 6, 2) := by decide +kernel
theorem dX9_add_15 : decode cX9_add 15 = .ok (.invokevirtual 170, 3) := by decide +kernel
theorem dX9_add_18 : decode cX9_add 18 = .ok (.ifCond .eq 34, 3) := by decide +kernel
theorem dX9_add_21 : decode cX9_add 21 = .ok (.aload_n 0, 1) := by decide +kernel
theorem dX9_add_22 : decode cX9_add 22 = .ok (.getfield 35, 3) := by decide +kernel
theorem dX9_add_25 : decode cX9_add 25 = .ok (.iconst 4, 1) := by decide +kernel
theorem dX9_add_26 : decode cX9_add 26 = .ok (.aload_n 0, 1) := by decide +kernel
theorem dX9_add_27 : decode cX9_add 27 = .ok (.getfield 95, 3) := by decide +kernel
theorem dX9_add_30 : decode cX9_add 30 = .ok (.imul, 1) := by decide +kernel
theorem dX9_add_31 : decode cX9_add 31 = .ok (.iload 6, 2) := by decide +kernel
theorem dX9_add_33 : decode cX9_add 33 = .ok (.bipush 64, 2) := by decide +kernel
theorem dX9_add_35 : decode cX9_add 35 = .ok (.idiv, 1) := by decide +kernel
theorem dX9_add_36 : decode cX9_add 36 = .ok (.iadd, 1) := by decide +kernel
theorem dX9_add_37 : decode cX9_add 37 = .ok (.dup2, 1) := by decide +kernel
theorem dX9_add_38 : decode cX9_add 38 = .ok (.laload, 1) := by decide +kernel
theorem dX9_add_39 : decode cX9_add 39 = .ok (.lconst 1, 1) := by decide +kernel
theorem dX9_add_40 : decode cX9_add 40 = .ok (.iload 6, 2) := by decide +kernel
theorem dX9_add_42 : decode cX9_add 42 = .ok (.bipush 64, 2) := by decide +kernel
theorem dX9_add_44 : decode cX9_add 44 = .ok (.irem, 1) := by decide +kernel
theorem dX9_add_45 : decode cX9_add 45 = .ok (.lshl, 1) := by decide +kernel
theorem dX9_add_46 : decode cX9_add 46 = .ok (.ldc2_w 106, 3) := by decide +kernel
theorem dX9_add_49 : decode cX9_add 49 = .ok (.lxor, 1) := by decide +kernel
theorem dX9_add_50 : decode cX9_add 50 = .ok (.land, 1) := by decide +kernel
theorem dX9_add_51 : decode cX9_add 51 = .ok (.lastore, 1) := by decide +kernel
theorem dX9_add_52 : decode cX9_add 52 = .ok (.iinc 6 1, 3) := by decide +kernel
theorem dX9_add_55 : decode cX9_add 55 = .ok (.goto (-52), 3) := by decide +kernel
theorem dX9_add_58 : decode cX9_add 58 = .ok (.iconst 0, 1) := by decide +kernel
theorem dX9_add_59 : decode cX9_add 59 = .ok (.istore 6, 2) := by decide +kernel
theorem dX9_add_61 : decode cX9_add 61 = .ok (.iload 6, 2) := by decide +kernel
theorem dX9_add_63 : decode cX9_add 63 = .ok (.aload_n 0, 1) := by decide +kernel
theorem dX9_add_64 : decode cX9_add 64 = .ok (.getfield 95, 3) := by decide +kernel
theorem dX9_add_67 : decode cX9_add 67 = .ok (.if_icmp .ge 38, 3) := by decide +kernel
theorem dX9_add_70 : decode cX9_add 70 = .ok (.aload_n 0, 1) := by decide +kernel
theorem dX9_add_71 : decode cX9_add 71 = .ok (.getfield 32, 3) := by decide +kernel
theorem dX9_add_74 : decode cX9_add 74 = .ok (.iload 6, 2) := by decide +kernel
theorem dX9_add_76 : decode cX9_add 76 = .ok (.aload_n 0, 1) := by decide +kernel
theorem dX9_add_77 : decode cX9_add 77 = .ok (.getfield 13, 3) := by decide +kernel
theorem dX9_add_80 : decode cX9_add 80 = .ok (.iload 6, 2) := by decide +kernel
theorem dX9_add_82 : decode cX9_add 82 = .ok (.iaload, 1) := by decide +kernel
theorem dX9_add_83 : decode cX9_add 83 = .ok (.iload_n 2, 1) := by decide +kernel
theorem dX9_add_84 : decode cX9_add 84 = .ok (.if_icmp .ne 7, 3) := by decide +kernel
theorem dX9_add_87 : decode cX9_add 87 = .ok (.iconst 0, 1) := by decide +kernel
theorem dX9_add_88 : decode cX9_add 88 = .ok (.goto 10, 3) := by decide +kernel
theorem dX9_add_91 : decode cX9_add 91 = .ok (.aload_n 0, 1) := by decide +kernel
theorem dX9_add_92 : decode cX9_add 92 = .ok (.getfield 32, 3) := by decide +kernel
theorem dX9_add_95 : decode cX9_add 95 = .ok (.iload 6, 2) := by decide +kernel
theorem dX9_add_97 : decode cX9_add 97 = .ok (.iaload, 1) := by decide +kernel
theorem dX9_add_98 : decode cX9_add 98 = .ok (.iastore, 1) := by decide +kernel
theorem dX9_add_99 : decode cX9_add 99 = .ok (.iinc 6 1, 3) := by decide +kernel
theorem dX9_add_102 : decode cX9_add 102 = .ok (.goto (-41), 3) := by decide +kernel
theorem dX9_add_105 : decode cX9_add 105 = .ok (.aload_n 0, 1) := by decide +kernel
theorem dX9_add_106 : decode cX9_add 106 = .ok (.getfield 7, 3) := by decide +kernel
theorem dX9_add_109 : decode cX9_add 109 = .ok (.aload_n 0, 1) := by decide +kernel
theorem dX9_add_110 : decode cX9_add 110 = .ok (.getfield 95, 3) := by decide +kernel
theorem dX9_add_113 : decode cX9_add 113 = .ok (.iload_n 1, 1) := by decide +kernel
theorem dX9_add_114 : decode cX9_add 114 = .ok (.iastore, 1) := by decide +kernel
theorem dX9_add_115 : decode cX9_add 115 = .ok (.aload_n 0, 1) := by decide +kernel
theorem dX9_add_116 : decode cX9_add 116 = .ok (.getfield 13, 3) := by decide +kernel
theorem dX9_add_119 : decode cX9_add 119 = .ok (.aload_n 0, 1) := by decide +kernel
theorem dX9_add_120 : decode cX9_add 120 = .ok (.getfield 95, 3) := by decide +kernel
theorem dX9_add_123 : decode cX9_add 123 = .ok (.iload_n 2, 1) := by decide +kernel
theorem dX9_add_124 : decode cX9_add 124 = .ok (.iastore, 1) := by decide +kernel
theorem dX9_add_125 : decode cX9_add 125 = .ok (.aload_n 0, 1) := by decide +kernel
theorem dX9_add_126 : decode cX9_add 126 = .ok (.getfield 16, 3) := by decide +kernel
theorem dX9_add_129 : decode cX9_add 129 = .ok (.aload_n 0, 1) := by decide +kernel
theorem dX9_add_130 : decode cX9_add 130 = .ok (.getfield 95, 3) := by decide +kernel
theorem dX9_add_133 : decode cX9_add 133 = .ok (.iload_n 3, 1) := by decide +kernel
theorem dX9_add_134 : decode cX9_add 134 = .ok (.iastore, 1) := by decide +kernel
theorem dX9_add_135 : decode cX9_add 135 = .ok (.aload_n 0, 1) := by decide +kernel
theorem dX9_add_136 : decode cX9_add 136 = .ok (.getfield 19, 3) := by decide +kernel
theorem dX9_add_139 : decode cX9_add 139 = .ok (.aload_n 0, 1) := by decide +kernel
theorem dX9_add_140 : decode cX9_add 140 = .ok (.getfield 95, 3) := by decide +kernel
theorem dX9_add_143 : decode cX9_add 143 = .ok (.iload 4, 2) := by decide +kernel
theorem dX9_add_145 : decode cX9_add 145 = .ok (.iastore, 1) := by decide +kernel
theorem dX9_add_146 : decode cX9_add 146 = .ok (.aload_n 0, 1) := by decide +kernel
theorem dX9_add_147 : decode cX9_add 147 = .ok (.getfield 22, 3) := by decide +kernel
theorem dX9_add_150 : decode cX9_add 150 = .ok (.aload_n 0, 1) := by decide +kernel
theorem dX9_add_151 : decode cX9_add 151 = .ok (.getfield 95, 3) := by decide +kernel
theorem dX9_add_154 : decode cX9_add 154 = .ok (.iload 5, 2) := by decide +kernel
theorem dX9_add_156 : decode cX9_add 156 = .ok (.iastore, 1) := by decide +kernel
theorem dX9_add_157 : decode cX9_add 157 = .ok (.aload_n 0, 1) := by decide +kernel
theorem dX9_add_158 : decode cX9_add 158 = .ok (.getfield 25, 3) := by decide +kernel
theorem dX9_add_161 : decode cX9_add 161 = .ok (.aload_n 0, 1) := by decide +kernel
theorem dX9_add_162 : decode cX9_add 162 = .ok (.getfield 95, 3) := by decide +kernel
theorem dX9_add_165 : decode cX9_add 165 = .ok (.aload_n 0, 1) := by decide +kernel
theorem dX9_add_166 : decode cX9_add 166 = .ok (.getfield 126, 3) := by decide +kernel
theorem dX9_add_169 : decode cX9_add 169 = .ok (.iastore, 1) := by decide +kernel
theorem dX9_add_170 : decode cX9_add 170 = .ok (.aload_n 0, 1) := by decide +kernel
theorem dX9_add_171 : decode cX9_add 171 = .ok (.getfield 28, 3) := by decide +kernel
theorem dX9_add_174 : decode cX9_add 174 = .ok (.aload_n 0, 1) := by decide +kernel
theorem dX9_add_175 : decode cX9_add 175 = .ok (.getfield 95, 3) := by decide +kernel
theorem dX9_add_178 : decode cX9_add 178 = .ok (.iconst 1, 1) := by decide +kernel
theorem dX9_add_179 : decode cX9_add 179 = .ok (.bastore, 1) := by decide +kernel
theorem dX9_add_180 : decode cX9_add 180 = .ok (.aload_n 0, 1) := by decide +kernel
theorem dX9_add_181 : decode cX9_add 181 = .ok (.getfield 32, 3) := by decide +kernel
theorem dX9_add_184 : decode cX9_add 184 = .ok (.aload_n 0, 1) := by decide +kernel
theorem dX9_add_185 : decode cX9_add 185 = .ok (.getfield 95, 3) := by decide +kernel
theorem dX9_add_188 : decode cX9_add 188 = .ok (.iconst 0, 1) := by decide +kernel
theorem dX9_add_189 : decode cX9_add 189 = .ok (.iastore, 1) := by decide +kernel
theorem dX9_add_190 : decode cX9_add 190 = .ok (.aload_n 0, 1) := by decide +kernel
theorem dX9_add_191 : decode cX9_add 191 = .ok (.dup, 1) := by decide +kernel
theorem dX9_add_192 : decode cX9_add 192 = .ok (.getfield 95, 3) := by decide +kernel
theorem dX9_add_195 : decode cX9_add 195 = .ok (.iconst 1, 1) := by decide +kernel
theorem dX9_add_196 : decode cX9_add 196 = .ok (.iadd, 1) := by decide +kernel
theorem dX9_add_197 : decode cX9_add 197 = .ok (.putfield 95, 3) := by decide +kernel
theorem dX9_add_200 : decode cX9_add 200 = .ok (.aload_n 0, 1) := by decide +kernel
theorem dX9_add_201 : decode cX9_add 201 = .ok (.getfield 35, 3) := by decide +kernel
theorem dX9_add_204 : decode cX9_add 204 = .ok (.aload_n 0, 1) := by decide +kernel
theorem dX9_add_205 : decode cX9_add 205 = .ok (.getfield 95, 3) := by decide +kernel
theorem dX9_add_208 : decode cX9_add 208 = .ok (.iconst 1, 1) := by decide +kernel
theorem dX9_add_209 : decode cX9_add 209 = .ok (.isub, 1) := by decide +kernel
theorem dX9_add_210 : decode cX9_add 210 = .ok (.invokestatic 173, 3) := by decide +kernel
theorem dX9_add_213 : decode cX9_add 213 = .ok (.ireturn, 1) := by decide +kernel
theorem dX9_layPath_0 : decode cX9_layPath 0 = .ok (.aload_n 0, 1) := by decide +kernel
theorem dX9_layPath_1 : decode cX9_layPath 1 = .ok (.invokevirtual 177, 3) := by decide +kernel
theorem dX9_layPath_4 : decode cX9_layPath 4 = .ok (.aload_n 0, 1) := by decide +kernel
theorem dX9_layPath_5 : decode cX9_layPath 5 = .ok (.bipush 16, 2) := by decide +kernel
theorem dX9_layPath_7 : decode cX9_layPath 7 = .ok (.aload_n 0, 1) := by decide +kernel
theorem dX9_layPath_8 : decode cX9_layPath 8 = .ok (.getfield 78, 3) := by decide +kernel
theorem dX9_layPath_11 : decode cX9_layPath 11 = .ok (.iconst 1, 1) := by decide +kernel
theorem dX9_layPath_12 : decode cX9_layPath 12 = .ok (.iaload, 1) := by decide +kernel
theorem dX9_layPath_13 : decode cX9_layPath 13 = .ok (.imul, 1) := by decide +kernel
theorem dX9_layPath_14 : decode cX9_layPath 14 = .ok (.aload_n 0, 1) := by decide +kernel
theorem dX9_layPath_15 : decode cX9_layPath 15 = .ok (.getfield 78, 3) := by decide +kernel
theorem dX9_layPath_18 : decode cX9_layPath 18 = .ok (.iconst 0, 1) := by decide +kernel
theorem dX9_layPath_19 : decode cX9_layPath 19 = .ok (.iaload, 1) := by decide +kernel
theorem dX9_layPath_20 : decode cX9_layPath 20 = .ok (.iadd, 1) := by decide +kernel
theorem dX9_layPath_21 : decode cX9_layPath 21 = .ok (.invokevirtual 160, 3) := by decide +kernel
theorem dX9_layPath_24 : decode cX9_layPath 24 = .ok (.iconst 2, 1) := by decide +kernel
theorem dX9_layPath_25 : decode cX9_layPath 25 = .ok (.istore_n 1, 1) := by decide +kernel
theorem dX9_layPath_26 : decode cX9_layPath 26 = .ok (.iload_n 1, 1) := by decide +kernel
theorem dX9_layPath_27 : decode cX9_layPath 27 = .ok (.aload_n 0, 1) := by decide +kernel
theorem dX9_layPath_28 : decode cX9_layPath 28 = .ok (.getfield 149, 3) := by decide +kernel
theorem dX9_layPath_31 : decode cX9_layPath 31 = .ok (.if_icmp .ge 43, 3) := by decide +kernel
theorem dX9_layPath_34 : decode cX9_layPath 34 = .ok (.aload_n 0, 1) := by decide +kernel
theorem dX9_layPath_35 : decode cX9_layPath 35 = .ok (.aload_n 0, 1) := by decide +kernel
theorem dX9_layPath_36 : decode cX9_layPath 36 = .ok (.getfield 78, 3) := by decide +kernel
theorem dX9_layPath_39 : decode cX9_layPath 39 = .ok (.iload_n 1, 1) := by decide +kernel
theorem dX9_layPath_40 : decode cX9_layPath 40 = .ok (.iconst 2, 1) := by decide +kernel
theorem dX9_layPath_41 : decode cX9_layPath 41 = .ok (.isub, 1) := by decide +kernel
theorem dX9_layPath_42 : decode cX9_layPath 42 = .ok (.iaload, 1) := by decide +kernel
theorem dX9_layPath_43 : decode cX9_layPath 43 = .ok (.aload_n 0, 1) := by decide +kernel
theorem dX9_layPath_44 : decode cX9_layPath 44 = .ok (.getfield 78, 3) := by decide +kernel
theorem dX9_layPath_47 : decode cX9_layPath 47 = .ok (.iload_n 1, 1) := by decide +kernel
theorem dX9_layPath_48 : decode cX9_layPath 48 = .ok (.iconst 1, 1) := by decide +kernel
theorem dX9_layPath_49 : decode cX9_layPath 49 = .ok (.isub, 1) := by decide +kernel
theorem dX9_layPath_50 : decode cX9_layPath 50 = .ok (.iaload, 1) := by decide +kernel
theorem dX9_layPath_51 : decode cX9_layPath 51 = .ok (.aload_n 0, 1) := by decide +kernel
theorem dX9_layPath_52 : decode cX9_layPath 52 = .ok (.getfield 78, 3) := by decide +kernel
theorem dX9_layPath_55 : decode cX9_layPath 55 = .ok (.iload_n 1, 1) := by decide +kernel
theorem dX9_layPath_56 : decode cX9_layPath 56 = .ok (.iaload, 1) := by decide +kernel
theorem dX9_layPath_57 : decode cX9_layPath 57 = .ok (.aload_n 0, 1) := by decide +kernel
theorem dX9_layPath_58 : decode cX9_layPath 58 = .ok (.getfield 78, 3) := by decide +kernel
theorem dX9_layPath_61 : decode cX9_layPath 61 = .ok (.iload_n 1, 1) := by decide +kernel
theorem dX9_layPath_62 : decode cX9_layPath 62 = .ok (.iconst 1, 1) := by decide +kernel
theorem dX9_layPath_63 : decode cX9_layPath 63 = .ok (.iadd, 1) := by decide +kernel
theorem dX9_layPath_64 : decode cX9_layPath 64 = .ok (.iaload, 1) := by decide +kernel
theorem dX9_layPath_65 : decode cX9_layPath 65 = .ok (.invokevirtual 180, 3) := by decide +kernel
theorem dX9_layPath_68 : decode cX9_layPath 68 = .ok (.iinc 1 2, 3) := by decide +kernel
theorem dX9_layPath_71 : decode cX9_layPath 71 = .ok (.goto (-45), 3) := by decide +kernel
theorem dX9_layPath_74 : decode cX9_layPath 74 = .ok (.aload_n 0, 1) := by decide +kernel
theorem dX9_layPath_75 : decode cX9_layPath 75 = .ok (.iconst 0, 1) := by decide +kernel
theorem dX9_layPath_76 : decode cX9_layPath 76 = .ok (.putfield 146, 3) := by decide +kernel
theorem dX9_layPath_79 : decode cX9_layPath 79 = .ok (.return_, 1) := by decide +kernel
theorem dX9_isPlace_0 : decode cX9_isPlace 0 = .ok (.iload_n 0, 1) := by decide +kernel
theorem dX9_isPlace_1 : decode cX9_isPlace 1 = .ok (.invokestatic 184, 3) := by decide +kernel
theorem dX9_isPlace_4 : decode cX9_isPlace 4 = .ok (.ifCond .eq 16, 3) := by decide +kernel
theorem dX9_isPlace_7 : decode cX9_isPlace 7 = .ok (.iload_n 1, 1) := by decide +kernel
theorem dX9_isPlace_8 : decode cX9_isPlace 8 = .ok (.iconst 0, 1) := by decide +kernel
theorem dX9_isPlace_9 : decode cX9_isPlace 9 = .ok (.iconst 2, 1) := by decide +kernel
theorem dX9_isPlace_10 : decode cX9_isPlace 10 = .ok (.invokestatic 91, 3) := by decide +kernel
theorem dX9_isPlace_13 : decode cX9_isPlace 13 = .ok (.ifCond .eq 7, 3) := by decide +kernel
theorem dX9_isPlace_16 : decode cX9_isPlace 16 = .ok (.iconst 1, 1) := by decide +kernel
theorem dX9_isPlace_17 : decode cX9_isPlace 17 = .ok (.goto 4, 3) := by decide +kernel
theorem dX9_isPlace_20 : decode cX9_isPlace 20 = .ok (.iconst 0, 1) := by decide +kernel
theorem dX9_isPlace_21 : decode cX9_isPlace 21 = .ok (.ireturn, 1) := by decide +kernel
theorem dX9_stroke_0 : decode cX9_stroke 0 = .ok (.aload_n 0, 1) := by decide +kernel
theorem dX9_stroke_1 : decode cX9_stroke 1 = .ok (.iload_n 1, 1) := by decide +kernel
theorem dX9_stroke_2 : decode cX9_stroke 2 = .ok (.iload_n 2, 1) := by decide +kernel
theorem dX9_stroke_3 : decode cX9_stroke 3 = .ok (.invokestatic 187, 3) := by decide +kernel
theorem dX9_stroke_6 : decode cX9_stroke 6 = .ok (.ifCond .ne 7, 3) := by decide +kernel
theorem dX9_stroke_9 : decode cX9_stroke 9 = .ok (.iconst 1, 1) := by decide +kernel
theorem dX9_stroke_10 : decode cX9_stroke 10 = .ok (.goto 50, 3) := by decide +kernel
theorem dX9_stroke_13 : decode cX9_stroke 13 = .ok (.iload_n 3, 1) := by decide +kernel
theorem dX9_stroke_14 : decode cX9_stroke 14 = .ok (.iconst 1, 1) := by decide +kernel
theorem dX9_stroke_15 : decode cX9_stroke 15 = .ok (.bipush 9, 2) := by decide +kernel
theorem dX9_stroke_17 : decode cX9_stroke 17 = .ok (.invokestatic 91, 3) := by decide +kernel
theorem dX9_stroke_20 : decode cX9_stroke 20 = .ok (.ifCond .eq 15, 3) := by decide +kernel
theorem dX9_stroke_23 : decode cX9_stroke 23 = .ok (.iload 4, 2) := by decide +kernel
theorem dX9_stroke_25 : decode cX9_stroke 25 = .ok (.iconst 0, 1) := by decide +kernel
theorem dX9_stroke_26 : decode cX9_stroke 26 = .ok (.sipush 999, 3) := by decide +kernel
theorem dX9_stroke_29 : decode cX9_stroke 29 = .ok (.invokestatic 91, 3) := by decide +kernel
theorem dX9_stroke_32 : decode cX9_stroke 32 = .ok (.ifCond .ne 7, 3) := by decide +kernel
theorem dX9_stroke_35 : decode cX9_stroke 35 = .ok (.iconst 2, 1) := by decide +kernel
theorem dX9_stroke_36 : decode cX9_stroke 36 = .ok (.goto 24, 3) := by decide +kernel
theorem dX9_stroke_39 : decode cX9_stroke 39 = .ok (.aload_n 0, 1) := by decide +kernel
theorem dX9_stroke_40 : decode cX9_stroke 40 = .ok (.invokevirtual 190, 3) := by decide +kernel
theorem dX9_stroke_43 : decode cX9_stroke 43 = .ok (.ifCond .eq 16, 3) := by decide +kernel
theorem dX9_stroke_46 : decode cX9_stroke 46 = .ok (.aload_n 0, 1) := by decide +kernel
theorem dX9_stroke_47 : decode cX9_stroke 47 = .ok (.getfield 95, 3) := by decide +kernel
theorem dX9_stroke_50 : decode cX9_stroke 50 = .ok (.bipush 60, 2) := by decide +kernel
theorem dX9_stroke_52 : decode cX9_stroke 52 = .ok (.if_icmp .ge 7, 3) := by decide +kernel
theorem dX9_stroke_55 : decode cX9_stroke 55 = .ok (.iconst 0, 1) := by decide +kernel
theorem dX9_stroke_56 : decode cX9_stroke 56 = .ok (.goto 4, 3) := by decide +kernel
theorem dX9_stroke_59 : decode cX9_stroke 59 = .ok (.iconst 3, 1) := by decide +kernel
theorem dX9_stroke_60 : decode cX9_stroke 60 = .ok (.putfield 87, 3) := by decide +kernel
theorem dX9_stroke_63 : decode cX9_stroke 63 = .ok (.aload_n 0, 1) := by decide +kernel
theorem dX9_stroke_64 : decode cX9_stroke 64 = .ok (.getfield 87, 3) := by decide +kernel
theorem dX9_stroke_67 : decode cX9_stroke 67 = .ok (.ifCond .le 5, 3) := by decide +kernel
theorem dX9_stroke_70 : decode cX9_stroke 70 = .ok (.iconst 0, 1) := by decide +kernel
theorem dX9_stroke_71 : decode cX9_stroke 71 = .ok (.ireturn, 1) := by decide +kernel
theorem dX9_stroke_72 : decode cX9_stroke 72 = .ok (.aload_n 0, 1) := by decide +kernel
theorem dX9_stroke_73 : decode cX9_stroke 73 = .ok (.invokevirtual 194, 3) := by decide +kernel
theorem dX9_stroke_76 : decode cX9_stroke 76 = .ok (.aload_n 0, 1) := by decide +kernel
theorem dX9_stroke_77 : decode cX9_stroke 77 = .ok (.iconst 0, 1) := by decide +kernel
theorem dX9_stroke_78 : decode cX9_stroke 78 = .ok (.iload_n 1, 1) := by decide +kernel
theorem dX9_stroke_79 : decode cX9_stroke 79 = .ok (.iload_n 2, 1) := by decide +kernel
theorem dX9_stroke_80 : decode cX9_stroke 80 = .ok (.iload_n 3, 1) := by decide +kernel
theorem dX9_stroke_81 : decode cX9_stroke 81 = .ok (.iload 4, 2) := by decide +kernel
theorem dX9_stroke_83 : decode cX9_stroke 83 = .ok (.invokevirtual 197, 3) := by decide +kernel
theorem dX9_stroke_86 : decode cX9_stroke 86 = .ok (.ireturn, 1) := by decide +kernel
theorem dX9_erase_0 : decode cX9_erase 0 = .ok (.aload_n 0, 1) := by decide +kernel
theorem dX9_erase_1 : decode cX9_erase 1 = .ok (.iload_n 1, 1) := by decide +kernel
theorem dX9_erase_2 : decode cX9_erase 2 = .ok (.iload_n 2, 1) := by decide +kernel
theorem dX9_erase_3 : decode cX9_erase 3 = .ok (.invokestatic 187, 3) := by decide +kernel
theorem dX9_erase_6 : decode cX9_erase 6 = .ok (.ifCond .ne 7, 3) := by decide +kernel
theorem dX9_erase_9 : decode cX9_erase 9 = .ok (.iconst 1, 1) := by decide +kernel
theorem dX9_erase_10 : decode cX9_erase 10 = .ok (.goto 37, 3) := by decide +kernel
theorem dX9_erase_13 : decode cX9_erase 13 = .ok (.iload_n 3, 1) := by decide +kernel
theorem dX9_erase_14 : decode cX9_erase 14 = .ok (.iconst 0, 1) := by decide +kernel
theorem dX9_erase_15 : decode cX9_erase 15 = .ok (.iconst 2, 1) := by decide +kernel
theorem dX9_erase_16 : decode cX9_erase 16 = .ok (.invokestatic 91, 3) := by decide +kernel
theorem dX9_erase_19 : decode cX9_erase 19 = .ok (.ifCond .ne 7, 3) := by decide +kernel
theorem dX9_erase_22 : decode cX9_erase 22 = .ok (.iconst 2, 1) := by decide +kernel
theorem dX9_erase_23 : decode cX9_erase 23 = .ok (.goto 24, 3) := by decide +kernel
theorem dX9_erase_26 : decode cX9_erase 26 = .ok (.aload_n 0, 1) := by decide +kernel
theorem dX9_erase_27 : decode cX9_erase 27 = .ok (.invokevirtual 190, 3) := by decide +kernel
theorem dX9_erase_30 : decode cX9_erase 30 = .ok (.ifCond .eq 16, 3) := by decide +kernel
theorem dX9_erase_33 : decode cX9_erase 33 = .ok (.aload_n 0, 1) := by decide +kernel
theorem dX9_erase_34 : decode cX9_erase 34 = .ok (.getfield 95, 3) := by decide +kernel
theorem dX9_erase_37 : decode cX9_erase 37 = .ok (.bipush 60, 2) := by decide +kernel
theorem dX9_erase_39 : decode cX9_erase 39 = .ok (.if_icmp .ge 7, 3) := by decide +kernel
theorem dX9_erase_42 : decode cX9_erase 42 = .ok (.iconst 0, 1) := by decide +kernel
theorem dX9_erase_43 : decode cX9_erase 43 = .ok (.goto 4, 3) := by decide +kernel
theorem dX9_erase_46 : decode cX9_erase 46 = .ok (.iconst 3, 1) := by decide +kernel
theorem dX9_erase_47 : decode cX9_erase 47 = .ok (.putfield 87, 3) := by decide +kernel
theorem dX9_erase_50 : decode cX9_erase 50 = .ok (.aload_n 0, 1) := by decide +kernel
theorem dX9_erase_51 : decode cX9_erase 51 = .ok (.getfield 87, 3) := by decide +kernel
theorem dX9_erase_54 : decode cX9_erase 54 = .ok (.ifCond .le 5, 3) := by decide +kernel
theorem dX9_erase_57 : decode cX9_erase 57 = .ok (.iconst 0, 1) := by decide +kernel
theorem dX9_erase_58 : decode cX9_erase 58 = .ok (.ireturn, 1) := by decide +kernel
theorem dX9_erase_59 : decode cX9_erase 59 = .ok (.aload_n 0, 1) := by decide +kernel
theorem dX9_erase_60 : decode cX9_erase 60 = .ok (.invokevirtual 201, 3) := by decide +kernel
theorem dX9_erase_63 : decode cX9_erase 63 = .ok (.aload_n 0, 1) := by decide +kernel
theorem dX9_erase_64 : decode cX9_erase 64 = .ok (.invokevirtual 204, 3) := by decide +kernel
theorem dX9_erase_67 : decode cX9_erase 67 = .ok (.aload_n 0, 1) := by decide +kernel
theorem dX9_erase_68 : decode cX9_erase 68 = .ok (.invokevirtual 194, 3) := by decide +kernel
theorem dX9_erase_71 : decode cX9_erase 71 = .ok (.aload_n 0, 1) := by decide +kernel
theorem dX9_erase_72 : decode cX9_erase 72 = .ok (.iconst 2, 1) := by decide +kernel
theorem dX9_erase_73 : decode cX9_erase 73 = .ok (.iload_n 1, 1) := by decide +kernel
theorem dX9_erase_74 : decode cX9_erase 74 = .ok (.iload_n 2, 1) := by decide +kernel
theorem dX9_erase_75 : decode cX9_erase 75 = .ok (.iload_n 3, 1) := by decide +kernel
theorem dX9_erase_76 : decode cX9_erase 76 = .ok (.iconst 0, 1) := by decide +kernel
theorem dX9_erase_77 : decode cX9_erase 77 = .ok (.invokevirtual 197, 3) := by decide +kernel
theorem dX9_erase_80 : decode cX9_erase 80 = .ok (.pop, 1) := by decide +kernel
theorem dX9_erase_81 : decode cX9_erase 81 = .ok (.aload_n 0, 1) := by decide +kernel
theorem dX9_erase_82 : decode cX9_erase 82 = .ok (.invokevirtual 201, 3) := by decide +kernel
theorem dX9_erase_85 : decode cX9_erase 85 = .ok (.aload_n 0, 1) := by decide +kernel
theorem dX9_erase_86 : decode cX9_erase 86 = .ok (.invokevirtual 207, 3) := by decide +kernel
theorem dX9_erase_89 : decode cX9_erase 89 = .ok (.ireturn, 1) := by decide +kernel
theorem dX9_isInRegion_0 : decode cX9_isInRegion 0 = .ok (.aload_n 0, 1) := by decide +kernel
theorem dX9_isInRegion_1 : decode cX9_isInRegion 1 = .ok (.getfield 81, 3) := by decide +kernel
theorem dX9_isInRegion_4 : decode cX9_isInRegion 4 = .ok (.iload_n 1, 1) := by decide +kernel
theorem dX9_isInRegion_5 : decode cX9_isInRegion 5 = .ok (.bipush 64, 2) := by decide +kernel
theorem dX9_isInRegion_7 : decode cX9_isInRegion 7 = .ok (.idiv, 1) := by decide +kernel
theorem dX9_isInRegion_8 : decode cX9_isInRegion 8 = .ok (.laload, 1) := by decide +kernel
theorem dX9_isInRegion_9 : decode cX9_isInRegion 9 = .ok (.iload_n 1, 1) := by decide +kernel
theorem dX9_isInRegion_10 : decode cX9_isInRegion 10 = .ok (.bipush 64, 2) := by decide +kernel
theorem dX9_isInRegion_12 : decode cX9_isInRegion 12 = .ok (.irem, 1) := by decide +kernel
theorem dX9_isInRegion_13 : decode cX9_isInRegion 13 = .ok (.lushr, 1) := by decide +kernel
theorem dX9_isInRegion_14 : decode cX9_isInRegion 14 = .ok (.lconst 1, 1) := by decide +kernel
theorem dX9_isInRegion_15 : decode cX9_isInRegion 15 = .ok (.land, 1) := by decide +kernel
theorem dX9_isInRegion_16 : decode cX9_isInRegion 16 = .ok (.lconst 1, 1) := by decide +kernel
theorem dX9_isInRegion_17 : decode cX9_isInRegion 17 = .ok (.lcmp, 1) := by decide +kernel
theorem dX9_isInRegion_18 : decode cX9_isInRegion 18 = .ok (.ifCond .ne 7, 3) := by decide +kernel
theorem dX9_isInRegion_21 : decode cX9_isInRegion 21 = .ok (.iconst 1, 1) := by decide +kernel
theorem dX9_isInRegion_22 : decode cX9_isInRegion 22 = .ok (.goto 4, 3) := by decide +kernel
theorem dX9_isInRegion_25 : decode cX9_isInRegion 25 = .ok (.iconst 0, 1) := by decide +kernel
theorem dX9_isInRegion_26 : decode cX9_isInRegion 26 = .ok (.ireturn, 1) := by decide +kernel
theorem dX9_isBeside_0 : decode cX9_isBeside 0 = .ok (.iload_n 1, 1) := by decide +kernel
theorem dX9_isBeside_1 : decode cX9_isBeside 1 = .ok (.bipush 16, 2) := by decide +kernel
theorem dX9_isBeside_3 : decode cX9_isBeside 3 = .ok (.irem, 1) := by decide +kernel
theorem dX9_isBeside_4 : decode cX9_isBeside 4 = .ok (.iload_n 2, 1) := by decide +kernel
theorem dX9_isBeside_5 : decode cX9_isBeside 5 = .ok (.iadd, 1) := by decide +kernel
theorem dX9_isBeside_6 : decode cX9_isBeside 6 = .ok (.istore 4, 2) := by decide +kernel
theorem dX9_isBeside_8 : decode cX9_isBeside 8 = .ok (.iload_n 1, 1) := by decide +kernel
theorem dX9_isBeside_9 : decode cX9_isBeside 9 = .ok (.bipush 16, 2) := by decide +kernel
theorem dX9_isBeside_11 : decode cX9_isBeside 11 = .ok (.idiv, 1) := by decide +kernel
theorem dX9_isBeside_12 : decode cX9_isBeside 12 = .ok (.iload_n 3, 1) := by decide +kernel
theorem dX9_isBeside_13 : decode cX9_isBeside 13 = .ok (.iadd, 1) := by decide +kernel
theorem dX9_isBeside_14 : decode cX9_isBeside 14 = .ok (.istore 5, 2) := by decide +kernel
theorem dX9_isBeside_16 : decode cX9_isBeside 16 = .ok (.iload 4, 2) := by decide +kernel
theorem dX9_isBeside_18 : decode cX9_isBeside 18 = .ok (.iconst 0, 1) := by decide +kernel
theorem dX9_isBeside_19 : decode cX9_isBeside 19 = .ok (.bipush 15, 2) := by decide +kernel
theorem dX9_isBeside_21 : decode cX9_isBeside 21 = .ok (.invokestatic 91, 3) := by decide +kernel
theorem dX9_isBeside_24 : decode cX9_isBeside 24 = .ok (.ifCond .eq 33, 3) := by decide +kernel
theorem dX9_isBeside_27 : decode cX9_isBeside 27 = .ok (.iload 5, 2) := by decide +kernel
theorem dX9_isBeside_29 : decode cX9_isBeside 29 = .ok (.iconst 0, 1) := by decide +kernel
theorem dX9_isBeside_30 : decode cX9_isBeside 30 = .ok (.bipush 15, 2) := by decide +kernel
theorem dX9_isBeside_32 : decode cX9_isBeside 32 = .ok (.invokestatic 91, 3) := by decide +kernel
theorem dX9_isBeside_35 : decode cX9_isBeside 35 = .ok (.ifCond .eq 22, 3) := by decide +kernel
theorem dX9_isBeside_38 : decode cX9_isBeside 38 = .ok (.aload_n 0, 1) := by decide +kernel
theorem dX9_isBeside_39 : decode cX9_isBeside 39 = .ok (.bipush 16, 2) := by decide +kernel
theorem dX9_isBeside_41 : decode cX9_isBeside 41 = .ok (.iload 5, 2) := by decide +kernel
theorem dX9_isBeside_43 : decode cX9_isBeside 43 = .ok (.imul, 1) := by decide +kernel
theorem dX9_isBeside_44 : decode cX9_isBeside 44 = .ok (.iload 4, 2) := by decide +kernel
theorem dX9_isBeside_46 : decode cX9_isBeside 46 = .ok (.iadd, 1) := by decide +kernel
theorem dX9_isBeside_47 : decode cX9_isBeside 47 = .ok (.invokevirtual 210, 3) := by decide +kernel
theorem dX9_isBeside_50 : decode cX9_isBeside 50 = .ok (.ifCond .eq 7, 3) := by decide +kernel
theorem dX9_isBeside_53 : decode cX9_isBeside 53 = .ok (.iconst 1, 1) := by decide +kernel
theorem dX9_isBeside_54 : decode cX9_isBeside 54 = .ok (.goto 4, 3) := by decide +kernel
theorem dX9_isBeside_57 : decode cX9_isBeside 57 = .ok (.iconst 0, 1) := by decide +kernel
theorem dX9_isBeside_58 : decode cX9_isBeside 58 = .ok (.ireturn, 1) := by decide +kernel
theorem dX9_isTouched_0 : decode cX9_isTouched 0 = .ok (.aload_n 0, 1) := by decide +kernel
theorem dX9_isTouched_1 : decode cX9_isTouched 1 = .ok (.iload_n 1, 1) := by decide +kernel
theorem dX9_isTouched_2 : decode cX9_isTouched 2 = .ok (.iconst 1, 1) := by decide +kernel
theorem dX9_isTouched_3 : decode cX9_isTouched 3 = .ok (.iconst 0, 1) := by decide +kernel
theorem dX9_isTouched_4 : decode cX9_isTouched 4 = .ok (.invokevirtual 213, 3) := by decide +kernel
theorem dX9_isTouched_7 : decode cX9_isTouched 7 = .ok (.ifCond .ne 33, 3) := by decide +kernel
theorem dX9_isTouched_10 : decode cX9_isTouched 10 = .ok (.aload_n 0, 1) := by decide +kernel
theorem dX9_isTouched_11 : decode cX9_isTouched 11 = .ok (.iload_n 1, 1) := by decide +kernel
theorem dX9_isTouched_12 : decode cX9_isTouched 12 = .ok (.iconst (-1), 1) := by decide +kernel
theorem dX9_isTouched_13 : decode cX9_isTouched 13 = .ok (.iconst 0, 1) := by decide +kernel
theorem dX9_isTouched_14 : decode cX9_isTouched 14 = .ok (.invokevirtual 213, 3) := by decide +kernel
theorem dX9_isTouched_17 : decode cX9_isTouched 17 = .ok (.ifCond .ne 23, 3) := by decide +kernel
theorem dX9_isTouched_20 : decode cX9_isTouched 20 = .ok (.aload_n 0, 1) := by decide +kernel
theorem dX9_isTouched_21 : decode cX9_isTouched 21 = .ok (.iload_n 1, 1) := by decide +kernel
theorem dX9_isTouched_22 : decode cX9_isTouched 22 = .ok (.iconst 0, 1) := by decide +kernel
theorem dX9_isTouched_23 : decode cX9_isTouched 23 = .ok (.iconst 1, 1) := by decide +kernel
theorem dX9_isTouched_24 : decode cX9_isTouched 24 = .ok (.invokevirtual 213, 3) := by decide +kernel
theorem dX9_isTouched_27 : decode cX9_isTouched 27 = .ok (.ifCond .ne 13, 3) := by decide +kernel
theorem dX9_isTouched_30 : decode cX9_isTouched 30 = .ok (.aload_n 0, 1) := by decide +kernel
theorem dX9_isTouched_31 : decode cX9_isTouched 31 = .ok (.iload_n 1, 1) := by decide +kernel
theorem dX9_isTouched_32 : decode cX9_isTouched 32 = .ok (.iconst 0, 1) := by decide +kernel
theorem dX9_isTouched_33 : decode cX9_isTouched 33 = .ok (.iconst (-1), 1) := by decide +kernel
theorem dX9_isTouched_34 : decode cX9_isTouched 34 = .ok (.invokevirtual 213, 3) := by decide +kernel
theorem dX9_isTouched_37 : decode cX9_isTouched 37 = .ok (.ifCond .eq 7, 3) := by decide +kernel
theorem dX9_isTouched_40 : decode cX9_isTouched 40 = .ok (.iconst 1, 1) := by decide +kernel
theorem dX9_isTouched_41 : decode cX9_isTouched 41 = .ok (.goto 4, 3) := by decide +kernel
theorem dX9_isTouched_44 : decode cX9_isTouched 44 = .ok (.iconst 0, 1) := by decide +kernel
theorem dX9_isTouched_45 : decode cX9_isTouched 45 = .ok (.istore_n 3, 1) := by decide +kernel
theorem dX9_isTouched_46 : decode cX9_isTouched 46 = .ok (.iload_n 3, 1) := by decide +kernel
theorem dX9_isTouched_47 : decode cX9_isTouched 47 = .ok (.ifCond .ne 47, 3) := by decide +kernel
theorem dX9_isTouched_50 : decode cX9_isTouched 50 = .ok (.iload_n 2, 1) := by decide +kernel
theorem dX9_isTouched_51 : decode cX9_isTouched 51 = .ok (.ifCond .eq 47, 3) := by decide +kernel
theorem dX9_isTouched_54 : decode cX9_isTouched 54 = .ok (.aload_n 0, 1) := by decide +kernel
theorem dX9_isTouched_55 : decode cX9_isTouched 55 = .ok (.iload_n 1, 1) := by decide +kernel
theorem dX9_isTouched_56 : decode cX9_isTouched 56 = .ok (.iconst 1, 1) := by decide +kernel
theorem dX9_isTouched_57 : decode cX9_isTouched 57 = .ok (.iconst 1, 1) := by decide +kernel
theorem dX9_isTouched_58 : decode cX9_isTouched 58 = .ok (.invokevirtual 213, 3) := by decide +kernel
theorem dX9_isTouched_61 : decode cX9_isTouched 61 = .ok (.ifCond .ne 33, 3) := by decide +kernel
theorem dX9_isTouched_64 : decode cX9_isTouched 64 = .ok (.aload_n 0, 1) := by decide +kernel
theorem dX9_isTouched_65 : decode cX9_isTouched 65 = .ok (.iload_n 1, 1) := by decide +kernel
theorem dX9_isTouched_66 : decode cX9_isTouched 66 = .ok (.iconst (-1), 1) := by decide +kernel
theorem dX9_isTouched_67 : decode cX9_isTouched 67 = .ok (.iconst 1, 1) := by decide +kernel
theorem dX9_isTouched_68 : decode cX9_isTouched 68 = .ok (.invokevirtual 213, 3) := by decide +kernel
theorem dX9_isTouched_71 : decode cX9_isTouched 71 = .ok (.ifCond .ne 23, 3) := by decide +kernel
theorem dX9_isTouched_74 : decode cX9_isTouched 74 = .ok (.aload_n 0, 1) := by decide +kernel
theorem dX9_isTouched_75 : decode cX9_isTouched 75 = .ok (.iload_n 1, 1) := by decide +kernel
theorem dX9_isTouched_76 : decode cX9_isTouched 76 = .ok (.iconst 1, 1) := by decide +kernel
theorem dX9_isTouched_77 : decode cX9_isTouched 77 = .ok (.iconst (-1), 1) := by decide +kernel
theorem dX9_isTouched_78 : decode cX9_isTouched 78 = .ok (.invokevirtual 213, 3) := by decide +kernel
theorem dX9_isTouched_81 : decode cX9_isTouched 81 = .ok (.ifCond .ne 13, 3) := by decide +kernel
theorem dX9_isTouched_84 : decode cX9_isTouched 84 = .ok (.aload_n 0, 1) := by decide +kernel
theorem dX9_isTouched_85 : decode cX9_isTouched 85 = .ok (.iload_n 1, 1) := by decide +kernel
theorem dX9_isTouched_86 : decode cX9_isTouched 86 = .ok (.iconst (-1), 1) := by decide +kernel
theorem dX9_isTouched_87 : decode cX9_isTouched 87 = .ok (.iconst (-1), 1) := by decide +kernel
theorem dX9_isTouched_88 : decode cX9_isTouched 88 = .ok (.invokevirtual 213, 3) := by decide +kernel
theorem dX9_isTouched_91 : decode cX9_isTouched 91 = .ok (.ifCond .eq 7, 3) := by decide +kernel
theorem dX9_isTouched_94 : decode cX9_isTouched 94 = .ok (.iconst 1, 1) := by decide +kernel
theorem dX9_isTouched_95 : decode cX9_isTouched 95 = .ok (.goto 4, 3) := by decide +kernel
theorem dX9_isTouched_98 : decode cX9_isTouched 98 = .ok (.iconst 0, 1) := by decide +kernel
theorem dX9_isTouched_99 : decode cX9_isTouched 99 = .ok (.ireturn, 1) := by decide +kernel
theorem dX9_put_0 : decode cX9_put 0 = .ok (.aload_n 0, 1) := by decide +kernel
theorem dX9_put_1 : decode cX9_put 1 = .ok (.getfield 81, 3) := by decide +kernel
theorem dX9_put_4 : decode cX9_put 4 = .ok (.iload_n 1, 1) := by decide +kernel
theorem dX9_put_5 : decode cX9_put 5 = .ok (.bipush 64, 2) := by decide +kernel
theorem dX9_put_7 : decode cX9_put 7 = .ok (.idiv, 1) := by decide +kernel
theorem dX9_put_8 : decode cX9_put 8 = .ok (.dup2, 1) := by decide +kernel
theorem dX9_put_9 : decode cX9_put 9 = .ok (.laload, 1) := by decide +kernel
theorem dX9_put_10 : decode cX9_put 10 = .ok (.lconst 1, 1) := by decide +kernel
theorem dX9_put_11 : decode cX9_put 11 = .ok (.iload_n 1, 1) := by decide +kernel
theorem dX9_put_12 : decode cX9_put 12 = .ok (.bipush 64, 2) := by decide +kernel
theorem dX9_put_14 : decode cX9_put 14 = .ok (.irem, 1) := by decide +kernel
theorem dX9_put_15 : decode cX9_put 15 = .ok (.lshl, 1) := by decide +kernel
theorem dX9_put_16 : decode cX9_put 16 = .ok (.lor, 1) := by decide +kernel
theorem dX9_put_17 : decode cX9_put 17 = .ok (.lastore, 1) := by decide +kernel
theorem dX9_put_18 : decode cX9_put 18 = .ok (.return_, 1) := by decide +kernel
theorem dX9_layRegion_0 : decode cX9_layRegion 0 = .ok (.iconst 0, 1) := by decide +kernel
theorem dX9_layRegion_1 : decode cX9_layRegion 1 = .ok (.istore_n 3, 1) := by decide +kernel
theorem dX9_layRegion_2 : decode cX9_layRegion 2 = .ok (.iload_n 3, 1) := by decide +kernel
theorem dX9_layRegion_3 : decode cX9_layRegion 3 = .ok (.iconst 4, 1) := by decide +kernel
theorem dX9_layRegion_4 : decode cX9_layRegion 4 = .ok (.if_icmp .ge 16, 3) := by decide +kernel
theorem dX9_layRegion_7 : decode cX9_layRegion 7 = .ok (.aload_n 0, 1) := by decide +kernel
theorem dX9_layRegion_8 : decode cX9_layRegion 8 = .ok (.getfield 81, 3) := by decide +kernel
theorem dX9_layRegion_11 : decode cX9_layRegion 11 = .ok (.iload_n 3, 1) := by decide +kernel
theorem dX9_layRegion_12 : decode cX9_layRegion 12 = .ok (.lconst 0, 1) := by decide +kernel
theorem dX9_layRegion_13 : decode cX9_layRegion 13 = .ok (.lastore, 1) := by decide +kernel
theorem dX9_layRegion_14 : decode cX9_layRegion 14 = .ok (.iinc 3 1, 3) := by decide +kernel
theorem dX9_layRegion_17 : decode cX9_layRegion 17 = .ok (.goto (-15), 3) := by decide +kernel
theorem dX9_layRegion_20 : decode cX9_layRegion 20 = .ok (.aload_n 0, 1) := by decide +kernel
theorem dX9_layRegion_21 : decode cX9_layRegion 21 = .ok (.iload_n 1, 1) := by decide +kernel
theorem dX9_layRegion_22 : decode cX9_layRegion 22 = .ok (.invokevirtual 216, 3) := by decide +kernel
theorem dX9_layRegion_25 : decode cX9_layRegion 25 = .ok (.iconst 1, 1) := by decide +kernel
theorem dX9_layRegion_26 : decode cX9_layRegion 26 = .ok (.istore_n 3, 1) := by decide +kernel
theorem dX9_layRegion_27 : decode cX9_layRegion 27 = .ok (.iload_n 3, 1) := by decide +kernel
theorem dX9_layRegion_28 : decode cX9_layRegion 28 = .ok (.ifCond .eq 105, 3) := by decide +kernel
theorem dX9_layRegion_31 : decode cX9_layRegion 31 = .ok (.iconst 0, 1) := by decide +kernel
theorem dX9_layRegion_32 : decode cX9_layRegion 32 = .ok (.istore_n 3, 1) := by decide +kernel
theorem dX9_layRegion_33 : decode cX9_layRegion 33 = .ok (.iconst 0, 1) := by decide +kernel
theorem dX9_layRegion_34 : decode cX9_layRegion 34 = .ok (.istore 4, 2) := by decide +kernel
theorem dX9_layRegion_36 : decode cX9_layRegion 36 = .ok (.iload 4, 2) := by decide +kernel
theorem dX9_layRegion_38 : decode cX9_layRegion 38 = .ok (.sipush 256, 3) := by decide +kernel
theorem dX9_layRegion_41 : decode cX9_layRegion 41 = .ok (.if_icmp .ge 89, 3) := by decide +kernel
theorem dX9_layRegion_44 : decode cX9_layRegion 44 = .ok (.iload_n 2, 1) := by decide +kernel
theorem dX9_layRegion_45 : decode cX9_layRegion 45 = .ok (.iconst (-1), 1) := by decide +kernel
theorem dX9_layRegion_46 : decode cX9_layRegion 46 = .ok (.if_icmp .ne 25, 3) := by decide +kernel
theorem dX9_layRegion_49 : decode cX9_layRegion 49 = .ok (.aload_n 0, 1) := by decide +kernel
theorem dX9_layRegion_50 : decode cX9_layRegion 50 = .ok (.iload 4, 2) := by decide +kernel
theorem dX9_layRegion_52 : decode cX9_layRegion 52 = .ok (.invokevirtual 132, 3) := by decide +kernel
theorem dX9_layRegion_55 : decode cX9_layRegion 55 = .ok (.aload_n 0, 1) := by decide +kernel
theorem dX9_layRegion_56 : decode cX9_layRegion 56 = .ok (.iload_n 1, 1) := by decide +kernel
theorem dX9_layRegion_57 : decode cX9_layRegion 57 = .ok (.invokevirtual 132, 3) := by decide +kernel
theorem dX9_layRegion_60 : decode cX9_layRegion 60 = .ok (.if_icmp .ne 7, 3) := by decide +kernel
theorem dX9_layRegion_63 : decode cX9_layRegion 63 = .ok (.iconst 1, 1) := by decide +kernel
theorem dX9_layRegion_64 : decode cX9_layRegion 64 = .ok (.goto 17, 3) := by decide +kernel
theorem dX9_layRegion_67 : decode cX9_layRegion 67 = .ok (.iconst 0, 1) := by decide +kernel
theorem dX9_layRegion_68 : decode cX9_layRegion 68 = .ok (.goto 13, 3) := by decide +kernel
theorem dX9_layRegion_71 : decode cX9_layRegion 71 = .ok (.aload_n 0, 1) := by decide +kernel
theorem dX9_layRegion_72 : decode cX9_layRegion 72 = .ok (.getfield 66, 3) := by decide +kernel
theorem dX9_layRegion_75 : decode cX9_layRegion 75 = .ok (.iload_n 2, 1) := by decide +kernel
theorem dX9_layRegion_76 : decode cX9_layRegion 76 = .ok (.iload 4, 2) := by decide +kernel
theorem dX9_layRegion_78 : decode cX9_layRegion 78 = .ok (.invokestatic 115, 3) := by decide +kernel
theorem dX9_layRegion_81 : decode cX9_layRegion 81 = .ok (.istore 5, 2) := by decide +kernel
theorem dX9_layRegion_83 : decode cX9_layRegion 83 = .ok (.iload 5, 2) := by decide +kernel
theorem dX9_layRegion_85 : decode cX9_layRegion 85 = .ok (.ifCond .eq 39, 3) := by decide +kernel
theorem dX9_layRegion_88 : decode cX9_layRegion 88 = .ok (.aload_n 0, 1) := by decide +kernel
theorem dX9_layRegion_89 : decode cX9_layRegion 89 = .ok (.iload 4, 2) := by decide +kernel
theorem dX9_layRegion_91 : decode cX9_layRegion 91 = .ok (.invokevirtual 210, 3) := by decide +kernel
theorem dX9_layRegion_94 : decode cX9_layRegion 94 = .ok (.ifCond .ne 30, 3) := by decide +kernel
theorem dX9_layRegion_97 : decode cX9_layRegion 97 = .ok (.aload_n 0, 1) := by decide +kernel
theorem dX9_layRegion_98 : decode cX9_layRegion 98 = .ok (.iload 4, 2) := by decide +kernel
theorem dX9_layRegion_100 : decode cX9_layRegion 100 = .ok (.iload_n 2, 1) := by decide +kernel
theorem dX9_layRegion_101 : decode cX9_layRegion 101 = .ok (.iconst (-1), 1) := by decide +kernel
theorem dX9_layRegion_102 : decode cX9_layRegion 102 = .ok (.if_icmp .eq 7, 3) := by decide +kernel
theorem dX9_layRegion_105 : decode cX9_layRegion 105 = .ok (.iconst 1, 1) := by decide +kernel
theorem dX9_layRegion_106 : decode cX9_layRegion 106 = .ok (.goto 4, 3) := by decide +kernel
theorem dX9_layRegion_109 : decode cX9_layRegion 109 = .ok (.iconst 0, 1) := by decide +kernel
theorem dX9_layRegion_110 : decode cX9_layRegion 110 = .ok (.invokevirtual 219, 3) := by decide +kernel
theorem dX9_layRegion_113 : decode cX9_layRegion 113 = .ok (.ifCond .eq 11, 3) := by decide +kernel
theorem dX9_layRegion_116 : decode cX9_layRegion 116 = .ok (.aload_n 0, 1) := by decide +kernel
theorem dX9_layRegion_117 : decode cX9_layRegion 117 = .ok (.iload 4, 2) := by decide +kernel
theorem dX9_layRegion_119 : decode cX9_layRegion 119 = .ok (.invokevirtual 216, 3) := by decide +kernel
theorem dX9_layRegion_122 : decode cX9_layRegion 122 = .ok (.iconst 1, 1) := by decide +kernel
theorem dX9_layRegion_123 : decode cX9_layRegion 123 = .ok (.istore_n 3, 1) := by decide +kernel
theorem dX9_layRegion_124 : decode cX9_layRegion 124 = .ok (.iinc 4 1, 3) := by decide +kernel
theorem dX9_layRegion_127 : decode cX9_layRegion 127 = .ok (.goto (-91), 3) := by decide +kernel
theorem dX9_layRegion_130 : decode cX9_layRegion 130 = .ok (.goto (-103), 3) := by decide +kernel
theorem dX9_layRegion_133 : decode cX9_layRegion 133 = .ok (.return_, 1) := by decide +kernel
theorem dX9_fill_0 : decode cX9_fill 0 = .ok (.aload_n 0, 1) := by decide +kernel
theorem dX9_fill_1 : decode cX9_fill 1 = .ok (.iload_n 1, 1) := by decide +kernel
theorem dX9_fill_2 : decode cX9_fill 2 = .ok (.iload_n 2, 1) := by decide +kernel
theorem dX9_fill_3 : decode cX9_fill 3 = .ok (.invokestatic 187, 3) := by decide +kernel
theorem dX9_fill_6 : decode cX9_fill 6 = .ok (.ifCond .eq 11, 3) := by decide +kernel
theorem dX9_fill_9 : decode cX9_fill 9 = .ok (.iload 4, 2) := by decide +kernel
theorem dX9_fill_11 : decode cX9_fill 11 = .ok (.invokestatic 223, 3) := by decide +kernel
theorem dX9_fill_14 : decode cX9_fill 14 = .ok (.ifCond .ne 7, 3) := by decide +kernel
theorem dX9_fill_17 : decode cX9_fill 17 = .ok (.iconst 1, 1) := by decide +kernel
theorem dX9_fill_18 : decode cX9_fill 18 = .ok (.goto 31, 3) := by decide +kernel
theorem dX9_fill_21 : decode cX9_fill 21 = .ok (.iload_n 3, 1) := by decide +kernel
theorem dX9_fill_22 : decode cX9_fill 22 = .ok (.iconst 1, 1) := by decide +kernel
theorem dX9_fill_23 : decode cX9_fill 23 = .ok (.bipush 9, 2) := by decide +kernel
theorem dX9_fill_25 : decode cX9_fill 25 = .ok (.invokestatic 91, 3) := by decide +kernel
theorem dX9_fill_28 : decode cX9_fill 28 = .ok (.ifCond .ne 7, 3) := by decide +kernel
theorem dX9_fill_31 : decode cX9_fill 31 = .ok (.iconst 2, 1) := by decide +kernel
theorem dX9_fill_32 : decode cX9_fill 32 = .ok (.goto 17, 3) := by decide +kernel
theorem dX9_fill_35 : decode cX9_fill 35 = .ok (.aload_n 0, 1) := by decide +kernel
theorem dX9_fill_36 : decode cX9_fill 36 = .ok (.getfield 95, 3) := by decide +kernel
theorem dX9_fill_39 : decode cX9_fill 39 = .ok (.bipush 60, 2) := by decide +kernel
theorem dX9_fill_41 : decode cX9_fill 41 = .ok (.if_icmp .ge 7, 3) := by decide +kernel
theorem dX9_fill_44 : decode cX9_fill 44 = .ok (.iconst 0, 1) := by decide +kernel
theorem dX9_fill_45 : decode cX9_fill 45 = .ok (.goto 4, 3) := by decide +kernel
theorem dX9_fill_48 : decode cX9_fill 48 = .ok (.iconst 3, 1) := by decide +kernel
theorem dX9_fill_49 : decode cX9_fill 49 = .ok (.putfield 87, 3) := by decide +kernel
theorem dX9_fill_52 : decode cX9_fill 52 = .ok (.aload_n 0, 1) := by decide +kernel
theorem dX9_fill_53 : decode cX9_fill 53 = .ok (.getfield 87, 3) := by decide +kernel
theorem dX9_fill_56 : decode cX9_fill 56 = .ok (.ifCond .le 5, 3) := by decide +kernel
theorem dX9_fill_59 : decode cX9_fill 59 = .ok (.iconst 0, 1) := by decide +kernel
theorem dX9_fill_60 : decode cX9_fill 60 = .ok (.ireturn, 1) := by decide +kernel
theorem dX9_fill_61 : decode cX9_fill 61 = .ok (.aload_n 0, 1) := by decide +kernel
theorem dX9_fill_62 : decode cX9_fill 62 = .ok (.invokevirtual 201, 3) := by decide +kernel
theorem dX9_fill_65 : decode cX9_fill 65 = .ok (.aload_n 0, 1) := by decide +kernel
theorem dX9_fill_66 : decode cX9_fill 66 = .ok (.iload 4, 2) := by decide +kernel
theorem dX9_fill_68 : decode cX9_fill 68 = .ok (.iconst (-1), 1) := by decide +kernel
theorem dX9_fill_69 : decode cX9_fill 69 = .ok (.invokevirtual 226, 3) := by decide +kernel
theorem dX9_fill_72 : decode cX9_fill 72 = .ok (.iconst 0, 1) := by decide +kernel
theorem dX9_fill_73 : decode cX9_fill 73 = .ok (.istore 5, 2) := by decide +kernel
theorem dX9_fill_75 : decode cX9_fill 75 = .ok (.iload 5, 2) := by decide +kernel
theorem dX9_fill_77 : decode cX9_fill 77 = .ok (.iconst 4, 1) := by decide +kernel
theorem dX9_fill_78 : decode cX9_fill 78 = .ok (.if_icmp .ge 30, 3) := by decide +kernel
theorem dX9_fill_81 : decode cX9_fill 81 = .ok (.aload_n 0, 1) := by decide +kernel
theorem dX9_fill_82 : decode cX9_fill 82 = .ok (.getfield 35, 3) := by decide +kernel
theorem dX9_fill_85 : decode cX9_fill 85 = .ok (.iconst 4, 1) := by decide +kernel
theorem dX9_fill_86 : decode cX9_fill 86 = .ok (.aload_n 0, 1) := by decide +kernel
theorem dX9_fill_87 : decode cX9_fill 87 = .ok (.getfield 95, 3) := by decide +kernel
theorem dX9_fill_90 : decode cX9_fill 90 = .ok (.imul, 1) := by decide +kernel
theorem dX9_fill_91 : decode cX9_fill 91 = .ok (.iload 5, 2) := by decide +kernel
theorem dX9_fill_93 : decode cX9_fill 93 = .ok (.iadd, 1) := by decide +kernel
theorem dX9_fill_94 : decode cX9_fill 94 = .ok (.aload_n 0, 1) := by decide +kernel
theorem dX9_fill_95 : decode cX9_fill 95 = .ok (.getfield 81, 3) := by decide +kernel
theorem dX9_fill_98 : decode cX9_fill 98 = .ok (.iload 5, 2) := by decide +kernel
theorem dX9_fill_100 : decode cX9_fill 100 = .ok (.laload, 1) := by decide +kernel
theorem dX9_fill_101 : decode cX9_fill 101 = .ok (.lastore, 1) := by decide +kernel
theorem dX9_fill_102 : decode cX9_fill 102 = .ok (.iinc 5 1, 3) := by decide +kernel
theorem dX9_fill_105 : decode cX9_fill 105 = .ok (.goto (-30), 3) := by decide +kernel
theorem dX9_fill_108 : decode cX9_fill 108 = .ok (.aload_n 0, 1) := by decide +kernel
theorem dX9_fill_109 : decode cX9_fill 109 = .ok (.iconst 1, 1) := by decide +kernel
theorem dX9_fill_110 : decode cX9_fill 110 = .ok (.iload_n 1, 1) := by decide +kernel
theorem dX9_fill_111 : decode cX9_fill 111 = .ok (.iload_n 2, 1) := by decide +kernel
theorem dX9_fill_112 : decode cX9_fill 112 = .ok (.iload_n 3, 1) := by decide +kernel
theorem dX9_fill_113 : decode cX9_fill 113 = .ok (.iconst 0, 1) := by decide +kernel
theorem dX9_fill_114 : decode cX9_fill 114 = .ok (.invokevirtual 197, 3) := by decide +kernel
theorem dX9_fill_117 : decode cX9_fill 117 = .ok (.ireturn, 1) := by decide +kernel
theorem dX9_latestOf_0 : decode cX9_latestOf 0 = .ok (.aload_n 0, 1) := by decide +kernel
theorem dX9_latestOf_1 : decode cX9_latestOf 1 = .ok (.getfield 95, 3) := by decide +kernel
theorem dX9_latestOf_4 : decode cX9_latestOf 4 = .ok (.iconst 1, 1) := by decide +kernel
theorem dX9_latestOf_5 : decode cX9_latestOf 5 = .ok (.isub, 1) := by decide +kernel
theorem dX9_latestOf_6 : decode cX9_latestOf 6 = .ok (.istore_n 2, 1) := by decide +kernel
theorem dX9_latestOf_7 : decode cX9_latestOf 7 = .ok (.iload_n 2, 1) := by decide +kernel
theorem dX9_latestOf_8 : decode cX9_latestOf 8 = .ok (.ifCond .lt 28, 3) := by decide +kernel
theorem dX9_latestOf_11 : decode cX9_latestOf 11 = .ok (.aload_n 0, 1) := by decide +kernel
theorem dX9_latestOf_12 : decode cX9_latestOf 12 = .ok (.getfield 13, 3) := by decide +kernel
theorem dX9_latestOf_15 : decode cX9_latestOf 15 = .ok (.iload_n 2, 1) := by decide +kernel
theorem dX9_latestOf_16 : decode cX9_latestOf 16 = .ok (.iaload, 1) := by decide +kernel
theorem dX9_latestOf_17 : decode cX9_latestOf 17 = .ok (.iload_n 1, 1) := by decide +kernel
theorem dX9_latestOf_18 : decode cX9_latestOf 18 = .ok (.if_icmp .ne 12, 3) := by decide +kernel
theorem dX9_latestOf_21 : decode cX9_latestOf 21 = .ok (.aload_n 0, 1) := by decide +kernel
theorem dX9_latestOf_22 : decode cX9_latestOf 22 = .ok (.getfield 28, 3) := by decide +kernel
theorem dX9_latestOf_25 : decode cX9_latestOf 25 = .ok (.iload_n 2, 1) := by decide +kernel
theorem dX9_latestOf_26 : decode cX9_latestOf 26 = .ok (.baload, 1) := by decide +kernel
theorem dX9_latestOf_27 : decode cX9_latestOf 27 = .ok (.ifCond .ne 9, 3) := by decide +kernel
theorem dX9_latestOf_30 : decode cX9_latestOf 30 = .ok (.iinc 2 (-1), 3) := by decide +kernel
theorem dX9_latestOf_33 : decode cX9_latestOf 33 = .ok (.goto (-26), 3) := by decide +kernel
theorem dX9_latestOf_36 : decode cX9_latestOf 36 = .ok (.iload_n 2, 1) := by decide +kernel
theorem dX9_latestOf_37 : decode cX9_latestOf 37 = .ok (.ireturn, 1) := by decide +kernel
theorem dX9_undo_0 : decode cX9_undo 0 = .ok (.aload_n 0, 1) := by decide +kernel
theorem dX9_undo_1 : decode cX9_undo 1 = .ok (.iload_n 1, 1) := by decide +kernel
theorem dX9_undo_2 : decode cX9_undo 2 = .ok (.invokestatic 184, 3) := by decide +kernel
theorem dX9_undo_5 : decode cX9_undo 5 = .ok (.ifCond .ne 7, 3) := by decide +kernel
theorem dX9_undo_8 : decode cX9_undo 8 = .ok (.iconst 1, 1) := by decide +kernel
theorem dX9_undo_9 : decode cX9_undo 9 = .ok (.goto 16, 3) := by decide +kernel
theorem dX9_undo_12 : decode cX9_undo 12 = .ok (.aload_n 0, 1) := by decide +kernel
theorem dX9_undo_13 : decode cX9_undo 13 = .ok (.iload_n 1, 1) := by decide +kernel
theorem dX9_undo_14 : decode cX9_undo 14 = .ok (.invokevirtual 229, 3) := by decide +kernel
theorem dX9_undo_17 : decode cX9_undo 17 = .ok (.ifCond .ge 7, 3) := by decide +kernel
theorem dX9_undo_20 : decode cX9_undo 20 = .ok (.iconst 2, 1) := by decide +kernel
theorem dX9_undo_21 : decode cX9_undo 21 = .ok (.goto 4, 3) := by decide +kernel
theorem dX9_undo_24 : decode cX9_undo 24 = .ok (.iconst 0, 1) := by decide +kernel
theorem dX9_undo_25 : decode cX9_undo 25 = .ok (.putfield 87, 3) := by decide +kernel
theorem dX9_undo_28 : decode cX9_undo 28 = .ok (.aload_n 0, 1) := by decide +kernel
theorem dX9_undo_29 : decode cX9_undo 29 = .ok (.getfield 87, 3) := by decide +kernel
theorem dX9_undo_32 : decode cX9_undo 32 = .ok (.ifCond .le 5, 3) := by decide +kernel
theorem dX9_undo_35 : decode cX9_undo 35 = .ok (.iconst 0, 1) := by decide +kernel
theorem dX9_undo_36 : decode cX9_undo 36 = .ok (.ireturn, 1) := by decide +kernel
theorem dX9_undo_37 : decode cX9_undo 37 = .ok (.aload_n 0, 1) := by decide +kernel
theorem dX9_undo_38 : decode cX9_undo 38 = .ok (.iload_n 1, 1) := by decide +kernel
theorem dX9_undo_39 : decode cX9_undo 39 = .ok (.invokevirtual 229, 3) := by decide +kernel
theorem dX9_undo_42 : decode cX9_undo 42 = .ok (.istore_n 2, 1) := by decide +kernel
theorem dX9_undo_43 : decode cX9_undo 43 = .ok (.aload_n 0, 1) := by decide +kernel
theorem dX9_undo_44 : decode cX9_undo 44 = .ok (.getfield 28, 3) := by decide +kernel
theorem dX9_undo_47 : decode cX9_undo 47 = .ok (.iload_n 2, 1) := by decide +kernel
theorem dX9_undo_48 : decode cX9_undo 48 = .ok (.iconst 0, 1) := by decide +kernel
theorem dX9_undo_49 : decode cX9_undo 49 = .ok (.bastore, 1) := by decide +kernel
theorem dX9_undo_50 : decode cX9_undo 50 = .ok (.aload_n 0, 1) := by decide +kernel
theorem dX9_undo_51 : decode cX9_undo 51 = .ok (.dup, 1) := by decide +kernel
theorem dX9_undo_52 : decode cX9_undo 52 = .ok (.getfield 139, 3) := by decide +kernel
theorem dX9_undo_55 : decode cX9_undo 55 = .ok (.iconst 1, 1) := by decide +kernel
theorem dX9_undo_56 : decode cX9_undo 56 = .ok (.iadd, 1) := by decide +kernel
theorem dX9_undo_57 : decode cX9_undo 57 = .ok (.putfield 139, 3) := by decide +kernel
theorem dX9_undo_60 : decode cX9_undo 60 = .ok (.aload_n 0, 1) := by decide +kernel
theorem dX9_undo_61 : decode cX9_undo 61 = .ok (.getfield 32, 3) := by decide +kernel
theorem dX9_undo_64 : decode cX9_undo 64 = .ok (.iload_n 2, 1) := by decide +kernel
theorem dX9_undo_65 : decode cX9_undo 65 = .ok (.aload_n 0, 1) := by decide +kernel
theorem dX9_undo_66 : decode cX9_undo 66 = .ok (.getfield 139, 3) := by decide +kernel
theorem dX9_undo_69 : decode cX9_undo 69 = .ok (.iastore, 1) := by decide +kernel
theorem dX9_undo_70 : decode cX9_undo 70 = .ok (.iload_n 2, 1) := by decide +kernel
theorem dX9_undo_71 : decode cX9_undo 71 = .ok (.ireturn, 1) := by decide +kernel
theorem dX9_redoOf_0 : decode cX9_redoOf 0 = .ok (.iconst (-1), 1) := by decide +kernel
theorem dX9_redoOf_1 : decode cX9_redoOf 1 = .ok (.istore_n 2, 1) := by decide +kernel
theorem dX9_redoOf_2 : decode cX9_redoOf 2 = .ok (.iconst 0, 1) := by decide +kernel
theorem dX9_redoOf_3 : decode cX9_redoOf 3 = .ok (.istore_n 3, 1) := by decide +kernel
theorem dX9_redoOf_4 : decode cX9_redoOf 4 = .ok (.iload_n 3, 1) := by decide +kernel
theorem dX9_redoOf_5 : decode cX9_redoOf 5 = .ok (.aload_n 0, 1) := by decide +kernel
theorem dX9_redoOf_6 : decode cX9_redoOf 6 = .ok (.getfield 95, 3) := by decide +kernel
theorem dX9_redoOf_9 : decode cX9_redoOf 9 = .ok (.if_icmp .ge 66, 3) := by decide +kernel
theorem dX9_redoOf_12 : decode cX9_redoOf 12 = .ok (.aload_n 0, 1) := by decide +kernel
theorem dX9_redoOf_13 : decode cX9_redoOf 13 = .ok (.getfield 13, 3) := by decide +kernel
theorem dX9_redoOf_16 : decode cX9_redoOf 16 = .ok (.iload_n 3, 1) := by decide +kernel
theorem dX9_redoOf_17 : decode cX9_redoOf 17 = .ok (.iaload, 1) := by decide +kernel
theorem dX9_redoOf_18 : decode cX9_redoOf 18 = .ok (.iload_n 1, 1) := by decide +kernel
theorem dX9_redoOf_19 : decode cX9_redoOf 19 = .ok (.if_icmp .ne 36, 3) := by decide +kernel
theorem dX9_redoOf_22 : decode cX9_redoOf 22 = .ok (.aload_n 0, 1) := by decide +kernel
theorem dX9_redoOf_23 : decode cX9_redoOf 23 = .ok (.getfield 32, 3) := by decide +kernel
theorem dX9_redoOf_26 : decode cX9_redoOf 26 = .ok (.iload_n 3, 1) := by decide +kernel
theorem dX9_redoOf_27 : decode cX9_redoOf 27 = .ok (.iaload, 1) := by decide +kernel
theorem dX9_redoOf_28 : decode cX9_redoOf 28 = .ok (.ifCond .le 27, 3) := by decide +kernel
theorem dX9_redoOf_31 : decode cX9_redoOf 31 = .ok (.iload_n 2, 1) := by decide +kernel
theorem dX9_redoOf_32 : decode cX9_redoOf 32 = .ok (.iconst (-1), 1) := by decide +kernel
theorem dX9_redoOf_33 : decode cX9_redoOf 33 = .ok (.if_icmp .eq 18, 3) := by decide +kernel
theorem dX9_redoOf_36 : decode cX9_redoOf 36 = .ok (.aload_n 0, 1) := by decide +kernel
theorem dX9_redoOf_37 : decode cX9_redoOf 37 = .ok (.getfield 32, 3) := by decide +kernel
theorem dX9_redoOf_40 : decode cX9_redoOf 40 = .ok (.iload_n 3, 1) := by decide +kernel
theorem dX9_redoOf_41 : decode cX9_redoOf 41 = .ok (.iaload, 1) := by decide +kernel
theorem dX9_redoOf_42 : decode cX9_redoOf 42 = .ok (.aload_n 0, 1) := by decide +kernel
theorem dX9_redoOf_43 : decode cX9_redoOf 43 = .ok (.getfield 32, 3) := by decide +kernel
theorem dX9_redoOf_46 : decode cX9_redoOf 46 = .ok (.iload_n 2, 1) := by decide +kernel
theorem dX9_redoOf_47 : decode cX9_redoOf 47 = .ok (.iaload, 1) := by decide +kernel
theorem dX9_redoOf_48 : decode cX9_redoOf 48 = .ok (.if_icmp .le 7, 3) := by decide +kernel
theorem dX9_redoOf_51 : decode cX9_redoOf 51 = .ok (.iconst 1, 1) := by decide +kernel
theorem dX9_redoOf_52 : decode cX9_redoOf 52 = .ok (.goto 4, 3) := by decide +kernel
theorem dX9_redoOf_55 : decode cX9_redoOf 55 = .ok (.iconst 0, 1) := by decide +kernel
theorem dX9_redoOf_56 : decode cX9_redoOf 56 = .ok (.istore 4, 2) := by decide +kernel
theorem dX9_redoOf_58 : decode cX9_redoOf 58 = .ok (.iload 4, 2) := by decide +kernel
theorem dX9_redoOf_60 : decode cX9_redoOf 60 = .ok (.ifCond .eq 7, 3) := by decide +kernel
theorem dX9_redoOf_63 : decode cX9_redoOf 63 = .ok (.iload_n 3, 1) := by decide +kernel
theorem dX9_redoOf_64 : decode cX9_redoOf 64 = .ok (.goto 4, 3) := by decide +kernel
theorem dX9_redoOf_67 : decode cX9_redoOf 67 = .ok (.iload_n 2, 1) := by decide +kernel
theorem dX9_redoOf_68 : decode cX9_redoOf 68 = .ok (.istore_n 2, 1) := by decide +kernel
theorem dX9_redoOf_69 : decode cX9_redoOf 69 = .ok (.iinc 3 1, 3) := by decide +kernel
theorem dX9_redoOf_72 : decode cX9_redoOf 72 = .ok (.goto (-68), 3) := by decide +kernel
theorem dX9_redoOf_75 : decode cX9_redoOf 75 = .ok (.iload_n 2, 1) := by decide +kernel
theorem dX9_redoOf_76 : decode cX9_redoOf 76 = .ok (.ireturn, 1) := by decide +kernel
theorem dX9_redo_0 : decode cX9_redo 0 = .ok (.aload_n 0, 1) := by decide +kernel
theorem dX9_redo_1 : decode cX9_redo 1 = .ok (.iload_n 1, 1) := by decide +kernel
theorem dX9_redo_2 : decode cX9_redo 2 = .ok (.invokestatic 184, 3) := by decide +kernel
theorem dX9_redo_5 : decode cX9_redo 5 = .ok (.ifCond .ne 7, 3) := by decide +kernel
theorem dX9_redo_8 : decode cX9_redo 8 = .ok (.iconst 1, 1) := by decide +kernel
theorem dX9_redo_9 : decode cX9_redo 9 = .ok (.goto 17, 3) := by decide +kernel
theorem dX9_redo_12 : decode cX9_redo 12 = .ok (.aload_n 0, 1) := by decide +kernel
theorem dX9_redo_13 : decode cX9_redo 13 = .ok (.iload_n 1, 1) := by decide +kernel
theorem dX9_redo_14 : decode cX9_redo 14 = .ok (.invokevirtual 232, 3) := by decide +kernel
theorem dX9_redo_17 : decode cX9_redo 17 = .ok (.iconst (-1), 1) := by decide +kernel
theorem dX9_redo_18 : decode cX9_redo 18 = .ok (.if_icmp .ne 7, 3) := by decide +kernel
theorem dX9_redo_21 : decode cX9_redo 21 = .ok (.iconst 2, 1) := by decide +kernel
theorem dX9_redo_22 : decode cX9_redo 22 = .ok (.goto 4, 3) := by decide +kernel
theorem dX9_redo_25 : decode cX9_redo 25 = .ok (.iconst 0, 1) := by decide +kernel
theorem dX9_redo_26 : decode cX9_redo 26 = .ok (.putfield 87, 3) := by decide +kernel
theorem dX9_redo_29 : decode cX9_redo 29 = .ok (.aload_n 0, 1) := by decide +kernel
theorem dX9_redo_30 : decode cX9_redo 30 = .ok (.getfield 87, 3) := by decide +kernel
theorem dX9_redo_33 : decode cX9_redo 33 = .ok (.ifCond .le 5, 3) := by decide +kernel
theorem dX9_redo_36 : decode cX9_redo 36 = .ok (.iconst 0, 1) := by decide +kernel
theorem dX9_redo_37 : decode cX9_redo 37 = .ok (.ireturn, 1) := by decide +kernel
theorem dX9_redo_38 : decode cX9_redo 38 = .ok (.aload_n 0, 1) := by decide +kernel
theorem dX9_redo_39 : decode cX9_redo 39 = .ok (.iload_n 1, 1) := by decide +kernel
theorem dX9_redo_40 : decode cX9_redo 40 = .ok (.invokevirtual 232, 3) := by decide +kernel
theorem dX9_redo_43 : decode cX9_redo 43 = .ok (.istore_n 2, 1) := by decide +kernel
theorem dX9_redo_44 : decode cX9_redo 44 = .ok (.aload_n 0, 1) := by decide +kernel
theorem dX9_redo_45 : decode cX9_redo 45 = .ok (.getfield 28, 3) := by decide +kernel
theorem dX9_redo_48 : decode cX9_redo 48 = .ok (.iload_n 2, 1) := by decide +kernel
theorem dX9_redo_49 : decode cX9_redo 49 = .ok (.iconst 1, 1) := by decide +kernel
theorem dX9_redo_50 : decode cX9_redo 50 = .ok (.bastore, 1) := by decide +kernel
theorem dX9_redo_51 : decode cX9_redo 51 = .ok (.aload_n 0, 1) := by decide +kernel
theorem dX9_redo_52 : decode cX9_redo 52 = .ok (.getfield 32, 3) := by decide +kernel
theorem dX9_redo_55 : decode cX9_redo 55 = .ok (.iload_n 2, 1) := by decide +kernel
theorem dX9_redo_56 : decode cX9_redo 56 = .ok (.iconst 0, 1) := by decide +kernel
theorem dX9_redo_57 : decode cX9_redo 57 = .ok (.iastore, 1) := by decide +kernel
theorem dX9_redo_58 : decode cX9_redo 58 = .ok (.iload_n 2, 1) := by decide +kernel
theorem dX9_redo_59 : decode cX9_redo 59 = .ok (.ireturn, 1) := by decide +kernel
theorem dX9_mayLease_0 : decode cX9_mayLease 0 = .ok (.aload_n 0, 1) := by decide +kernel
theorem dX9_mayLease_1 : decode cX9_mayLease 1 = .ok (.getfield 136, 3) := by decide +kernel
theorem dX9_mayLease_4 : decode cX9_mayLease 4 = .ok (.bipush 6, 2) := by decide +kernel
theorem dX9_mayLease_6 : decode cX9_mayLease 6 = .ok (.if_icmp .ge 7, 3) := by decide +kernel
theorem dX9_mayLease_9 : decode cX9_mayLease 9 = .ok (.iconst 1, 1) := by decide +kernel
theorem dX9_mayLease_10 : decode cX9_mayLease 10 = .ok (.goto 4, 3) := by decide +kernel
theorem dX9_mayLease_13 : decode cX9_mayLease 13 = .ok (.iconst 0, 1) := by decide +kernel
theorem dX9_mayLease_14 : decode cX9_mayLease 14 = .ok (.istore_n 2, 1) := by decide +kernel
theorem dX9_mayLease_15 : decode cX9_mayLease 15 = .ok (.iconst 0, 1) := by decide +kernel
theorem dX9_mayLease_16 : decode cX9_mayLease 16 = .ok (.istore_n 3, 1) := by decide +kernel
theorem dX9_mayLease_17 : decode cX9_mayLease 17 = .ok (.iload_n 3, 1) := by decide +kernel
theorem dX9_mayLease_18 : decode cX9_mayLease 18 = .ok (.sipush 256, 3) := by decide +kernel
theorem dX9_mayLease_21 : decode cX9_mayLease 21 = .ok (.if_icmp .ge 40, 3) := by decide +kernel
theorem dX9_mayLease_24 : decode cX9_mayLease 24 = .ok (.iload_n 2, 1) := by decide +kernel
theorem dX9_mayLease_25 : decode cX9_mayLease 25 = .ok (.ifCond .eq 28, 3) := by decide +kernel
theorem dX9_mayLease_28 : decode cX9_mayLease 28 = .ok (.aload_n 0, 1) := by decide +kernel
theorem dX9_mayLease_29 : decode cX9_mayLease 29 = .ok (.aload_n 0, 1) := by decide +kernel
theorem dX9_mayLease_30 : decode cX9_mayLease 30 = .ok (.getfield 136, 3) := by decide +kernel
theorem dX9_mayLease_33 : decode cX9_mayLease 33 = .ok (.iload_n 3, 1) := by decide +kernel
theorem dX9_mayLease_34 : decode cX9_mayLease 34 = .ok (.invokevirtual 167, 3) := by decide +kernel
theorem dX9_mayLease_37 : decode cX9_mayLease 37 = .ok (.ifCond .eq 12, 3) := by decide +kernel
theorem dX9_mayLease_40 : decode cX9_mayLease 40 = .ok (.aload_n 0, 1) := by decide +kernel
theorem dX9_mayLease_41 : decode cX9_mayLease 41 = .ok (.iload_n 1, 1) := by decide +kernel
theorem dX9_mayLease_42 : decode cX9_mayLease 42 = .ok (.iload_n 3, 1) := by decide +kernel
theorem dX9_mayLease_43 : decode cX9_mayLease 43 = .ok (.invokevirtual 170, 3) := by decide +kernel
theorem dX9_mayLease_46 : decode cX9_mayLease 46 = .ok (.ifCond .ne 7, 3) := by decide +kernel
theorem dX9_mayLease_49 : decode cX9_mayLease 49 = .ok (.iconst 1, 1) := by decide +kernel
theorem dX9_mayLease_50 : decode cX9_mayLease 50 = .ok (.goto 4, 3) := by decide +kernel
theorem dX9_mayLease_53 : decode cX9_mayLease 53 = .ok (.iconst 0, 1) := by decide +kernel
theorem dX9_mayLease_54 : decode cX9_mayLease 54 = .ok (.istore_n 2, 1) := by decide +kernel
theorem dX9_mayLease_55 : decode cX9_mayLease 55 = .ok (.iinc 3 1, 3) := by decide +kernel
theorem dX9_mayLease_58 : decode cX9_mayLease 58 = .ok (.goto (-41), 3) := by decide +kernel
theorem dX9_mayLease_61 : decode cX9_mayLease 61 = .ok (.iload_n 2, 1) := by decide +kernel
theorem dX9_mayLease_62 : decode cX9_mayLease 62 = .ok (.ireturn, 1) := by decide +kernel
theorem dX9_lease_0 : decode cX9_lease 0 = .ok (.aload_n 0, 1) := by decide +kernel
theorem dX9_lease_1 : decode cX9_lease 1 = .ok (.iload_n 1, 1) := by decide +kernel
theorem dX9_lease_2 : decode cX9_lease 2 = .ok (.invokestatic 184, 3) := by decide +kernel
theorem dX9_lease_5 : decode cX9_lease 5 = .ok (.ifCond .eq 17, 3) := by decide +kernel
theorem dX9_lease_8 : decode cX9_lease 8 = .ok (.iload_n 2, 1) := by decide +kernel
theorem dX9_lease_9 : decode cX9_lease 9 = .ok (.invokestatic 223, 3) := by decide +kernel
theorem dX9_lease_12 : decode cX9_lease 12 = .ok (.ifCond .eq 10, 3) := by decide +kernel
theorem dX9_lease_15 : decode cX9_lease 15 = .ok (.iload_n 3, 1) := by decide +kernel
theorem dX9_lease_16 : decode cX9_lease 16 = .ok (.invokestatic 223, 3) := by decide +kernel
theorem dX9_lease_19 : decode cX9_lease 19 = .ok (.ifCond .ne 7, 3) := by decide +kernel
theorem dX9_lease_22 : decode cX9_lease 22 = .ok (.iconst 1, 1) := by decide +kernel
theorem dX9_lease_23 : decode cX9_lease 23 = .ok (.goto 20, 3) := by decide +kernel
theorem dX9_lease_26 : decode cX9_lease 26 = .ok (.iload 4, 2) := by decide +kernel
theorem dX9_lease_28 : decode cX9_lease 28 = .ok (.iconst 1, 1) := by decide +kernel
theorem dX9_lease_29 : decode cX9_lease 29 = .ok (.sipush 999, 3) := by decide +kernel
theorem dX9_lease_32 : decode cX9_lease 32 = .ok (.invokestatic 91, 3) := by decide +kernel
theorem dX9_lease_35 : decode cX9_lease 35 = .ok (.ifCond .eq 7, 3) := by decide +kernel
theorem dX9_lease_38 : decode cX9_lease 38 = .ok (.iconst 0, 1) := by decide +kernel
theorem dX9_lease_39 : decode cX9_lease 39 = .ok (.goto 4, 3) := by decide +kernel
theorem dX9_lease_42 : decode cX9_lease 42 = .ok (.iconst 2, 1) := by decide +kernel
theorem dX9_lease_43 : decode cX9_lease 43 = .ok (.putfield 87, 3) := by decide +kernel
theorem dX9_lease_46 : decode cX9_lease 46 = .ok (.aload_n 0, 1) := by decide +kernel
theorem dX9_lease_47 : decode cX9_lease 47 = .ok (.getfield 87, 3) := by decide +kernel
theorem dX9_lease_50 : decode cX9_lease 50 = .ok (.ifCond .le 5, 3) := by decide +kernel
theorem dX9_lease_53 : decode cX9_lease 53 = .ok (.iconst 0, 1) := by decide +kernel
theorem dX9_lease_54 : decode cX9_lease 54 = .ok (.ireturn, 1) := by decide +kernel
theorem dX9_lease_55 : decode cX9_lease 55 = .ok (.aload_n 0, 1) := by decide +kernel
theorem dX9_lease_56 : decode cX9_lease 56 = .ok (.getfield 136, 3) := by decide +kernel
theorem dX9_lease_59 : decode cX9_lease 59 = .ok (.bipush 6, 2) := by decide +kernel
theorem dX9_lease_61 : decode cX9_lease 61 = .ok (.if_icmp .ne 5, 3) := by decide +kernel
theorem dX9_lease_64 : decode cX9_lease 64 = .ok (.iconst (-1), 1) := by decide +kernel
theorem dX9_lease_65 : decode cX9_lease 65 = .ok (.ireturn, 1) := by decide +kernel
theorem dX9_lease_66 : decode cX9_lease 66 = .ok (.aload_n 0, 1) := by decide +kernel
theorem dX9_lease_67 : decode cX9_lease 67 = .ok (.getfield 42, 3) := by decide +kernel
theorem dX9_lease_70 : decode cX9_lease 70 = .ok (.aload_n 0, 1) := by decide +kernel
theorem dX9_lease_71 : decode cX9_lease 71 = .ok (.getfield 136, 3) := by decide +kernel
theorem dX9_lease_74 : decode cX9_lease 74 = .ok (.iload_n 2, 1) := by decide +kernel
theorem dX9_lease_75 : decode cX9_lease 75 = .ok (.iastore, 1) := by decide +kernel
theorem dX9_lease_76 : decode cX9_lease 76 = .ok (.aload_n 0, 1) := by decide +kernel
theorem dX9_lease_77 : decode cX9_lease 77 = .ok (.getfield 45, 3) := by decide +kernel
theorem dX9_lease_80 : decode cX9_lease 80 = .ok (.aload_n 0, 1) := by decide +kernel
theorem dX9_lease_81 : decode cX9_lease 81 = .ok (.getfield 136, 3) := by decide +kernel
theorem dX9_lease_84 : decode cX9_lease 84 = .ok (.iload_n 3, 1) := by decide +kernel
theorem dX9_lease_85 : decode cX9_lease 85 = .ok (.iastore, 1) := by decide +kernel
theorem dX9_lease_86 : decode cX9_lease 86 = .ok (.aload_n 0, 1) := by decide +kernel
theorem dX9_lease_87 : decode cX9_lease 87 = .ok (.iload_n 1, 1) := by decide +kernel
theorem dX9_lease_88 : decode cX9_lease 88 = .ok (.invokevirtual 235, 3) := by decide +kernel
theorem dX9_lease_91 : decode cX9_lease 91 = .ok (.ifCond .ne 5, 3) := by decide +kernel
theorem dX9_lease_94 : decode cX9_lease 94 = .ok (.iconst (-1), 1) := by decide +kernel
theorem dX9_lease_95 : decode cX9_lease 95 = .ok (.ireturn, 1) := by decide +kernel
theorem dX9_lease_96 : decode cX9_lease 96 = .ok (.aload_n 0, 1) := by decide +kernel
theorem dX9_lease_97 : decode cX9_lease 97 = .ok (.getfield 39, 3) := by decide +kernel
theorem dX9_lease_100 : decode cX9_lease 100 = .ok (.aload_n 0, 1) := by decide +kernel
theorem dX9_lease_101 : decode cX9_lease 101 = .ok (.getfield 136, 3) := by decide +kernel
theorem dX9_lease_104 : decode cX9_lease 104 = .ok (.iload_n 1, 1) := by decide +kernel
theorem dX9_lease_105 : decode cX9_lease 105 = .ok (.iastore, 1) := by decide +kernel
theorem dX9_lease_106 : decode cX9_lease 106 = .ok (.aload_n 0, 1) := by decide +kernel
theorem dX9_lease_107 : decode cX9_lease 107 = .ok (.getfield 48, 3) := by decide +kernel
theorem dX9_lease_110 : decode cX9_lease 110 = .ok (.aload_n 0, 1) := by decide +kernel
theorem dX9_lease_111 : decode cX9_lease 111 = .ok (.getfield 136, 3) := by decide +kernel
theorem dX9_lease_114 : decode cX9_lease 114 = .ok (.aload_n 0, 1) := by decide +kernel
theorem dX9_lease_115 : decode cX9_lease 115 = .ok (.getfield 126, 3) := by decide +kernel
theorem dX9_lease_118 : decode cX9_lease 118 = .ok (.iload 4, 2) := by decide +kernel
theorem dX9_lease_120 : decode cX9_lease 120 = .ok (.iadd, 1) := by decide +kernel
theorem dX9_lease_121 : decode cX9_lease 121 = .ok (.iastore, 1) := by decide +kernel
theorem dX9_lease_122 : decode cX9_lease 122 = .ok (.aload_n 0, 1) := by decide +kernel
theorem dX9_lease_123 : decode cX9_lease 123 = .ok (.dup, 1) := by decide +kernel
theorem dX9_lease_124 : decode cX9_lease 124 = .ok (.getfield 136, 3) := by decide +kernel
theorem dX9_lease_127 : decode cX9_lease 127 = .ok (.iconst 1, 1) := by decide +kernel
theorem dX9_lease_128 : decode cX9_lease 128 = .ok (.iadd, 1) := by decide +kernel
theorem dX9_lease_129 : decode cX9_lease 129 = .ok (.putfield 136, 3) := by decide +kernel
theorem dX9_lease_132 : decode cX9_lease 132 = .ok (.aload_n 0, 1) := by decide +kernel
theorem dX9_lease_133 : decode cX9_lease 133 = .ok (.getfield 136, 3) := by decide +kernel
theorem dX9_lease_136 : decode cX9_lease 136 = .ok (.ireturn, 1) := by decide +kernel
theorem dX9_leasesOf_0 : decode cX9_leasesOf 0 = .ok (.iconst 0, 1) := by decide +kernel
theorem dX9_leasesOf_1 : decode cX9_leasesOf 1 = .ok (.istore_n 2, 1) := by decide +kernel
theorem dX9_leasesOf_2 : decode cX9_leasesOf 2 = .ok (.iconst 0, 1) := by decide +kernel
theorem dX9_leasesOf_3 : decode cX9_leasesOf 3 = .ok (.istore_n 3, 1) := by decide +kernel
theorem dX9_leasesOf_4 : decode cX9_leasesOf 4 = .ok (.iload_n 3, 1) := by decide +kernel
theorem dX9_leasesOf_5 : decode cX9_leasesOf 5 = .ok (.aload_n 0, 1) := by decide +kernel
theorem dX9_leasesOf_6 : decode cX9_leasesOf 6 = .ok (.getfield 136, 3) := by decide +kernel
theorem dX9_leasesOf_9 : decode cX9_leasesOf 9 = .ok (.if_icmp .ge 27, 3) := by decide +kernel
theorem dX9_leasesOf_12 : decode cX9_leasesOf 12 = .ok (.iload_n 2, 1) := by decide +kernel
theorem dX9_leasesOf_13 : decode cX9_leasesOf 13 = .ok (.aload_n 0, 1) := by decide +kernel
theorem dX9_leasesOf_14 : decode cX9_leasesOf 14 = .ok (.getfield 39, 3) := by decide +kernel
theorem dX9_leasesOf_17 : decode cX9_leasesOf 17 = .ok (.iload_n 3, 1) := by decide +kernel
theorem dX9_leasesOf_18 : decode cX9_leasesOf 18 = .ok (.iaload, 1) := by decide +kernel
theorem dX9_leasesOf_19 : decode cX9_leasesOf 19 = .ok (.iload_n 1, 1) := by decide +kernel
theorem dX9_leasesOf_20 : decode cX9_leasesOf 20 = .ok (.if_icmp .ne 7, 3) := by decide +kernel
theorem dX9_leasesOf_23 : decode cX9_leasesOf 23 = .ok (.iconst 1, 1) := by decide +kernel
theorem dX9_leasesOf_24 : decode cX9_leasesOf 24 = .ok (.goto 4, 3) := by decide +kernel
theorem dX9_leasesOf_27 : decode cX9_leasesOf 27 = .ok (.iconst 0, 1) := by decide +kernel
theorem dX9_leasesOf_28 : decode cX9_leasesOf 28 = .ok (.iadd, 1) := by decide +kernel
theorem dX9_leasesOf_29 : decode cX9_leasesOf 29 = .ok (.istore_n 2, 1) := by decide +kernel
theorem dX9_leasesOf_30 : decode cX9_leasesOf 30 = .ok (.iinc 3 1, 3) := by decide +kernel
theorem dX9_leasesOf_33 : decode cX9_leasesOf 33 = .ok (.goto (-29), 3) := by decide +kernel
theorem dX9_leasesOf_36 : decode cX9_leasesOf 36 = .ok (.iload_n 2, 1) := by decide +kernel
theorem dX9_leasesOf_37 : decode cX9_leasesOf 37 = .ok (.ireturn, 1) := by decide +kernel
theorem dX9_release_0 : decode cX9_release 0 = .ok (.aload_n 0, 1) := by decide +kernel
theorem dX9_release_1 : decode cX9_release 1 = .ok (.iload_n 1, 1) := by decide +kernel
theorem dX9_release_2 : decode cX9_release 2 = .ok (.invokestatic 184, 3) := by decide +kernel
theorem dX9_release_5 : decode cX9_release 5 = .ok (.ifCond .eq 7, 3) := by decide +kernel
theorem dX9_release_8 : decode cX9_release 8 = .ok (.iconst 0, 1) := by decide +kernel
theorem dX9_release_9 : decode cX9_release 9 = .ok (.goto 4, 3) := by decide +kernel
theorem dX9_release_12 : decode cX9_release 12 = .ok (.iconst 1, 1) := by decide +kernel
theorem dX9_release_13 : decode cX9_release 13 = .ok (.putfield 87, 3) := by decide +kernel
theorem dX9_release_16 : decode cX9_release 16 = .ok (.aload_n 0, 1) := by decide +kernel
theorem dX9_release_17 : decode cX9_release 17 = .ok (.getfield 87, 3) := by decide +kernel
theorem dX9_release_20 : decode cX9_release 20 = .ok (.ifCond .le 5, 3) := by decide +kernel
theorem dX9_release_23 : decode cX9_release 23 = .ok (.iconst 0, 1) := by decide +kernel
theorem dX9_release_24 : decode cX9_release 24 = .ok (.ireturn, 1) := by decide +kernel
theorem dX9_release_25 : decode cX9_release 25 = .ok (.aload_n 0, 1) := by decide +kernel
theorem dX9_release_26 : decode cX9_release 26 = .ok (.iload_n 1, 1) := by decide +kernel
theorem dX9_release_27 : decode cX9_release 27 = .ok (.invokevirtual 238, 3) := by decide +kernel
theorem dX9_release_30 : decode cX9_release 30 = .ok (.istore_n 2, 1) := by decide +kernel
theorem dX9_release_31 : decode cX9_release 31 = .ok (.aload_n 0, 1) := by decide +kernel
theorem dX9_release_32 : decode cX9_release 32 = .ok (.iload_n 1, 1) := by decide +kernel
theorem dX9_release_33 : decode cX9_release 33 = .ok (.invokevirtual 143, 3) := by decide +kernel
theorem dX9_release_36 : decode cX9_release 36 = .ok (.iload_n 2, 1) := by decide +kernel
theorem dX9_release_37 : decode cX9_release 37 = .ok (.ireturn, 1) := by decide +kernel
theorem dX9_holderOf_0 : decode cX9_holderOf 0 = .ok (.iconst (-1), 1) := by decide +kernel
theorem dX9_holderOf_1 : decode cX9_holderOf 1 = .ok (.istore_n 2, 1) := by decide +kernel
theorem dX9_holderOf_2 : decode cX9_holderOf 2 = .ok (.iconst 0, 1) := by decide +kernel
theorem dX9_holderOf_3 : decode cX9_holderOf 3 = .ok (.istore_n 3, 1) := by decide +kernel
theorem dX9_holderOf_4 : decode cX9_holderOf 4 = .ok (.iload_n 3, 1) := by decide +kernel
theorem dX9_holderOf_5 : decode cX9_holderOf 5 = .ok (.aload_n 0, 1) := by decide +kernel
theorem dX9_holderOf_6 : decode cX9_holderOf 6 = .ok (.getfield 136, 3) := by decide +kernel
theorem dX9_holderOf_9 : decode cX9_holderOf 9 = .ok (.if_icmp .ge 56, 3) := by decide +kernel
theorem dX9_holderOf_12 : decode cX9_holderOf 12 = .ok (.aload_n 0, 1) := by decide +kernel
theorem dX9_holderOf_13 : decode cX9_holderOf 13 = .ok (.iload_n 3, 1) := by decide +kernel
theorem dX9_holderOf_14 : decode cX9_holderOf 14 = .ok (.iload_n 1, 1) := by decide +kernel
theorem dX9_holderOf_15 : decode cX9_holderOf 15 = .ok (.invokevirtual 167, 3) := by decide +kernel
theorem dX9_holderOf_18 : decode cX9_holderOf 18 = .ok (.ifCond .eq 22, 3) := by decide +kernel
theorem dX9_holderOf_21 : decode cX9_holderOf 21 = .ok (.iload_n 2, 1) := by decide +kernel
theorem dX9_holderOf_22 : decode cX9_holderOf 22 = .ok (.iconst (-1), 1) := by decide +kernel
theorem dX9_holderOf_23 : decode cX9_holderOf 23 = .ok (.if_icmp .eq 13, 3) := by decide +kernel
theorem dX9_holderOf_26 : decode cX9_holderOf 26 = .ok (.aload_n 0, 1) := by decide +kernel
theorem dX9_holderOf_27 : decode cX9_holderOf 27 = .ok (.getfield 39, 3) := by decide +kernel
theorem dX9_holderOf_30 : decode cX9_holderOf 30 = .ok (.iload_n 3, 1) := by decide +kernel
theorem dX9_holderOf_31 : decode cX9_holderOf 31 = .ok (.iaload, 1) := by decide +kernel
theorem dX9_holderOf_32 : decode cX9_holderOf 32 = .ok (.iload_n 2, 1) := by decide +kernel
theorem dX9_holderOf_33 : decode cX9_holderOf 33 = .ok (.if_icmp .ge 7, 3) := by decide +kernel
theorem dX9_holderOf_36 : decode cX9_holderOf 36 = .ok (.iconst 1, 1) := by decide +kernel
theorem dX9_holderOf_37 : decode cX9_holderOf 37 = .ok (.goto 4, 3) := by decide +kernel
theorem dX9_holderOf_40 : decode cX9_holderOf 40 = .ok (.iconst 0, 1) := by decide +kernel
theorem dX9_holderOf_41 : decode cX9_holderOf 41 = .ok (.istore 4, 2) := by decide +kernel
theorem dX9_holderOf_43 : decode cX9_holderOf 43 = .ok (.iload 4, 2) := by decide +kernel
theorem dX9_holderOf_45 : decode cX9_holderOf 45 = .ok (.ifCond .eq 12, 3) := by decide +kernel
theorem dX9_holderOf_48 : decode cX9_holderOf 48 = .ok (.aload_n 0, 1) := by decide +kernel
theorem dX9_holderOf_49 : decode cX9_holderOf 49 = .ok (.getfield 39, 3) := by decide +kernel
theorem dX9_holderOf_52 : decode cX9_holderOf 52 = .ok (.iload_n 3, 1) := by decide +kernel
theorem dX9_holderOf_53 : decode cX9_holderOf 53 = .ok (.iaload, 1) := by decide +kernel
theorem dX9_holderOf_54 : decode cX9_holderOf 54 = .ok (.goto 4, 3) := by decide +kernel
theorem dX9_holderOf_57 : decode cX9_holderOf 57 = .ok (.iload_n 2, 1) := by decide +kernel
theorem dX9_holderOf_58 : decode cX9_holderOf 58 = .ok (.istore_n 2, 1) := by decide +kernel
theorem dX9_holderOf_59 : decode cX9_holderOf 59 = .ok (.iinc 3 1, 3) := by decide +kernel
theorem dX9_holderOf_62 : decode cX9_holderOf 62 = .ok (.goto (-58), 3) := by decide +kernel
theorem dX9_holderOf_65 : decode cX9_holderOf 65 = .ok (.iload_n 2, 1) := by decide +kernel
theorem dX9_holderOf_66 : decode cX9_holderOf 66 = .ok (.ireturn, 1) := by decide +kernel
theorem dX9_holder_0 : decode cX9_holder 0 = .ok (.aload_n 0, 1) := by decide +kernel
theorem dX9_holder_1 : decode cX9_holder 1 = .ok (.iload_n 1, 1) := by decide +kernel
theorem dX9_holder_2 : decode cX9_holder 2 = .ok (.invokestatic 223, 3) := by decide +kernel
theorem dX9_holder_5 : decode cX9_holder 5 = .ok (.ifCond .eq 7, 3) := by decide +kernel
theorem dX9_holder_8 : decode cX9_holder 8 = .ok (.iconst 0, 1) := by decide +kernel
theorem dX9_holder_9 : decode cX9_holder 9 = .ok (.goto 4, 3) := by decide +kernel
theorem dX9_holder_12 : decode cX9_holder 12 = .ok (.iconst 1, 1) := by decide +kernel
theorem dX9_holder_13 : decode cX9_holder 13 = .ok (.putfield 87, 3) := by decide +kernel
theorem dX9_holder_16 : decode cX9_holder 16 = .ok (.aload_n 0, 1) := by decide +kernel
theorem dX9_holder_17 : decode cX9_holder 17 = .ok (.getfield 87, 3) := by decide +kernel
theorem dX9_holder_20 : decode cX9_holder 20 = .ok (.ifCond .le 7, 3) := by decide +kernel
theorem dX9_holder_23 : decode cX9_holder 23 = .ok (.iconst 0, 1) := by decide +kernel
theorem dX9_holder_24 : decode cX9_holder 24 = .ok (.goto 8, 3) := by decide +kernel
theorem dX9_holder_27 : decode cX9_holder 27 = .ok (.aload_n 0, 1) := by decide +kernel
theorem dX9_holder_28 : decode cX9_holder 28 = .ok (.iload_n 1, 1) := by decide +kernel
theorem dX9_holder_29 : decode cX9_holder 29 = .ok (.invokevirtual 241, 3) := by decide +kernel
theorem dX9_holder_32 : decode cX9_holder 32 = .ok (.ireturn, 1) := by decide +kernel
theorem dX9_setMark_0 : decode cX9_setMark 0 = .ok (.aload_n 0, 1) := by decide +kernel
theorem dX9_setMark_1 : decode cX9_setMark 1 = .ok (.iload_n 1, 1) := by decide +kernel
theorem dX9_setMark_2 : decode cX9_setMark 2 = .ok (.invokestatic 244, 3) := by decide +kernel
theorem dX9_setMark_5 : decode cX9_setMark 5 = .ok (.ifCond .eq 7, 3) := by decide +kernel
theorem dX9_setMark_8 : decode cX9_setMark 8 = .ok (.iconst 0, 1) := by decide +kernel
theorem dX9_setMark_9 : decode cX9_setMark 9 = .ok (.goto 4, 3) := by decide +kernel
theorem dX9_setMark_12 : decode cX9_setMark 12 = .ok (.iconst 1, 1) := by decide +kernel
theorem dX9_setMark_13 : decode cX9_setMark 13 = .ok (.putfield 87, 3) := by decide +kernel
theorem dX9_setMark_16 : decode cX9_setMark 16 = .ok (.aload_n 0, 1) := by decide +kernel
theorem dX9_setMark_17 : decode cX9_setMark 17 = .ok (.getfield 87, 3) := by decide +kernel
theorem dX9_setMark_20 : decode cX9_setMark 20 = .ok (.ifCond .le 5, 3) := by decide +kernel
theorem dX9_setMark_23 : decode cX9_setMark 23 = .ok (.iconst 0, 1) := by decide +kernel
theorem dX9_setMark_24 : decode cX9_setMark 24 = .ok (.ireturn, 1) := by decide +kernel
theorem dX9_setMark_25 : decode cX9_setMark 25 = .ok (.aload_n 0, 1) := by decide +kernel
theorem dX9_setMark_26 : decode cX9_setMark 26 = .ok (.getfield 60, 3) := by decide +kernel
theorem dX9_setMark_29 : decode cX9_setMark 29 = .ok (.iload_n 1, 1) := by decide +kernel
theorem dX9_setMark_30 : decode cX9_setMark 30 = .ok (.iconst 1, 1) := by decide +kernel
theorem dX9_setMark_31 : decode cX9_setMark 31 = .ok (.bastore, 1) := by decide +kernel
theorem dX9_setMark_32 : decode cX9_setMark 32 = .ok (.aload_n 0, 1) := by decide +kernel
theorem dX9_setMark_33 : decode cX9_setMark 33 = .ok (.getfield 51, 3) := by decide +kernel
theorem dX9_setMark_36 : decode cX9_setMark 36 = .ok (.iload_n 1, 1) := by decide +kernel
theorem dX9_setMark_37 : decode cX9_setMark 37 = .ok (.aload_n 0, 1) := by decide +kernel
theorem dX9_setMark_38 : decode cX9_setMark 38 = .ok (.getfield 95, 3) := by decide +kernel
theorem dX9_setMark_41 : decode cX9_setMark 41 = .ok (.iastore, 1) := by decide +kernel
theorem dX9_setMark_42 : decode cX9_setMark 42 = .ok (.aload_n 0, 1) := by decide +kernel
theorem dX9_setMark_43 : decode cX9_setMark 43 = .ok (.getfield 54, 3) := by decide +kernel
theorem dX9_setMark_46 : decode cX9_setMark 46 = .ok (.iload_n 1, 1) := by decide +kernel
theorem dX9_setMark_47 : decode cX9_setMark 47 = .ok (.aload_n 0, 1) := by decide +kernel
theorem dX9_setMark_48 : decode cX9_setMark 48 = .ok (.getfield 126, 3) := by decide +kernel
theorem dX9_setMark_51 : decode cX9_setMark 51 = .ok (.iastore, 1) := by decide +kernel
theorem dX9_setMark_52 : decode cX9_setMark 52 = .ok (.aload_n 0, 1) := by decide +kernel
theorem dX9_setMark_53 : decode cX9_setMark 53 = .ok (.getfield 57, 3) := by decide +kernel
theorem dX9_setMark_56 : decode cX9_setMark 56 = .ok (.iload_n 1, 1) := by decide +kernel
theorem dX9_setMark_57 : decode cX9_setMark 57 = .ok (.lconst 0, 1) := by decide +kernel
theorem dX9_setMark_58 : decode cX9_setMark 58 = .ok (.lastore, 1) := by decide +kernel
theorem dX9_setMark_59 : decode cX9_setMark 59 = .ok (.iconst 0, 1) := by decide +kernel
theorem dX9_setMark_60 : decode cX9_setMark 60 = .ok (.istore_n 2, 1) := by decide +kernel
theorem dX9_setMark_61 : decode cX9_setMark 61 = .ok (.iload_n 2, 1) := by decide +kernel
theorem dX9_setMark_62 : decode cX9_setMark 62 = .ok (.aload_n 0, 1) := by decide +kernel
theorem dX9_setMark_63 : decode cX9_setMark 63 = .ok (.getfield 95, 3) := by decide +kernel
theorem dX9_setMark_66 : decode cX9_setMark 66 = .ok (.if_icmp .ge 34, 3) := by decide +kernel
theorem dX9_setMark_69 : decode cX9_setMark 69 = .ok (.aload_n 0, 1) := by decide +kernel
theorem dX9_setMark_70 : decode cX9_setMark 70 = .ok (.getfield 57, 3) := by decide +kernel
theorem dX9_setMark_73 : decode cX9_setMark 73 = .ok (.iload_n 1, 1) := by decide +kernel
theorem dX9_setMark_74 : decode cX9_setMark 74 = .ok (.dup2, 1) := by decide +kernel
theorem dX9_setMark_75 : decode cX9_setMark 75 = .ok (.laload, 1) := by decide +kernel
theorem dX9_setMark_76 : decode cX9_setMark 76 = .ok (.aload_n 0, 1) := by decide +kernel
theorem dX9_setMark_77 : decode cX9_setMark 77 = .ok (.getfield 28, 3) := by decide +kernel
theorem dX9_setMark_80 : decode cX9_setMark 80 = .ok (.iload_n 2, 1) := by decide +kernel
theorem dX9_setMark_81 : decode cX9_setMark 81 = .ok (.baload, 1) := by decide +kernel
theorem dX9_setMark_82 : decode cX9_setMark 82 = .ok (.ifCond .eq 9, 3) := by decide +kernel
theorem dX9_setMark_85 : decode cX9_setMark 85 = .ok (.lconst 1, 1) := by decide +kernel
theorem dX9_setMark_86 : decode cX9_setMark 86 = .ok (.iload_n 2, 1) := by decide +kernel
theorem dX9_setMark_87 : decode cX9_setMark 87 = .ok (.lshl, 1) := by decide +kernel
theorem dX9_setMark_88 : decode cX9_setMark 88 = .ok (.goto 4, 3) := by decide +kernel
theorem dX9_setMark_91 : decode cX9_setMark 91 = .ok (.lconst 0, 1) := by decide +kernel
theorem dX9_setMark_92 : decode cX9_setMark 92 = .ok (.lor, 1) := by decide +kernel
theorem dX9_setMark_93 : decode cX9_setMark 93 = .ok (.lastore, 1) := by decide +kernel
theorem dX9_setMark_94 : decode cX9_setMark 94 = .ok (.iinc 2 1, 3) := by decide +kernel
theorem dX9_setMark_97 : decode cX9_setMark 97 = .ok (.goto (-36), 3) := by decide +kernel
theorem dX9_setMark_100 : decode cX9_setMark 100 = .ok (.aload_n 0, 1) := by decide +kernel
theorem dX9_setMark_101 : decode cX9_setMark 101 = .ok (.getfield 95, 3) := by decide +kernel
theorem dX9_setMark_104 : decode cX9_setMark 104 = .ok (.ireturn, 1) := by decide +kernel
theorem dX9_wasActive_0 : decode cX9_wasActive 0 = .ok (.aload_n 0, 1) := by decide +kernel
theorem dX9_wasActive_1 : decode cX9_wasActive 1 = .ok (.getfield 57, 3) := by decide +kernel
theorem dX9_wasActive_4 : decode cX9_wasActive 4 = .ok (.iload_n 1, 1) := by decide +kernel
theorem dX9_wasActive_5 : decode cX9_wasActive 5 = .ok (.laload, 1) := by decide +kernel
theorem dX9_wasActive_6 : decode cX9_wasActive 6 = .ok (.iload_n 2, 1) := by decide +kernel
theorem dX9_wasActive_7 : decode cX9_wasActive 7 = .ok (.lushr, 1) := by decide +kernel
theorem dX9_wasActive_8 : decode cX9_wasActive 8 = .ok (.lconst 1, 1) := by decide +kernel
theorem dX9_wasActive_9 : decode cX9_wasActive 9 = .ok (.land, 1) := by decide +kernel
theorem dX9_wasActive_10 : decode cX9_wasActive 10 = .ok (.lconst 1, 1) := by decide +kernel
theorem dX9_wasActive_11 : decode cX9_wasActive 11 = .ok (.lcmp, 1) := by decide +kernel
theorem dX9_wasActive_12 : decode cX9_wasActive 12 = .ok (.ifCond .ne 7, 3) := by decide +kernel
theorem dX9_wasActive_15 : decode cX9_wasActive 15 = .ok (.iconst 1, 1) := by decide +kernel
theorem dX9_wasActive_16 : decode cX9_wasActive 16 = .ok (.goto 4, 3) := by decide +kernel
theorem dX9_wasActive_19 : decode cX9_wasActive 19 = .ok (.iconst 0, 1) := by decide +kernel
theorem dX9_wasActive_20 : decode cX9_wasActive 20 = .ok (.ireturn, 1) := by decide +kernel
theorem dX9_layMark_0 : decode cX9_layMark 0 = .ok (.iconst 0, 1) := by decide +kernel
theorem dX9_layMark_1 : decode cX9_layMark 1 = .ok (.istore_n 2, 1) := by decide +kernel
theorem dX9_layMark_2 : decode cX9_layMark 2 = .ok (.iload_n 2, 1) := by decide +kernel
theorem dX9_layMark_3 : decode cX9_layMark 3 = .ok (.aload_n 0, 1) := by decide +kernel
theorem dX9_layMark_4 : decode cX9_layMark 4 = .ok (.getfield 51, 3) := by decide +kernel
theorem dX9_layMark_7 : decode cX9_layMark 7 = .ok (.iload_n 1, 1) := by decide +kernel
theorem dX9_layMark_8 : decode cX9_layMark 8 = .ok (.iaload, 1) := by decide +kernel
theorem dX9_layMark_9 : decode cX9_layMark 9 = .ok (.if_icmp .ge 21, 3) := by decide +kernel
theorem dX9_layMark_12 : decode cX9_layMark 12 = .ok (.aload_n 0, 1) := by decide +kernel
theorem dX9_layMark_13 : decode cX9_layMark 13 = .ok (.getfield 69, 3) := by decide +kernel
theorem dX9_layMark_16 : decode cX9_layMark 16 = .ok (.iload_n 2, 1) := by decide +kernel
theorem dX9_layMark_17 : decode cX9_layMark 17 = .ok (.aload_n 0, 1) := by decide +kernel
theorem dX9_layMark_18 : decode cX9_layMark 18 = .ok (.iload_n 1, 1) := by decide +kernel
theorem dX9_layMark_19 : decode cX9_layMark 19 = .ok (.iload_n 2, 1) := by decide +kernel
theorem dX9_layMark_20 : decode cX9_layMark 20 = .ok (.invokevirtual 247, 3) := by decide +kernel
theorem dX9_layMark_23 : decode cX9_layMark 23 = .ok (.bastore, 1) := by decide +kernel
theorem dX9_layMark_24 : decode cX9_layMark 24 = .ok (.iinc 2 1, 3) := by decide +kernel
theorem dX9_layMark_27 : decode cX9_layMark 27 = .ok (.goto (-25), 3) := by decide +kernel
theorem dX9_layMark_30 : decode cX9_layMark 30 = .ok (.aload_n 0, 1) := by decide +kernel
theorem dX9_layMark_31 : decode cX9_layMark 31 = .ok (.aload_n 0, 1) := by decide +kernel
theorem dX9_layMark_32 : decode cX9_layMark 32 = .ok (.getfield 51, 3) := by decide +kernel
theorem dX9_layMark_35 : decode cX9_layMark 35 = .ok (.iload_n 1, 1) := by decide +kernel
theorem dX9_layMark_36 : decode cX9_layMark 36 = .ok (.iaload, 1) := by decide +kernel
theorem dX9_layMark_37 : decode cX9_layMark 37 = .ok (.invokevirtual 119, 3) := by decide +kernel
theorem dX9_layMark_40 : decode cX9_layMark 40 = .ok (.aload_n 0, 1) := by decide +kernel
theorem dX9_layMark_41 : decode cX9_layMark 41 = .ok (.aload_n 0, 1) := by decide +kernel
theorem dX9_layMark_42 : decode cX9_layMark 42 = .ok (.getfield 51, 3) := by decide +kernel
theorem dX9_layMark_45 : decode cX9_layMark 45 = .ok (.iload_n 1, 1) := by decide +kernel
theorem dX9_layMark_46 : decode cX9_layMark 46 = .ok (.iaload, 1) := by decide +kernel
theorem dX9_layMark_47 : decode cX9_layMark 47 = .ok (.aload_n 0, 1) := by decide +kernel
theorem dX9_layMark_48 : decode cX9_layMark 48 = .ok (.getfield 54, 3) := by decide +kernel
theorem dX9_layMark_51 : decode cX9_layMark 51 = .ok (.iload_n 1, 1) := by decide +kernel
theorem dX9_layMark_52 : decode cX9_layMark 52 = .ok (.iaload, 1) := by decide +kernel
theorem dX9_layMark_53 : decode cX9_layMark 53 = .ok (.invokevirtual 122, 3) := by decide +kernel
theorem dX9_layMark_56 : decode cX9_layMark 56 = .ok (.return_, 1) := by decide +kernel
theorem dX9_replay_0 : decode cX9_replay 0 = .ok (.aload_n 0, 1) := by decide +kernel
theorem dX9_replay_1 : decode cX9_replay 1 = .ok (.iload_n 1, 1) := by decide +kernel
theorem dX9_replay_2 : decode cX9_replay 2 = .ok (.invokestatic 244, 3) := by decide +kernel
theorem dX9_replay_5 : decode cX9_replay 5 = .ok (.ifCond .eq 10, 3) := by decide +kernel
theorem dX9_replay_8 : decode cX9_replay 8 = .ok (.iload_n 2, 1) := by decide +kernel
theorem dX9_replay_9 : decode cX9_replay 9 = .ok (.invokestatic 223, 3) := by decide +kernel
theorem dX9_replay_12 : decode cX9_replay 12 = .ok (.ifCond .ne 7, 3) := by decide +kernel
theorem dX9_replay_15 : decode cX9_replay 15 = .ok (.iconst 1, 1) := by decide +kernel
theorem dX9_replay_16 : decode cX9_replay 16 = .ok (.goto 17, 3) := by decide +kernel
theorem dX9_replay_19 : decode cX9_replay 19 = .ok (.aload_n 0, 1) := by decide +kernel
theorem dX9_replay_20 : decode cX9_replay 20 = .ok (.getfield 60, 3) := by decide +kernel
theorem dX9_replay_23 : decode cX9_replay 23 = .ok (.iload_n 1, 1) := by decide +kernel
theorem dX9_replay_24 : decode cX9_replay 24 = .ok (.baload, 1) := by decide +kernel
theorem dX9_replay_25 : decode cX9_replay 25 = .ok (.ifCond .eq 7, 3) := by decide +kernel
theorem dX9_replay_28 : decode cX9_replay 28 = .ok (.iconst 0, 1) := by decide +kernel
theorem dX9_replay_29 : decode cX9_replay 29 = .ok (.goto 4, 3) := by decide +kernel
theorem dX9_replay_32 : decode cX9_replay 32 = .ok (.iconst 2, 1) := by decide +kernel
theorem dX9_replay_33 : decode cX9_replay 33 = .ok (.putfield 87, 3) := by decide +kernel
theorem dX9_replay_36 : decode cX9_replay 36 = .ok (.aload_n 0, 1) := by decide +kernel
theorem dX9_replay_37 : decode cX9_replay 37 = .ok (.getfield 87, 3) := by decide +kernel
theorem dX9_replay_40 : decode cX9_replay 40 = .ok (.ifCond .le 5, 3) := by decide +kernel
theorem dX9_replay_43 : decode cX9_replay 43 = .ok (.iconst 0, 1) := by decide +kernel
theorem dX9_replay_44 : decode cX9_replay 44 = .ok (.ireturn, 1) := by decide +kernel
theorem dX9_replay_45 : decode cX9_replay 45 = .ok (.aload_n 0, 1) := by decide +kernel
theorem dX9_replay_46 : decode cX9_replay 46 = .ok (.iload_n 1, 1) := by decide +kernel
theorem dX9_replay_47 : decode cX9_replay 47 = .ok (.invokevirtual 250, 3) := by decide +kernel
theorem dX9_replay_50 : decode cX9_replay 50 = .ok (.aload_n 0, 1) := by decide +kernel
theorem dX9_replay_51 : decode cX9_replay 51 = .ok (.iload_n 2, 1) := by decide +kernel
theorem dX9_replay_52 : decode cX9_replay 52 = .ok (.invokevirtual 132, 3) := by decide +kernel
theorem dX9_replay_55 : decode cX9_replay 55 = .ok (.ireturn, 1) := by decide +kernel
theorem dX9_differenceNow_0 : decode cX9_differenceNow 0 = .ok (.aload_n 0, 1) := by decide +kernel
theorem dX9_differenceNow_1 : decode cX9_differenceNow 1 = .ok (.invokevirtual 201, 3) := by decide +kernel
theorem dX9_differenceNow_4 : decode cX9_differenceNow 4 = .ok (.aload_n 0, 1) := by decide +kernel
theorem dX9_differenceNow_5 : decode cX9_differenceNow 5 = .ok (.invokevirtual 204, 3) := by decide +kernel
theorem dX9_differenceNow_8 : decode cX9_differenceNow 8 = .ok (.aload_n 0, 1) := by decide +kernel
theorem dX9_differenceNow_9 : decode cX9_differenceNow 9 = .ok (.iload_n 1, 1) := by decide +kernel
theorem dX9_differenceNow_10 : decode cX9_differenceNow 10 = .ok (.invokevirtual 250, 3) := by decide +kernel
theorem dX9_differenceNow_13 : decode cX9_differenceNow 13 = .ok (.aload_n 0, 1) := by decide +kernel
theorem dX9_differenceNow_14 : decode cX9_differenceNow 14 = .ok (.invokevirtual 207, 3) := by decide +kernel
theorem dX9_differenceNow_17 : decode cX9_differenceNow 17 = .ok (.ireturn, 1) := by decide +kernel
theorem dX9_difference_0 : decode cX9_difference 0 = .ok (.aload_n 0, 1) := by decide +kernel
theorem dX9_difference_1 : decode cX9_difference 1 = .ok (.iload_n 1, 1) := by decide +kernel
theorem dX9_difference_2 : decode cX9_difference 2 = .ok (.invokestatic 244, 3) := by decide +kernel
theorem dX9_difference_5 : decode cX9_difference 5 = .ok (.ifCond .ne 7, 3) := by decide +kernel
theorem dX9_difference_8 : decode cX9_difference 8 = .ok (.iconst 1, 1) := by decide +kernel
theorem dX9_difference_9 : decode cX9_difference 9 = .ok (.goto 17, 3) := by decide +kernel
theorem dX9_difference_12 : decode cX9_difference 12 = .ok (.aload_n 0, 1) := by decide +kernel
theorem dX9_difference_13 : decode cX9_difference 13 = .ok (.getfield 60, 3) := by decide +kernel
theorem dX9_difference_16 : decode cX9_difference 16 = .ok (.iload_n 1, 1) := by decide +kernel
theorem dX9_difference_17 : decode cX9_difference 17 = .ok (.baload, 1) := by decide +kernel
theorem dX9_difference_18 : decode cX9_difference 18 = .ok (.ifCond .eq 7, 3) := by decide +kernel
theorem dX9_difference_21 : decode cX9_difference 21 = .ok (.iconst 0, 1) := by decide +kernel
theorem dX9_difference_22 : decode cX9_difference 22 = .ok (.goto 4, 3) := by decide +kernel
theorem dX9_difference_25 : decode cX9_difference 25 = .ok (.iconst 2, 1) := by decide +kernel
theorem dX9_difference_26 : decode cX9_difference 26 = .ok (.putfield 87, 3) := by decide +kernel
theorem dX9_difference_29 : decode cX9_difference 29 = .ok (.aload_n 0, 1) := by decide +kernel
theorem dX9_difference_30 : decode cX9_difference 30 = .ok (.getfield 87, 3) := by decide +kernel
theorem dX9_difference_33 : decode cX9_difference 33 = .ok (.ifCond .le 7, 3) := by decide +kernel
theorem dX9_difference_36 : decode cX9_difference 36 = .ok (.iconst 0, 1) := by decide +kernel
theorem dX9_difference_37 : decode cX9_difference 37 = .ok (.goto 8, 3) := by decide +kernel
theorem dX9_difference_40 : decode cX9_difference 40 = .ok (.aload_n 0, 1) := by decide +kernel
theorem dX9_difference_41 : decode cX9_difference 41 = .ok (.iload_n 1, 1) := by decide +kernel
theorem dX9_difference_42 : decode cX9_difference 42 = .ok (.invokevirtual 253, 3) := by decide +kernel
theorem dX9_difference_45 : decode cX9_difference 45 = .ok (.ireturn, 1) := by decide +kernel
theorem dX9_rewind_0 : decode cX9_rewind 0 = .ok (.aload_n 0, 1) := by decide +kernel
theorem dX9_rewind_1 : decode cX9_rewind 1 = .ok (.iload_n 1, 1) := by decide +kernel
theorem dX9_rewind_2 : decode cX9_rewind 2 = .ok (.invokestatic 244, 3) := by decide +kernel
theorem dX9_rewind_5 : decode cX9_rewind 5 = .ok (.ifCond .ne 7, 3) := by decide +kernel
theorem dX9_rewind_8 : decode cX9_rewind 8 = .ok (.iconst 1, 1) := by decide +kernel
theorem dX9_rewind_9 : decode cX9_rewind 9 = .ok (.goto 17, 3) := by decide +kernel
theorem dX9_rewind_12 : decode cX9_rewind 12 = .ok (.aload_n 0, 1) := by decide +kernel
theorem dX9_rewind_13 : decode cX9_rewind 13 = .ok (.getfield 60, 3) := by decide +kernel
theorem dX9_rewind_16 : decode cX9_rewind 16 = .ok (.iload_n 1, 1) := by decide +kernel
theorem dX9_rewind_17 : decode cX9_rewind 17 = .ok (.baload, 1) := by decide +kernel
theorem dX9_rewind_18 : decode cX9_rewind 18 = .ok (.ifCond .eq 7, 3) := by decide +kernel
theorem dX9_rewind_21 : decode cX9_rewind 21 = .ok (.iconst 0, 1) := by decide +kernel
theorem dX9_rewind_22 : decode cX9_rewind 22 = .ok (.goto 4, 3) := by decide +kernel
theorem dX9_rewind_25 : decode cX9_rewind 25 = .ok (.iconst 2, 1) := by decide +kernel
theorem dX9_rewind_26 : decode cX9_rewind 26 = .ok (.putfield 87, 3) := by decide +kernel
theorem dX9_rewind_29 : decode cX9_rewind 29 = .ok (.aload_n 0, 1) := by decide +kernel
theorem dX9_rewind_30 : decode cX9_rewind 30 = .ok (.getfield 87, 3) := by decide +kernel
theorem dX9_rewind_33 : decode cX9_rewind 33 = .ok (.ifCond .le 5, 3) := by decide +kernel
theorem dX9_rewind_36 : decode cX9_rewind 36 = .ok (.iconst 0, 1) := by decide +kernel
theorem dX9_rewind_37 : decode cX9_rewind 37 = .ok (.ireturn, 1) := by decide +kernel
theorem dX9_rewind_38 : decode cX9_rewind 38 = .ok (.aload_n 0, 1) := by decide +kernel
theorem dX9_rewind_39 : decode cX9_rewind 39 = .ok (.getfield 95, 3) := by decide +kernel
theorem dX9_rewind_42 : decode cX9_rewind 42 = .ok (.aload_n 0, 1) := by decide +kernel
theorem dX9_rewind_43 : decode cX9_rewind 43 = .ok (.getfield 51, 3) := by decide +kernel
theorem dX9_rewind_46 : decode cX9_rewind 46 = .ok (.iload_n 1, 1) := by decide +kernel
theorem dX9_rewind_47 : decode cX9_rewind 47 = .ok (.iaload, 1) := by decide +kernel
theorem dX9_rewind_48 : decode cX9_rewind 48 = .ok (.isub, 1) := by decide +kernel
theorem dX9_rewind_49 : decode cX9_rewind 49 = .ok (.istore_n 2, 1) := by decide +kernel
theorem dX9_rewind_50 : decode cX9_rewind 50 = .ok (.aload_n 0, 1) := by decide +kernel
theorem dX9_rewind_51 : decode cX9_rewind 51 = .ok (.aload_n 0, 1) := by decide +kernel
theorem dX9_rewind_52 : decode cX9_rewind 52 = .ok (.getfield 51, 3) := by decide +kernel
theorem dX9_rewind_55 : decode cX9_rewind 55 = .ok (.iload_n 1, 1) := by decide +kernel
theorem dX9_rewind_56 : decode cX9_rewind 56 = .ok (.iaload, 1) := by decide +kernel
theorem dX9_rewind_57 : decode cX9_rewind 57 = .ok (.putfield 95, 3) := by decide +kernel
theorem dX9_rewind_60 : decode cX9_rewind 60 = .ok (.iconst 0, 1) := by decide +kernel
theorem dX9_rewind_61 : decode cX9_rewind 61 = .ok (.istore_n 3, 1) := by decide +kernel
theorem dX9_rewind_62 : decode cX9_rewind 62 = .ok (.iload_n 3, 1) := by decide +kernel
theorem dX9_rewind_63 : decode cX9_rewind 63 = .ok (.aload_n 0, 1) := by decide +kernel
theorem dX9_rewind_64 : decode cX9_rewind 64 = .ok (.getfield 95, 3) := by decide +kernel
theorem dX9_rewind_67 : decode cX9_rewind 67 = .ok (.if_icmp .ge 28, 3) := by decide +kernel
theorem dX9_rewind_70 : decode cX9_rewind 70 = .ok (.aload_n 0, 1) := by decide +kernel
theorem dX9_rewind_71 : decode cX9_rewind 71 = .ok (.getfield 28, 3) := by decide +kernel
theorem dX9_rewind_74 : decode cX9_rewind 74 = .ok (.iload_n 3, 1) := by decide +kernel
theorem dX9_rewind_75 : decode cX9_rewind 75 = .ok (.aload_n 0, 1) := by decide +kernel
theorem dX9_rewind_76 : decode cX9_rewind 76 = .ok (.iload_n 1, 1) := by decide +kernel
theorem dX9_rewind_77 : decode cX9_rewind 77 = .ok (.iload_n 3, 1) := by decide +kernel
theorem dX9_rewind_78 : decode cX9_rewind 78 = .ok (.invokevirtual 247, 3) := by decide +kernel
theorem dX9_rewind_81 : decode cX9_rewind 81 = .ok (.bastore, 1) := by decide +kernel
theorem dX9_rewind_82 : decode cX9_rewind 82 = .ok (.aload_n 0, 1) := by decide +kernel
theorem dX9_rewind_83 : decode cX9_rewind 83 = .ok (.getfield 32, 3) := by decide +kernel
theorem dX9_rewind_86 : decode cX9_rewind 86 = .ok (.iload_n 3, 1) := by decide +kernel
theorem dX9_rewind_87 : decode cX9_rewind 87 = .ok (.iconst 0, 1) := by decide +kernel
theorem dX9_rewind_88 : decode cX9_rewind 88 = .ok (.iastore, 1) := by decide +kernel
theorem dX9_rewind_89 : decode cX9_rewind 89 = .ok (.iinc 3 1, 3) := by decide +kernel
theorem dX9_rewind_92 : decode cX9_rewind 92 = .ok (.goto (-30), 3) := by decide +kernel
theorem dX9_rewind_95 : decode cX9_rewind 95 = .ok (.iconst 0, 1) := by decide +kernel
theorem dX9_rewind_96 : decode cX9_rewind 96 = .ok (.istore_n 3, 1) := by decide +kernel
theorem dX9_rewind_97 : decode cX9_rewind 97 = .ok (.iload_n 3, 1) := by decide +kernel
theorem dX9_rewind_98 : decode cX9_rewind 98 = .ok (.bipush 6, 2) := by decide +kernel
theorem dX9_rewind_100 : decode cX9_rewind 100 = .ok (.if_icmp .ge 42, 3) := by decide +kernel
theorem dX9_rewind_103 : decode cX9_rewind 103 = .ok (.aload_n 0, 1) := by decide +kernel
theorem dX9_rewind_104 : decode cX9_rewind 104 = .ok (.getfield 60, 3) := by decide +kernel
theorem dX9_rewind_107 : decode cX9_rewind 107 = .ok (.iload_n 3, 1) := by decide +kernel
theorem dX9_rewind_108 : decode cX9_rewind 108 = .ok (.aload_n 0, 1) := by decide +kernel
theorem dX9_rewind_109 : decode cX9_rewind 109 = .ok (.getfield 60, 3) := by decide +kernel
theorem dX9_rewind_112 : decode cX9_rewind 112 = .ok (.iload_n 3, 1) := by decide +kernel
theorem dX9_rewind_113 : decode cX9_rewind 113 = .ok (.baload, 1) := by decide +kernel
theorem dX9_rewind_114 : decode cX9_rewind 114 = .ok (.ifCond .eq 20, 3) := by decide +kernel
theorem dX9_rewind_117 : decode cX9_rewind 117 = .ok (.aload_n 0, 1) := by decide +kernel
theorem dX9_rewind_118 : decode cX9_rewind 118 = .ok (.getfield 51, 3) := by decide +kernel
theorem dX9_rewind_121 : decode cX9_rewind 121 = .ok (.iload_n 3, 1) := by decide +kernel
theorem dX9_rewind_122 : decode cX9_rewind 122 = .ok (.iaload, 1) := by decide +kernel
theorem dX9_rewind_123 : decode cX9_rewind 123 = .ok (.aload_n 0, 1) := by decide +kernel
theorem dX9_rewind_124 : decode cX9_rewind 124 = .ok (.getfield 95, 3) := by decide +kernel
theorem dX9_rewind_127 : decode cX9_rewind 127 = .ok (.if_icmp .gt 7, 3) := by decide +kernel
theorem dX9_rewind_130 : decode cX9_rewind 130 = .ok (.iconst 1, 1) := by decide +kernel
theorem dX9_rewind_131 : decode cX9_rewind 131 = .ok (.goto 4, 3) := by decide +kernel
theorem dX9_rewind_134 : decode cX9_rewind 134 = .ok (.iconst 0, 1) := by decide +kernel
theorem dX9_rewind_135 : decode cX9_rewind 135 = .ok (.bastore, 1) := by decide +kernel
theorem dX9_rewind_136 : decode cX9_rewind 136 = .ok (.iinc 3 1, 3) := by decide +kernel
theorem dX9_rewind_139 : decode cX9_rewind 139 = .ok (.goto (-42), 3) := by decide +kernel
theorem dX9_rewind_142 : decode cX9_rewind 142 = .ok (.iload_n 2, 1) := by decide +kernel
theorem dX9_rewind_143 : decode cX9_rewind 143 = .ok (.ireturn, 1) := by decide +kernel
theorem dX9_color_0 : decode cX9_color 0 = .ok (.aload_n 0, 1) := by decide +kernel
theorem dX9_color_1 : decode cX9_color 1 = .ok (.iload_n 1, 1) := by decide +kernel
theorem dX9_color_2 : decode cX9_color 2 = .ok (.invokestatic 223, 3) := by decide +kernel
theorem dX9_color_5 : decode cX9_color 5 = .ok (.ifCond .eq 7, 3) := by decide +kernel
theorem dX9_color_8 : decode cX9_color 8 = .ok (.iconst 0, 1) := by decide +kernel
theorem dX9_color_9 : decode cX9_color 9 = .ok (.goto 4, 3) := by decide +kernel
theorem dX9_color_12 : decode cX9_color 12 = .ok (.iconst 1, 1) := by decide +kernel
theorem dX9_color_13 : decode cX9_color 13 = .ok (.putfield 87, 3) := by decide +kernel
theorem dX9_color_16 : decode cX9_color 16 = .ok (.aload_n 0, 1) := by decide +kernel
theorem dX9_color_17 : decode cX9_color 17 = .ok (.getfield 87, 3) := by decide +kernel
theorem dX9_color_20 : decode cX9_color 20 = .ok (.ifCond .le 5, 3) := by decide +kernel
theorem dX9_color_23 : decode cX9_color 23 = .ok (.iconst 0, 1) := by decide +kernel
theorem dX9_color_24 : decode cX9_color 24 = .ok (.ireturn, 1) := by decide +kernel
theorem dX9_color_25 : decode cX9_color 25 = .ok (.aload_n 0, 1) := by decide +kernel
theorem dX9_color_26 : decode cX9_color 26 = .ok (.invokevirtual 201, 3) := by decide +kernel
theorem dX9_color_29 : decode cX9_color 29 = .ok (.aload_n 0, 1) := by decide +kernel
theorem dX9_color_30 : decode cX9_color 30 = .ok (.iload_n 1, 1) := by decide +kernel
theorem dX9_color_31 : decode cX9_color 31 = .ok (.invokevirtual 132, 3) := by decide +kernel
theorem dX9_color_34 : decode cX9_color 34 = .ok (.ireturn, 1) := by decide +kernel
theorem dX9_colorLater_0 : decode cX9_colorLater 0 = .ok (.aload_n 0, 1) := by decide +kernel
theorem dX9_colorLater_1 : decode cX9_colorLater 1 = .ok (.iload_n 1, 1) := by decide +kernel
theorem dX9_colorLater_2 : decode cX9_colorLater 2 = .ok (.invokestatic 223, 3) := by decide +kernel
theorem dX9_colorLater_5 : decode cX9_colorLater 5 = .ok (.ifCond .ne 7, 3) := by decide +kernel
theorem dX9_colorLater_8 : decode cX9_colorLater 8 = .ok (.iconst 1, 1) := by decide +kernel
theorem dX9_colorLater_9 : decode cX9_colorLater 9 = .ok (.goto 19, 3) := by decide +kernel
theorem dX9_colorLater_12 : decode cX9_colorLater 12 = .ok (.iload_n 2, 1) := by decide +kernel
theorem dX9_colorLater_13 : decode cX9_colorLater 13 = .ok (.iconst 0, 1) := by decide +kernel
theorem dX9_colorLater_14 : decode cX9_colorLater 14 = .ok (.sipush 1000, 3) := by decide +kernel
theorem dX9_colorLater_17 : decode cX9_colorLater 17 = .ok (.invokestatic 91, 3) := by decide +kernel
theorem dX9_colorLater_20 : decode cX9_colorLater 20 = .ok (.ifCond .eq 7, 3) := by decide +kernel
theorem dX9_colorLater_23 : decode cX9_colorLater 23 = .ok (.iconst 0, 1) := by decide +kernel
theorem dX9_colorLater_24 : decode cX9_colorLater 24 = .ok (.goto 4, 3) := by decide +kernel
theorem dX9_colorLater_27 : decode cX9_colorLater 27 = .ok (.iconst 2, 1) := by decide +kernel
theorem dX9_colorLater_28 : decode cX9_colorLater 28 = .ok (.putfield 87, 3) := by decide +kernel
theorem dX9_colorLater_31 : decode cX9_colorLater 31 = .ok (.aload_n 0, 1) := by decide +kernel
theorem dX9_colorLater_32 : decode cX9_colorLater 32 = .ok (.getfield 87, 3) := by decide +kernel
theorem dX9_colorLater_35 : decode cX9_colorLater 35 = .ok (.ifCond .le 5, 3) := by decide +kernel
theorem dX9_colorLater_38 : decode cX9_colorLater 38 = .ok (.iconst 0, 1) := by decide +kernel
theorem dX9_colorLater_39 : decode cX9_colorLater 39 = .ok (.ireturn, 1) := by decide +kernel
theorem dX9_colorLater_40 : decode cX9_colorLater 40 = .ok (.aload_n 0, 1) := by decide +kernel
theorem dX9_colorLater_41 : decode cX9_colorLater 41 = .ok (.aload_n 0, 1) := by decide +kernel
theorem dX9_colorLater_42 : decode cX9_colorLater 42 = .ok (.getfield 126, 3) := by decide +kernel
theorem dX9_colorLater_45 : decode cX9_colorLater 45 = .ok (.iload_n 2, 1) := by decide +kernel
theorem dX9_colorLater_46 : decode cX9_colorLater 46 = .ok (.iadd, 1) := by decide +kernel
theorem dX9_colorLater_47 : decode cX9_colorLater 47 = .ok (.invokevirtual 129, 3) := by decide +kernel
theorem dX9_colorLater_50 : decode cX9_colorLater 50 = .ok (.aload_n 0, 1) := by decide +kernel
theorem dX9_colorLater_51 : decode cX9_colorLater 51 = .ok (.iload_n 1, 1) := by decide +kernel
theorem dX9_colorLater_52 : decode cX9_colorLater 52 = .ok (.invokevirtual 132, 3) := by decide +kernel
theorem dX9_colorLater_55 : decode cX9_colorLater 55 = .ok (.ireturn, 1) := by decide +kernel
theorem dX9_top_0 : decode cX9_top 0 = .ok (.aload_n 0, 1) := by decide +kernel
theorem dX9_top_1 : decode cX9_top 1 = .ok (.iload_n 1, 1) := by decide +kernel
theorem dX9_top_2 : decode cX9_top 2 = .ok (.invokestatic 223, 3) := by decide +kernel
theorem dX9_top_5 : decode cX9_top 5 = .ok (.ifCond .eq 7, 3) := by decide +kernel
theorem dX9_top_8 : decode cX9_top 8 = .ok (.iconst 0, 1) := by decide +kernel
theorem dX9_top_9 : decode cX9_top 9 = .ok (.goto 4, 3) := by decide +kernel
theorem dX9_top_12 : decode cX9_top 12 = .ok (.iconst 1, 1) := by decide +kernel
theorem dX9_top_13 : decode cX9_top 13 = .ok (.putfield 87, 3) := by decide +kernel
theorem dX9_top_16 : decode cX9_top 16 = .ok (.aload_n 0, 1) := by decide +kernel
theorem dX9_top_17 : decode cX9_top 17 = .ok (.getfield 87, 3) := by decide +kernel
theorem dX9_top_20 : decode cX9_top 20 = .ok (.ifCond .le 5, 3) := by decide +kernel
theorem dX9_top_23 : decode cX9_top 23 = .ok (.iconst 0, 1) := by decide +kernel
theorem dX9_top_24 : decode cX9_top 24 = .ok (.ireturn, 1) := by decide +kernel
theorem dX9_top_25 : decode cX9_top 25 = .ok (.aload_n 0, 1) := by decide +kernel
theorem dX9_top_26 : decode cX9_top 26 = .ok (.invokevirtual 201, 3) := by decide +kernel
theorem dX9_top_29 : decode cX9_top 29 = .ok (.aload_n 0, 1) := by decide +kernel
theorem dX9_top_30 : decode cX9_top 30 = .ok (.getfield 72, 3) := by decide +kernel
theorem dX9_top_33 : decode cX9_top 33 = .ok (.iload_n 1, 1) := by decide +kernel
theorem dX9_top_34 : decode cX9_top 34 = .ok (.iaload, 1) := by decide +kernel
theorem dX9_top_35 : decode cX9_top 35 = .ok (.ireturn, 1) := by decide +kernel
theorem dX9_actives_0 : decode cX9_actives 0 = .ok (.iconst 0, 1) := by decide +kernel
theorem dX9_actives_1 : decode cX9_actives 1 = .ok (.istore_n 1, 1) := by decide +kernel
theorem dX9_actives_2 : decode cX9_actives 2 = .ok (.iconst 0, 1) := by decide +kernel
theorem dX9_actives_3 : decode cX9_actives 3 = .ok (.istore_n 2, 1) := by decide +kernel
theorem dX9_actives_4 : decode cX9_actives 4 = .ok (.iload_n 2, 1) := by decide +kernel
theorem dX9_actives_5 : decode cX9_actives 5 = .ok (.aload_n 0, 1) := by decide +kernel
theorem dX9_actives_6 : decode cX9_actives 6 = .ok (.getfield 95, 3) := by decide +kernel
theorem dX9_actives_9 : decode cX9_actives 9 = .ok (.if_icmp .ge 26, 3) := by decide +kernel
theorem dX9_actives_12 : decode cX9_actives 12 = .ok (.iload_n 1, 1) := by decide +kernel
theorem dX9_actives_13 : decode cX9_actives 13 = .ok (.aload_n 0, 1) := by decide +kernel
theorem dX9_actives_14 : decode cX9_actives 14 = .ok (.getfield 28, 3) := by decide +kernel
theorem dX9_actives_17 : decode cX9_actives 17 = .ok (.iload_n 2, 1) := by decide +kernel
theorem dX9_actives_18 : decode cX9_actives 18 = .ok (.baload, 1) := by decide +kernel
theorem dX9_actives_19 : decode cX9_actives 19 = .ok (.ifCond .eq 7, 3) := by decide +kernel
theorem dX9_actives_22 : decode cX9_actives 22 = .ok (.iconst 1, 1) := by decide +kernel
theorem dX9_actives_23 : decode cX9_actives 23 = .ok (.goto 4, 3) := by decide +kernel
theorem dX9_actives_26 : decode cX9_actives 26 = .ok (.iconst 0, 1) := by decide +kernel
theorem dX9_actives_27 : decode cX9_actives 27 = .ok (.iadd, 1) := by decide +kernel
theorem dX9_actives_28 : decode cX9_actives 28 = .ok (.istore_n 1, 1) := by decide +kernel
theorem dX9_actives_29 : decode cX9_actives 29 = .ok (.iinc 2 1, 3) := by decide +kernel
theorem dX9_actives_32 : decode cX9_actives 32 = .ok (.goto (-28), 3) := by decide +kernel
theorem dX9_actives_35 : decode cX9_actives 35 = .ok (.iload_n 1, 1) := by decide +kernel
theorem dX9_actives_36 : decode cX9_actives 36 = .ok (.ireturn, 1) := by decide +kernel
theorem dX9_colored_0 : decode cX9_colored 0 = .ok (.iconst 0, 1) := by decide +kernel
theorem dX9_colored_1 : decode cX9_colored 1 = .ok (.istore_n 1, 1) := by decide +kernel
theorem dX9_colored_2 : decode cX9_colored 2 = .ok (.iconst 0, 1) := by decide +kernel
theorem dX9_colored_3 : decode cX9_colored 3 = .ok (.istore_n 2, 1) := by decide +kernel
theorem dX9_colored_4 : decode cX9_colored 4 = .ok (.iload_n 2, 1) := by decide +kernel
theorem dX9_colored_5 : decode cX9_colored 5 = .ok (.sipush 256, 3) := by decide +kernel
theorem dX9_colored_8 : decode cX9_colored 8 = .ok (.if_icmp .ge 27, 3) := by decide +kernel
theorem dX9_colored_11 : decode cX9_colored 11 = .ok (.iload_n 1, 1) := by decide +kernel
theorem dX9_colored_12 : decode cX9_colored 12 = .ok (.aload_n 0, 1) := by decide +kernel
theorem dX9_colored_13 : decode cX9_colored 13 = .ok (.getfield 72, 3) := by decide +kernel
theorem dX9_colored_16 : decode cX9_colored 16 = .ok (.iload_n 2, 1) := by decide +kernel
theorem dX9_colored_17 : decode cX9_colored 17 = .ok (.iaload, 1) := by decide +kernel
theorem dX9_colored_18 : decode cX9_colored 18 = .ok (.iconst (-1), 1) := by decide +kernel
theorem dX9_colored_19 : decode cX9_colored 19 = .ok (.if_icmp .ne 7, 3) := by decide +kernel
theorem dX9_colored_22 : decode cX9_colored 22 = .ok (.iconst 0, 1) := by decide +kernel
theorem dX9_colored_23 : decode cX9_colored 23 = .ok (.goto 4, 3) := by decide +kernel
theorem dX9_colored_26 : decode cX9_colored 26 = .ok (.iconst 1, 1) := by decide +kernel
theorem dX9_colored_27 : decode cX9_colored 27 = .ok (.iadd, 1) := by decide +kernel
theorem dX9_colored_28 : decode cX9_colored 28 = .ok (.istore_n 1, 1) := by decide +kernel
theorem dX9_colored_29 : decode cX9_colored 29 = .ok (.iinc 2 1, 3) := by decide +kernel
theorem dX9_colored_32 : decode cX9_colored 32 = .ok (.goto (-28), 3) := by decide +kernel
theorem dX9_colored_35 : decode cX9_colored 35 = .ok (.iload_n 1, 1) := by decide +kernel
theorem dX9_colored_36 : decode cX9_colored 36 = .ok (.ireturn, 1) := by decide +kernel
theorem dX9_colors_0 : decode cX9_colors 0 = .ok (.iconst 0, 1) := by decide +kernel
theorem dX9_colors_1 : decode cX9_colors 1 = .ok (.istore_n 1, 1) := by decide +kernel
theorem dX9_colors_2 : decode cX9_colors 2 = .ok (.iconst 0, 1) := by decide +kernel
theorem dX9_colors_3 : decode cX9_colors 3 = .ok (.istore_n 2, 1) := by decide +kernel
theorem dX9_colors_4 : decode cX9_colors 4 = .ok (.iload_n 2, 1) := by decide +kernel
theorem dX9_colors_5 : decode cX9_colors 5 = .ok (.sipush 256, 3) := by decide +kernel
theorem dX9_colors_8 : decode cX9_colors 8 = .ok (.if_icmp .ge 33, 3) := by decide +kernel
theorem dX9_colors_11 : decode cX9_colors 11 = .ok (.iload_n 1, 1) := by decide +kernel
theorem dX9_colors_12 : decode cX9_colors 12 = .ok (.aload_n 0, 1) := by decide +kernel
theorem dX9_colors_13 : decode cX9_colors 13 = .ok (.getfield 72, 3) := by decide +kernel
theorem dX9_colors_16 : decode cX9_colors 16 = .ok (.iload_n 2, 1) := by decide +kernel
theorem dX9_colors_17 : decode cX9_colors 17 = .ok (.iaload, 1) := by decide +kernel
theorem dX9_colors_18 : decode cX9_colors 18 = .ok (.iconst (-1), 1) := by decide +kernel
theorem dX9_colors_19 : decode cX9_colors 19 = .ok (.if_icmp .ne 7, 3) := by decide +kernel
theorem dX9_colors_22 : decode cX9_colors 22 = .ok (.iconst 0, 1) := by decide +kernel
theorem dX9_colors_23 : decode cX9_colors 23 = .ok (.goto 10, 3) := by decide +kernel
theorem dX9_colors_26 : decode cX9_colors 26 = .ok (.iconst 1, 1) := by decide +kernel
theorem dX9_colors_27 : decode cX9_colors 27 = .ok (.aload_n 0, 1) := by decide +kernel
theorem dX9_colors_28 : decode cX9_colors 28 = .ok (.iload_n 2, 1) := by decide +kernel
theorem dX9_colors_29 : decode cX9_colors 29 = .ok (.invokevirtual 132, 3) := by decide +kernel
theorem dX9_colors_32 : decode cX9_colors 32 = .ok (.ishl, 1) := by decide +kernel
theorem dX9_colors_33 : decode cX9_colors 33 = .ok (.ior, 1) := by decide +kernel
theorem dX9_colors_34 : decode cX9_colors 34 = .ok (.istore_n 1, 1) := by decide +kernel
theorem dX9_colors_35 : decode cX9_colors 35 = .ok (.iinc 2 1, 3) := by decide +kernel
theorem dX9_colors_38 : decode cX9_colors 38 = .ok (.goto (-34), 3) := by decide +kernel
theorem dX9_colors_41 : decode cX9_colors 41 = .ok (.iload_n 1, 1) := by decide +kernel
theorem dX9_colors_42 : decode cX9_colors 42 = .ok (.i2l, 1) := by decide +kernel
theorem dX9_colors_43 : decode cX9_colors 43 = .ok (.invokestatic 98, 3) := by decide +kernel
theorem dX9_colors_46 : decode cX9_colors 46 = .ok (.ireturn, 1) := by decide +kernel
theorem dX9_held_0 : decode cX9_held 0 = .ok (.iconst 0, 1) := by decide +kernel
theorem dX9_held_1 : decode cX9_held 1 = .ok (.istore_n 1, 1) := by decide +kernel
theorem dX9_held_2 : decode cX9_held 2 = .ok (.iconst 0, 1) := by decide +kernel
theorem dX9_held_3 : decode cX9_held 3 = .ok (.istore_n 2, 1) := by decide +kernel
theorem dX9_held_4 : decode cX9_held 4 = .ok (.iload_n 2, 1) := by decide +kernel
theorem dX9_held_5 : decode cX9_held 5 = .ok (.sipush 256, 3) := by decide +kernel
theorem dX9_held_8 : decode cX9_held 8 = .ok (.if_icmp .ge 26, 3) := by decide +kernel
theorem dX9_held_11 : decode cX9_held 11 = .ok (.iload_n 1, 1) := by decide +kernel
theorem dX9_held_12 : decode cX9_held 12 = .ok (.aload_n 0, 1) := by decide +kernel
theorem dX9_held_13 : decode cX9_held 13 = .ok (.iload_n 2, 1) := by decide +kernel
theorem dX9_held_14 : decode cX9_held 14 = .ok (.invokevirtual 241, 3) := by decide +kernel
theorem dX9_held_17 : decode cX9_held 17 = .ok (.iconst (-1), 1) := by decide +kernel
theorem dX9_held_18 : decode cX9_held 18 = .ok (.if_icmp .ne 7, 3) := by decide +kernel
theorem dX9_held_21 : decode cX9_held 21 = .ok (.iconst 0, 1) := by decide +kernel
theorem dX9_held_22 : decode cX9_held 22 = .ok (.goto 4, 3) := by decide +kernel
theorem dX9_held_25 : decode cX9_held 25 = .ok (.iconst 1, 1) := by decide +kernel
theorem dX9_held_26 : decode cX9_held 26 = .ok (.iadd, 1) := by decide +kernel
theorem dX9_held_27 : decode cX9_held 27 = .ok (.istore_n 1, 1) := by decide +kernel
theorem dX9_held_28 : decode cX9_held 28 = .ok (.iinc 2 1, 3) := by decide +kernel
theorem dX9_held_31 : decode cX9_held 31 = .ok (.goto (-27), 3) := by decide +kernel
theorem dX9_held_34 : decode cX9_held 34 = .ok (.iload_n 1, 1) := by decide +kernel
theorem dX9_held_35 : decode cX9_held 35 = .ok (.ireturn, 1) := by decide +kernel
theorem dX9_marks_0 : decode cX9_marks 0 = .ok (.iconst 0, 1) := by decide +kernel
theorem dX9_marks_1 : decode cX9_marks 1 = .ok (.istore_n 1, 1) := by decide +kernel
theorem dX9_marks_2 : decode cX9_marks 2 = .ok (.iconst 0, 1) := by decide +kernel
theorem dX9_marks_3 : decode cX9_marks 3 = .ok (.istore_n 2, 1) := by decide +kernel
theorem dX9_marks_4 : decode cX9_marks 4 = .ok (.iload_n 2, 1) := by decide +kernel
theorem dX9_marks_5 : decode cX9_marks 5 = .ok (.bipush 6, 2) := by decide +kernel
theorem dX9_marks_7 : decode cX9_marks 7 = .ok (.if_icmp .ge 26, 3) := by decide +kernel
theorem dX9_marks_10 : decode cX9_marks 10 = .ok (.iload_n 1, 1) := by decide +kernel
theorem dX9_marks_11 : decode cX9_marks 11 = .ok (.aload_n 0, 1) := by decide +kernel
theorem dX9_marks_12 : decode cX9_marks 12 = .ok (.getfield 60, 3) := by decide +kernel
theorem dX9_marks_15 : decode cX9_marks 15 = .ok (.iload_n 2, 1) := by decide +kernel
theorem dX9_marks_16 : decode cX9_marks 16 = .ok (.baload, 1) := by decide +kernel
theorem dX9_marks_17 : decode cX9_marks 17 = .ok (.ifCond .eq 7, 3) := by decide +kernel
theorem dX9_marks_20 : decode cX9_marks 20 = .ok (.iconst 1, 1) := by decide +kernel
theorem dX9_marks_21 : decode cX9_marks 21 = .ok (.goto 4, 3) := by decide +kernel
theorem dX9_marks_24 : decode cX9_marks 24 = .ok (.iconst 0, 1) := by decide +kernel
theorem dX9_marks_25 : decode cX9_marks 25 = .ok (.iadd, 1) := by decide +kernel
theorem dX9_marks_26 : decode cX9_marks 26 = .ok (.istore_n 1, 1) := by decide +kernel
theorem dX9_marks_27 : decode cX9_marks 27 = .ok (.iinc 2 1, 3) := by decide +kernel
theorem dX9_marks_30 : decode cX9_marks 30 = .ok (.goto (-26), 3) := by decide +kernel
theorem dX9_marks_33 : decode cX9_marks 33 = .ok (.iload_n 1, 1) := by decide +kernel
theorem dX9_marks_34 : decode cX9_marks 34 = .ok (.ireturn, 1) := by decide +kernel
theorem dX9_onTop_0 : decode cX9_onTop 0 = .ok (.iconst 0, 1) := by decide +kernel
theorem dX9_onTop_1 : decode cX9_onTop 1 = .ok (.istore_n 2, 1) := by decide +kernel
theorem dX9_onTop_2 : decode cX9_onTop 2 = .ok (.iconst 0, 1) := by decide +kernel
theorem dX9_onTop_3 : decode cX9_onTop 3 = .ok (.istore_n 3, 1) := by decide +kernel
theorem dX9_onTop_4 : decode cX9_onTop 4 = .ok (.iload_n 3, 1) := by decide +kernel
theorem dX9_onTop_5 : decode cX9_onTop 5 = .ok (.sipush 256, 3) := by decide +kernel
theorem dX9_onTop_8 : decode cX9_onTop 8 = .ok (.if_icmp .ge 27, 3) := by decide +kernel
theorem dX9_onTop_11 : decode cX9_onTop 11 = .ok (.iload_n 2, 1) := by decide +kernel
theorem dX9_onTop_12 : decode cX9_onTop 12 = .ok (.aload_n 0, 1) := by decide +kernel
theorem dX9_onTop_13 : decode cX9_onTop 13 = .ok (.getfield 72, 3) := by decide +kernel
theorem dX9_onTop_16 : decode cX9_onTop 16 = .ok (.iload_n 3, 1) := by decide +kernel
theorem dX9_onTop_17 : decode cX9_onTop 17 = .ok (.iaload, 1) := by decide +kernel
theorem dX9_onTop_18 : decode cX9_onTop 18 = .ok (.iload_n 1, 1) := by decide +kernel
theorem dX9_onTop_19 : decode cX9_onTop 19 = .ok (.if_icmp .ne 7, 3) := by decide +kernel
theorem dX9_onTop_22 : decode cX9_onTop 22 = .ok (.iconst 1, 1) := by decide +kernel
theorem dX9_onTop_23 : decode cX9_onTop 23 = .ok (.goto 4, 3) := by decide +kernel
theorem dX9_onTop_26 : decode cX9_onTop 26 = .ok (.iconst 0, 1) := by decide +kernel
theorem dX9_onTop_27 : decode cX9_onTop 27 = .ok (.iadd, 1) := by decide +kernel
theorem dX9_onTop_28 : decode cX9_onTop 28 = .ok (.istore_n 2, 1) := by decide +kernel
theorem dX9_onTop_29 : decode cX9_onTop 29 = .ok (.iinc 3 1, 3) := by decide +kernel
theorem dX9_onTop_32 : decode cX9_onTop 32 = .ok (.goto (-28), 3) := by decide +kernel
theorem dX9_onTop_35 : decode cX9_onTop 35 = .ok (.iload_n 2, 1) := by decide +kernel
theorem dX9_onTop_36 : decode cX9_onTop 36 = .ok (.ireturn, 1) := by decide +kernel
theorem dX9_covered_0 : decode cX9_covered 0 = .ok (.iconst 0, 1) := by decide +kernel
theorem dX9_covered_1 : decode cX9_covered 1 = .ok (.istore_n 1, 1) := by decide +kernel
theorem dX9_covered_2 : decode cX9_covered 2 = .ok (.iconst 0, 1) := by decide +kernel
theorem dX9_covered_3 : decode cX9_covered 3 = .ok (.istore_n 2, 1) := by decide +kernel
theorem dX9_covered_4 : decode cX9_covered 4 = .ok (.iload_n 2, 1) := by decide +kernel
theorem dX9_covered_5 : decode cX9_covered 5 = .ok (.aload_n 0, 1) := by decide +kernel
theorem dX9_covered_6 : decode cX9_covered 6 = .ok (.getfield 95, 3) := by decide +kernel
theorem dX9_covered_9 : decode cX9_covered 9 = .ok (.if_icmp .ge 48, 3) := by decide +kernel
theorem dX9_covered_12 : decode cX9_covered 12 = .ok (.iload_n 1, 1) := by decide +kernel
theorem dX9_covered_13 : decode cX9_covered 13 = .ok (.aload_n 0, 1) := by decide +kernel
theorem dX9_covered_14 : decode cX9_covered 14 = .ok (.iload_n 2, 1) := by decide +kernel
theorem dX9_covered_15 : decode cX9_covered 15 = .ok (.aload_n 0, 1) := by decide +kernel
theorem dX9_covered_16 : decode cX9_covered 16 = .ok (.getfield 126, 3) := by decide +kernel
theorem dX9_covered_19 : decode cX9_covered 19 = .ok (.invokevirtual 112, 3) := by decide +kernel
theorem dX9_covered_22 : decode cX9_covered 22 = .ok (.ifCond .ne 26, 3) := by decide +kernel
theorem dX9_covered_25 : decode cX9_covered 25 = .ok (.aload_n 0, 1) := by decide +kernel
theorem dX9_covered_26 : decode cX9_covered 26 = .ok (.getfield 66, 3) := by decide +kernel
theorem dX9_covered_29 : decode cX9_covered 29 = .ok (.iload_n 2, 1) := by decide +kernel
theorem dX9_covered_30 : decode cX9_covered 30 = .ok (.invokestatic 173, 3) := by decide +kernel
theorem dX9_covered_33 : decode cX9_covered 33 = .ok (.ifCond .le 15, 3) := by decide +kernel
theorem dX9_covered_36 : decode cX9_covered 36 = .ok (.aload_n 0, 1) := by decide +kernel
theorem dX9_covered_37 : decode cX9_covered 37 = .ok (.iload_n 2, 1) := by decide +kernel
theorem dX9_covered_38 : decode cX9_covered 38 = .ok (.invokevirtual 256, 3) := by decide +kernel
theorem dX9_covered_41 : decode cX9_covered 41 = .ok (.ifCond .ne 7, 3) := by decide +kernel
theorem dX9_covered_44 : decode cX9_covered 44 = .ok (.iconst 1, 1) := by decide +kernel
theorem dX9_covered_45 : decode cX9_covered 45 = .ok (.goto 4, 3) := by decide +kernel
theorem dX9_covered_48 : decode cX9_covered 48 = .ok (.iconst 0, 1) := by decide +kernel
theorem dX9_covered_49 : decode cX9_covered 49 = .ok (.iadd, 1) := by decide +kernel
theorem dX9_covered_50 : decode cX9_covered 50 = .ok (.istore_n 1, 1) := by decide +kernel
theorem dX9_covered_51 : decode cX9_covered 51 = .ok (.iinc 2 1, 3) := by decide +kernel
theorem dX9_covered_54 : decode cX9_covered 54 = .ok (.goto (-50), 3) := by decide +kernel
theorem dX9_covered_57 : decode cX9_covered 57 = .ok (.iload_n 1, 1) := by decide +kernel
theorem dX9_covered_58 : decode cX9_covered 58 = .ok (.ireturn, 1) := by decide +kernel
theorem dX9_meetRegion_0 : decode cX9_meetRegion 0 = .ok (.iconst 0, 1) := by decide +kernel
theorem dX9_meetRegion_1 : decode cX9_meetRegion 1 = .ok (.istore_n 1, 1) := by decide +kernel
theorem dX9_meetRegion_2 : decode cX9_meetRegion 2 = .ok (.iload_n 1, 1) := by decide +kernel
theorem dX9_meetRegion_3 : decode cX9_meetRegion 3 = .ok (.sipush 256, 3) := by decide +kernel
theorem dX9_meetRegion_6 : decode cX9_meetRegion 6 = .ok (.if_icmp .ge 37, 3) := by decide +kernel
theorem dX9_meetRegion_9 : decode cX9_meetRegion 9 = .ok (.aload_n 0, 1) := by decide +kernel
theorem dX9_meetRegion_10 : decode cX9_meetRegion 10 = .ok (.getfield 84, 3) := by decide +kernel
theorem dX9_meetRegion_13 : decode cX9_meetRegion 13 = .ok (.iload_n 1, 1) := by decide +kernel
theorem dX9_meetRegion_14 : decode cX9_meetRegion 14 = .ok (.aload_n 0, 1) := by decide +kernel
theorem dX9_meetRegion_15 : decode cX9_meetRegion 15 = .ok (.getfield 84, 3) := by decide +kernel
theorem dX9_meetRegion_18 : decode cX9_meetRegion 18 = .ok (.iload_n 1, 1) := by decide +kernel
theorem dX9_meetRegion_19 : decode cX9_meetRegion 19 = .ok (.baload, 1) := by decide +kernel
theorem dX9_meetRegion_20 : decode cX9_meetRegion 20 = .ok (.ifCond .ne 11, 3) := by decide +kernel
theorem dX9_meetRegion_23 : decode cX9_meetRegion 23 = .ok (.aload_n 0, 1) := by decide +kernel
theorem dX9_meetRegion_24 : decode cX9_meetRegion 24 = .ok (.iload_n 1, 1) := by decide +kernel
theorem dX9_meetRegion_25 : decode cX9_meetRegion 25 = .ok (.invokevirtual 210, 3) := by decide +kernel
theorem dX9_meetRegion_28 : decode cX9_meetRegion 28 = .ok (.ifCond .eq 7, 3) := by decide +kernel
theorem dX9_meetRegion_31 : decode cX9_meetRegion 31 = .ok (.iconst 1, 1) := by decide +kernel
theorem dX9_meetRegion_32 : decode cX9_meetRegion 32 = .ok (.goto 4, 3) := by decide +kernel
theorem dX9_meetRegion_35 : decode cX9_meetRegion 35 = .ok (.iconst 0, 1) := by decide +kernel
theorem dX9_meetRegion_36 : decode cX9_meetRegion 36 = .ok (.bastore, 1) := by decide +kernel
theorem dX9_meetRegion_37 : decode cX9_meetRegion 37 = .ok (.iinc 1 1, 3) := by decide +kernel
theorem dX9_meetRegion_40 : decode cX9_meetRegion 40 = .ok (.goto (-38), 3) := by decide +kernel
theorem dX9_meetRegion_43 : decode cX9_meetRegion 43 = .ok (.return_, 1) := by decide +kernel
theorem dX9_parts_0 : decode cX9_parts 0 = .ok (.iconst 0, 1) := by decide +kernel
theorem dX9_parts_1 : decode cX9_parts 1 = .ok (.istore_n 2, 1) := by decide +kernel
theorem dX9_parts_2 : decode cX9_parts 2 = .ok (.iconst 0, 1) := by decide +kernel
theorem dX9_parts_3 : decode cX9_parts 3 = .ok (.istore_n 3, 1) := by decide +kernel
theorem dX9_parts_4 : decode cX9_parts 4 = .ok (.iload_n 3, 1) := by decide +kernel
theorem dX9_parts_5 : decode cX9_parts 5 = .ok (.sipush 256, 3) := by decide +kernel
theorem dX9_parts_8 : decode cX9_parts 8 = .ok (.if_icmp .ge 37, 3) := by decide +kernel
theorem dX9_parts_11 : decode cX9_parts 11 = .ok (.aload_n 0, 1) := by decide +kernel
theorem dX9_parts_12 : decode cX9_parts 12 = .ok (.getfield 84, 3) := by decide +kernel
theorem dX9_parts_15 : decode cX9_parts 15 = .ok (.iload_n 3, 1) := by decide +kernel
theorem dX9_parts_16 : decode cX9_parts 16 = .ok (.iload_n 1, 1) := by decide +kernel
theorem dX9_parts_17 : decode cX9_parts 17 = .ok (.iconst (-1), 1) := by decide +kernel
theorem dX9_parts_18 : decode cX9_parts 18 = .ok (.if_icmp .eq 19, 3) := by decide +kernel
theorem dX9_parts_21 : decode cX9_parts 21 = .ok (.aload_n 0, 1) := by decide +kernel
theorem dX9_parts_22 : decode cX9_parts 22 = .ok (.getfield 66, 3) := by decide +kernel
theorem dX9_parts_25 : decode cX9_parts 25 = .ok (.iload_n 1, 1) := by decide +kernel
theorem dX9_parts_26 : decode cX9_parts 26 = .ok (.iload_n 3, 1) := by decide +kernel
theorem dX9_parts_27 : decode cX9_parts 27 = .ok (.invokestatic 115, 3) := by decide +kernel
theorem dX9_parts_30 : decode cX9_parts 30 = .ok (.ifCond .ne 7, 3) := by decide +kernel
theorem dX9_parts_33 : decode cX9_parts 33 = .ok (.iconst 1, 1) := by decide +kernel
theorem dX9_parts_34 : decode cX9_parts 34 = .ok (.goto 4, 3) := by decide +kernel
theorem dX9_parts_37 : decode cX9_parts 37 = .ok (.iconst 0, 1) := by decide +kernel
theorem dX9_parts_38 : decode cX9_parts 38 = .ok (.bastore, 1) := by decide +kernel
theorem dX9_parts_39 : decode cX9_parts 39 = .ok (.iinc 3 1, 3) := by decide +kernel
theorem dX9_parts_42 : decode cX9_parts 42 = .ok (.goto (-38), 3) := by decide +kernel
theorem dX9_parts_45 : decode cX9_parts 45 = .ok (.iconst 0, 1) := by decide +kernel
theorem dX9_parts_46 : decode cX9_parts 46 = .ok (.istore_n 3, 1) := by decide +kernel
theorem dX9_parts_47 : decode cX9_parts 47 = .ok (.iload_n 3, 1) := by decide +kernel
theorem dX9_parts_48 : decode cX9_parts 48 = .ok (.sipush 256, 3) := by decide +kernel
theorem dX9_parts_51 : decode cX9_parts 51 = .ok (.if_icmp .ge 31, 3) := by decide +kernel
theorem dX9_parts_54 : decode cX9_parts 54 = .ok (.aload_n 0, 1) := by decide +kernel
theorem dX9_parts_55 : decode cX9_parts 55 = .ok (.getfield 84, 3) := by decide +kernel
theorem dX9_parts_58 : decode cX9_parts 58 = .ok (.iload_n 3, 1) := by decide +kernel
theorem dX9_parts_59 : decode cX9_parts 59 = .ok (.baload, 1) := by decide +kernel
theorem dX9_parts_60 : decode cX9_parts 60 = .ok (.ifCond .ne 16, 3) := by decide +kernel
theorem dX9_parts_63 : decode cX9_parts 63 = .ok (.aload_n 0, 1) := by decide +kernel
theorem dX9_parts_64 : decode cX9_parts 64 = .ok (.iload_n 3, 1) := by decide +kernel
theorem dX9_parts_65 : decode cX9_parts 65 = .ok (.iload_n 1, 1) := by decide +kernel
theorem dX9_parts_66 : decode cX9_parts 66 = .ok (.invokevirtual 226, 3) := by decide +kernel
theorem dX9_parts_69 : decode cX9_parts 69 = .ok (.aload_n 0, 1) := by decide +kernel
theorem dX9_parts_70 : decode cX9_parts 70 = .ok (.invokevirtual 259, 3) := by decide +kernel
theorem dX9_parts_73 : decode cX9_parts 73 = .ok (.iinc 2 1, 3) := by decide +kernel
theorem dX9_parts_76 : decode cX9_parts 76 = .ok (.iinc 3 1, 3) := by decide +kernel
theorem dX9_parts_79 : decode cX9_parts 79 = .ok (.goto (-32), 3) := by decide +kernel
theorem dX9_parts_82 : decode cX9_parts 82 = .ok (.iload_n 2, 1) := by decide +kernel
theorem dX9_parts_83 : decode cX9_parts 83 = .ok (.ireturn, 1) := by decide +kernel
theorem dX9_counted_0 : decode cX9_counted 0 = .ok (.iload_n 1, 1) := by decide +kernel
theorem dX9_counted_1 : decode cX9_counted 1 = .ok (.tableswitch 96 0 8 #[51, 56, 61, 66, 71, 76, 81, 86, 91], 51) := by decide +kernel
theorem dX9_counted_52 : decode cX9_counted 52 = .ok (.aload_n 0, 1) := by decide +kernel
theorem dX9_counted_53 : decode cX9_counted 53 = .ok (.getfield 126, 3) := by decide +kernel
theorem dX9_counted_56 : decode cX9_counted 56 = .ok (.ireturn, 1) := by decide +kernel
theorem dX9_counted_57 : decode cX9_counted 57 = .ok (.aload_n 0, 1) := by decide +kernel
theorem dX9_counted_58 : decode cX9_counted 58 = .ok (.getfield 95, 3) := by decide +kernel
theorem dX9_counted_61 : decode cX9_counted 61 = .ok (.ireturn, 1) := by decide +kernel
theorem dX9_counted_62 : decode cX9_counted 62 = .ok (.aload_n 0, 1) := by decide +kernel
theorem dX9_counted_63 : decode cX9_counted 63 = .ok (.invokevirtual 262, 3) := by decide +kernel
theorem dX9_counted_66 : decode cX9_counted 66 = .ok (.ireturn, 1) := by decide +kernel
theorem dX9_counted_67 : decode cX9_counted 67 = .ok (.aload_n 0, 1) := by decide +kernel
theorem dX9_counted_68 : decode cX9_counted 68 = .ok (.invokevirtual 265, 3) := by decide +kernel
theorem dX9_counted_71 : decode cX9_counted 71 = .ok (.ireturn, 1) := by decide +kernel
theorem dX9_counted_72 : decode cX9_counted 72 = .ok (.aload_n 0, 1) := by decide +kernel
theorem dX9_counted_73 : decode cX9_counted 73 = .ok (.invokevirtual 268, 3) := by decide +kernel
theorem dX9_counted_76 : decode cX9_counted 76 = .ok (.ireturn, 1) := by decide +kernel
theorem dX9_counted_77 : decode cX9_counted 77 = .ok (.aload_n 0, 1) := by decide +kernel
theorem dX9_counted_78 : decode cX9_counted 78 = .ok (.getfield 136, 3) := by decide +kernel
theorem dX9_counted_81 : decode cX9_counted 81 = .ok (.ireturn, 1) := by decide +kernel
theorem dX9_counted_82 : decode cX9_counted 82 = .ok (.aload_n 0, 1) := by decide +kernel
theorem dX9_counted_83 : decode cX9_counted 83 = .ok (.invokevirtual 271, 3) := by decide +kernel
theorem dX9_counted_86 : decode cX9_counted 86 = .ok (.ireturn, 1) := by decide +kernel
theorem dX9_counted_87 : decode cX9_counted 87 = .ok (.aload_n 0, 1) := by decide +kernel
theorem dX9_counted_88 : decode cX9_counted 88 = .ok (.invokevirtual 274, 3) := by decide +kernel
theorem dX9_counted_91 : decode cX9_counted 91 = .ok (.ireturn, 1) := by decide +kernel
theorem dX9_counted_92 : decode cX9_counted 92 = .ok (.aload_n 0, 1) := by decide +kernel
theorem dX9_counted_93 : decode cX9_counted 93 = .ok (.invokevirtual 277, 3) := by decide +kernel
theorem dX9_counted_96 : decode cX9_counted 96 = .ok (.ireturn, 1) := by decide +kernel
theorem dX9_counted_97 : decode cX9_counted 97 = .ok (.aload_n 0, 1) := by decide +kernel
theorem dX9_counted_98 : decode cX9_counted 98 = .ok (.iconst (-1), 1) := by decide +kernel
theorem dX9_counted_99 : decode cX9_counted 99 = .ok (.invokevirtual 280, 3) := by decide +kernel
theorem dX9_counted_102 : decode cX9_counted 102 = .ok (.ireturn, 1) := by decide +kernel
theorem dX9_count_0 : decode cX9_count 0 = .ok (.aload_n 0, 1) := by decide +kernel
theorem dX9_count_1 : decode cX9_count 1 = .ok (.iload_n 1, 1) := by decide +kernel
theorem dX9_count_2 : decode cX9_count 2 = .ok (.iconst 0, 1) := by decide +kernel
theorem dX9_count_3 : decode cX9_count 3 = .ok (.bipush 9, 2) := by decide +kernel
theorem dX9_count_5 : decode cX9_count 5 = .ok (.invokestatic 91, 3) := by decide +kernel
theorem dX9_count_8 : decode cX9_count 8 = .ok (.ifCond .eq 7, 3) := by decide +kernel
theorem dX9_count_11 : decode cX9_count 11 = .ok (.iconst 0, 1) := by decide +kernel
theorem dX9_count_12 : decode cX9_count 12 = .ok (.goto 4, 3) := by decide +kernel
theorem dX9_count_15 : decode cX9_count 15 = .ok (.iconst 1, 1) := by decide +kernel
theorem dX9_count_16 : decode cX9_count 16 = .ok (.putfield 87, 3) := by decide +kernel
theorem dX9_count_19 : decode cX9_count 19 = .ok (.aload_n 0, 1) := by decide +kernel
theorem dX9_count_20 : decode cX9_count 20 = .ok (.getfield 87, 3) := by decide +kernel
theorem dX9_count_23 : decode cX9_count 23 = .ok (.ifCond .le 5, 3) := by decide +kernel
theorem dX9_count_26 : decode cX9_count 26 = .ok (.iconst 0, 1) := by decide +kernel
theorem dX9_count_27 : decode cX9_count 27 = .ok (.ireturn, 1) := by decide +kernel
theorem dX9_count_28 : decode cX9_count 28 = .ok (.aload_n 0, 1) := by decide +kernel
theorem dX9_count_29 : decode cX9_count 29 = .ok (.invokevirtual 201, 3) := by decide +kernel
theorem dX9_count_32 : decode cX9_count 32 = .ok (.aload_n 0, 1) := by decide +kernel
theorem dX9_count_33 : decode cX9_count 33 = .ok (.iload_n 1, 1) := by decide +kernel
theorem dX9_count_34 : decode cX9_count 34 = .ok (.invokevirtual 283, 3) := by decide +kernel
theorem dX9_count_37 : decode cX9_count 37 = .ok (.ireturn, 1) := by decide +kernel
theorem dX9_strength_0 : decode cX9_strength 0 = .ok (.aload_n 0, 1) := by decide +kernel
theorem dX9_strength_1 : decode cX9_strength 1 = .ok (.getfield 7, 3) := by decide +kernel
theorem dX9_strength_4 : decode cX9_strength 4 = .ok (.iload_n 1, 1) := by decide +kernel
theorem dX9_strength_5 : decode cX9_strength 5 = .ok (.iaload, 1) := by decide +kernel
theorem dX9_strength_6 : decode cX9_strength 6 = .ok (.iconst 2, 1) := by decide +kernel
theorem dX9_strength_7 : decode cX9_strength 7 = .ok (.if_icmp .eq 15, 3) := by decide +kernel
theorem dX9_strength_10 : decode cX9_strength 10 = .ok (.aload_n 0, 1) := by decide +kernel
theorem dX9_strength_11 : decode cX9_strength 11 = .ok (.iload_n 1, 1) := by decide +kernel
theorem dX9_strength_12 : decode cX9_strength 12 = .ok (.aload_n 0, 1) := by decide +kernel
theorem dX9_strength_13 : decode cX9_strength 13 = .ok (.getfield 126, 3) := by decide +kernel
theorem dX9_strength_16 : decode cX9_strength 16 = .ok (.invokevirtual 112, 3) := by decide +kernel
theorem dX9_strength_19 : decode cX9_strength 19 = .ok (.ifCond .eq 5, 3) := by decide +kernel
theorem dX9_strength_22 : decode cX9_strength 22 = .ok (.iconst 0, 1) := by decide +kernel
theorem dX9_strength_23 : decode cX9_strength 23 = .ok (.ireturn, 1) := by decide +kernel
theorem dX9_strength_24 : decode cX9_strength 24 = .ok (.aload_n 0, 1) := by decide +kernel
theorem dX9_strength_25 : decode cX9_strength 25 = .ok (.getfield 22, 3) := by decide +kernel
theorem dX9_strength_28 : decode cX9_strength 28 = .ok (.iload_n 1, 1) := by decide +kernel
theorem dX9_strength_29 : decode cX9_strength 29 = .ok (.iaload, 1) := by decide +kernel
theorem dX9_strength_30 : decode cX9_strength 30 = .ok (.ifCond .ne 8, 3) := by decide +kernel
theorem dX9_strength_33 : decode cX9_strength 33 = .ok (.bipush 100, 2) := by decide +kernel
theorem dX9_strength_35 : decode cX9_strength 35 = .ok (.goto 31, 3) := by decide +kernel
theorem dX9_strength_38 : decode cX9_strength 38 = .ok (.bipush 100, 2) := by decide +kernel
theorem dX9_strength_40 : decode cX9_strength 40 = .ok (.aload_n 0, 1) := by decide +kernel
theorem dX9_strength_41 : decode cX9_strength 41 = .ok (.getfield 25, 3) := by decide +kernel
theorem dX9_strength_44 : decode cX9_strength 44 = .ok (.iload_n 1, 1) := by decide +kernel
theorem dX9_strength_45 : decode cX9_strength 45 = .ok (.iaload, 1) := by decide +kernel
theorem dX9_strength_46 : decode cX9_strength 46 = .ok (.aload_n 0, 1) := by decide +kernel
theorem dX9_strength_47 : decode cX9_strength 47 = .ok (.getfield 22, 3) := by decide +kernel
theorem dX9_strength_50 : decode cX9_strength 50 = .ok (.iload_n 1, 1) := by decide +kernel
theorem dX9_strength_51 : decode cX9_strength 51 = .ok (.iaload, 1) := by decide +kernel
theorem dX9_strength_52 : decode cX9_strength 52 = .ok (.iadd, 1) := by decide +kernel
theorem dX9_strength_53 : decode cX9_strength 53 = .ok (.aload_n 0, 1) := by decide +kernel
theorem dX9_strength_54 : decode cX9_strength 54 = .ok (.getfield 126, 3) := by decide +kernel
theorem dX9_strength_57 : decode cX9_strength 57 = .ok (.isub, 1) := by decide +kernel
theorem dX9_strength_58 : decode cX9_strength 58 = .ok (.imul, 1) := by decide +kernel
theorem dX9_strength_59 : decode cX9_strength 59 = .ok (.aload_n 0, 1) := by decide +kernel
theorem dX9_strength_60 : decode cX9_strength 60 = .ok (.getfield 22, 3) := by decide +kernel
theorem dX9_strength_63 : decode cX9_strength 63 = .ok (.iload_n 1, 1) := by decide +kernel
theorem dX9_strength_64 : decode cX9_strength 64 = .ok (.iaload, 1) := by decide +kernel
theorem dX9_strength_65 : decode cX9_strength 65 = .ok (.idiv, 1) := by decide +kernel
theorem dX9_strength_66 : decode cX9_strength 66 = .ok (.ireturn, 1) := by decide +kernel
theorem dX9_told_0 : decode cX9_told 0 = .ok (.iload_n 2, 1) := by decide +kernel
theorem dX9_told_1 : decode cX9_told 1 = .ok (.tableswitch 135 0 9 #[55, 62, 69, 76, 83, 90, 105, 114, 123, 129], 55) := by decide +kernel
theorem dX9_told_56 : decode cX9_told 56 = .ok (.aload_n 0, 1) := by decide +kernel
theorem dX9_told_57 : decode cX9_told 57 = .ok (.getfield 7, 3) := by decide +kernel
theorem dX9_told_60 : decode cX9_told 60 = .ok (.iload_n 1, 1) := by decide +kernel
theorem dX9_told_61 : decode cX9_told 61 = .ok (.iaload, 1) := by decide +kernel
theorem dX9_told_62 : decode cX9_told 62 = .ok (.ireturn, 1) := by decide +kernel
theorem dX9_told_63 : decode cX9_told 63 = .ok (.aload_n 0, 1) := by decide +kernel
theorem dX9_told_64 : decode cX9_told 64 = .ok (.getfield 13, 3) := by decide +kernel
theorem dX9_told_67 : decode cX9_told 67 = .ok (.iload_n 1, 1) := by decide +kernel
theorem dX9_told_68 : decode cX9_told 68 = .ok (.iaload, 1) := by decide +kernel
theorem dX9_told_69 : decode cX9_told 69 = .ok (.ireturn, 1) := by decide +kernel
theorem dX9_told_70 : decode cX9_told 70 = .ok (.aload_n 0, 1) := by decide +kernel
theorem dX9_told_71 : decode cX9_told 71 = .ok (.getfield 16, 3) := by decide +kernel
theorem dX9_told_74 : decode cX9_told 74 = .ok (.iload_n 1, 1) := by decide +kernel
theorem dX9_told_75 : decode cX9_told 75 = .ok (.iaload, 1) := by decide +kernel
theorem dX9_told_76 : decode cX9_told 76 = .ok (.ireturn, 1) := by decide +kernel
theorem dX9_told_77 : decode cX9_told 77 = .ok (.aload_n 0, 1) := by decide +kernel
theorem dX9_told_78 : decode cX9_told 78 = .ok (.getfield 19, 3) := by decide +kernel
theorem dX9_told_81 : decode cX9_told 81 = .ok (.iload_n 1, 1) := by decide +kernel
theorem dX9_told_82 : decode cX9_told 82 = .ok (.iaload, 1) := by decide +kernel
theorem dX9_told_83 : decode cX9_told 83 = .ok (.ireturn, 1) := by decide +kernel
theorem dX9_told_84 : decode cX9_told 84 = .ok (.aload_n 0, 1) := by decide +kernel
theorem dX9_told_85 : decode cX9_told 85 = .ok (.getfield 25, 3) := by decide +kernel
theorem dX9_told_88 : decode cX9_told 88 = .ok (.iload_n 1, 1) := by decide +kernel
theorem dX9_told_89 : decode cX9_told 89 = .ok (.iaload, 1) := by decide +kernel
theorem dX9_told_90 : decode cX9_told 90 = .ok (.ireturn, 1) := by decide +kernel
theorem dX9_told_91 : decode cX9_told 91 = .ok (.aload_n 0, 1) := by decide +kernel
theorem dX9_told_92 : decode cX9_told 92 = .ok (.getfield 28, 3) := by decide +kernel
theorem dX9_told_95 : decode cX9_told 95 = .ok (.iload_n 1, 1) := by decide +kernel
theorem dX9_told_96 : decode cX9_told 96 = .ok (.baload, 1) := by decide +kernel
theorem dX9_told_97 : decode cX9_told 97 = .ok (.ifCond .eq 7, 3) := by decide +kernel
theorem dX9_told_100 : decode cX9_told 100 = .ok (.iconst 1, 1) := by decide +kernel
theorem dX9_told_101 : decode cX9_told 101 = .ok (.goto 4, 3) := by decide +kernel
theorem dX9_told_104 : decode cX9_told 104 = .ok (.iconst 0, 1) := by decide +kernel
theorem dX9_told_105 : decode cX9_told 105 = .ok (.ireturn, 1) := by decide +kernel
theorem dX9_told_106 : decode cX9_told 106 = .ok (.aload_n 0, 1) := by decide +kernel
theorem dX9_told_107 : decode cX9_told 107 = .ok (.getfield 35, 3) := by decide +kernel
theorem dX9_told_110 : decode cX9_told 110 = .ok (.iload_n 1, 1) := by decide +kernel
theorem dX9_told_111 : decode cX9_told 111 = .ok (.invokestatic 173, 3) := by decide +kernel
theorem dX9_told_114 : decode cX9_told 114 = .ok (.ireturn, 1) := by decide +kernel
theorem dX9_told_115 : decode cX9_told 115 = .ok (.aload_n 0, 1) := by decide +kernel
theorem dX9_told_116 : decode cX9_told 116 = .ok (.getfield 66, 3) := by decide +kernel
theorem dX9_told_119 : decode cX9_told 119 = .ok (.iload_n 1, 1) := by decide +kernel
theorem dX9_told_120 : decode cX9_told 120 = .ok (.invokestatic 173, 3) := by decide +kernel
theorem dX9_told_123 : decode cX9_told 123 = .ok (.ireturn, 1) := by decide +kernel
theorem dX9_told_124 : decode cX9_told 124 = .ok (.aload_n 0, 1) := by decide +kernel
theorem dX9_told_125 : decode cX9_told 125 = .ok (.iload_n 1, 1) := by decide +kernel
theorem dX9_told_126 : decode cX9_told 126 = .ok (.invokevirtual 280, 3) := by decide +kernel
theorem dX9_told_129 : decode cX9_told 129 = .ok (.ireturn, 1) := by decide +kernel
theorem dX9_told_130 : decode cX9_told 130 = .ok (.aload_n 0, 1) := by decide +kernel
theorem dX9_told_131 : decode cX9_told 131 = .ok (.iload_n 1, 1) := by decide +kernel
theorem dX9_told_132 : decode cX9_told 132 = .ok (.invokevirtual 256, 3) := by decide +kernel
theorem dX9_told_135 : decode cX9_told 135 = .ok (.ireturn, 1) := by decide +kernel
theorem dX9_told_136 : decode cX9_told 136 = .ok (.aload_n 0, 1) := by decide +kernel
theorem dX9_told_137 : decode cX9_told 137 = .ok (.iload_n 1, 1) := by decide +kernel
theorem dX9_told_138 : decode cX9_told 138 = .ok (.invokevirtual 286, 3) := by decide +kernel
theorem dX9_told_141 : decode cX9_told 141 = .ok (.ireturn, 1) := by decide +kernel
theorem dX9_operation_0 : decode cX9_operation 0 = .ok (.aload_n 0, 1) := by decide +kernel
theorem dX9_operation_1 : decode cX9_operation 1 = .ok (.aload_n 0, 1) := by decide +kernel
theorem dX9_operation_2 : decode cX9_operation 2 = .ok (.iload_n 1, 1) := by decide +kernel
theorem dX9_operation_3 : decode cX9_operation 3 = .ok (.invokevirtual 289, 3) := by decide +kernel
theorem dX9_operation_6 : decode cX9_operation 6 = .ok (.ifCond .ne 7, 3) := by decide +kernel
theorem dX9_operation_9 : decode cX9_operation 9 = .ok (.iconst 1, 1) := by decide +kernel
theorem dX9_operation_10 : decode cX9_operation 10 = .ok (.goto 18, 3) := by decide +kernel
theorem dX9_operation_13 : decode cX9_operation 13 = .ok (.iload_n 2, 1) := by decide +kernel
theorem dX9_operation_14 : decode cX9_operation 14 = .ok (.iconst 0, 1) := by decide +kernel
theorem dX9_operation_15 : decode cX9_operation 15 = .ok (.bipush 10, 2) := by decide +kernel
theorem dX9_operation_17 : decode cX9_operation 17 = .ok (.invokestatic 91, 3) := by decide +kernel
theorem dX9_operation_20 : decode cX9_operation 20 = .ok (.ifCond .eq 7, 3) := by decide +kernel
theorem dX9_operation_23 : decode cX9_operation 23 = .ok (.iconst 0, 1) := by decide +kernel
theorem dX9_operation_24 : decode cX9_operation 24 = .ok (.goto 4, 3) := by decide +kernel
theorem dX9_operation_27 : decode cX9_operation 27 = .ok (.iconst 2, 1) := by decide +kernel
theorem dX9_operation_28 : decode cX9_operation 28 = .ok (.putfield 87, 3) := by decide +kernel
theorem dX9_operation_31 : decode cX9_operation 31 = .ok (.aload_n 0, 1) := by decide +kernel
theorem dX9_operation_32 : decode cX9_operation 32 = .ok (.getfield 87, 3) := by decide +kernel
theorem dX9_operation_35 : decode cX9_operation 35 = .ok (.ifCond .le 5, 3) := by decide +kernel
theorem dX9_operation_38 : decode cX9_operation 38 = .ok (.iconst 0, 1) := by decide +kernel
theorem dX9_operation_39 : decode cX9_operation 39 = .ok (.ireturn, 1) := by decide +kernel
theorem dX9_operation_40 : decode cX9_operation 40 = .ok (.aload_n 0, 1) := by decide +kernel
theorem dX9_operation_41 : decode cX9_operation 41 = .ok (.invokevirtual 201, 3) := by decide +kernel
theorem dX9_operation_44 : decode cX9_operation 44 = .ok (.aload_n 0, 1) := by decide +kernel
theorem dX9_operation_45 : decode cX9_operation 45 = .ok (.iload_n 1, 1) := by decide +kernel
theorem dX9_operation_46 : decode cX9_operation 46 = .ok (.iload_n 2, 1) := by decide +kernel
theorem dX9_operation_47 : decode cX9_operation 47 = .ok (.invokevirtual 292, 3) := by decide +kernel
theorem dX9_operation_50 : decode cX9_operation 50 = .ok (.ireturn, 1) := by decide +kernel
theorem dX9_ifSwitched_0 : decode cX9_ifSwitched 0 = .ok (.aload_n 0, 1) := by decide +kernel
theorem dX9_ifSwitched_1 : decode cX9_ifSwitched 1 = .ok (.aload_n 0, 1) := by decide +kernel
theorem dX9_ifSwitched_2 : decode cX9_ifSwitched 2 = .ok (.iload_n 1, 1) := by decide +kernel
theorem dX9_ifSwitched_3 : decode cX9_ifSwitched 3 = .ok (.invokevirtual 289, 3) := by decide +kernel
theorem dX9_ifSwitched_6 : decode cX9_ifSwitched 6 = .ok (.ifCond .eq 7, 3) := by decide +kernel
theorem dX9_ifSwitched_9 : decode cX9_ifSwitched 9 = .ok (.iconst 0, 1) := by decide +kernel
theorem dX9_ifSwitched_10 : decode cX9_ifSwitched 10 = .ok (.goto 4, 3) := by decide +kernel
theorem dX9_ifSwitched_13 : decode cX9_ifSwitched 13 = .ok (.iconst 1, 1) := by decide +kernel
theorem dX9_ifSwitched_14 : decode cX9_ifSwitched 14 = .ok (.putfield 87, 3) := by decide +kernel
theorem dX9_ifSwitched_17 : decode cX9_ifSwitched 17 = .ok (.aload_n 0, 1) := by decide +kernel
theorem dX9_ifSwitched_18 : decode cX9_ifSwitched 18 = .ok (.getfield 87, 3) := by decide +kernel
theorem dX9_ifSwitched_21 : decode cX9_ifSwitched 21 = .ok (.ifCond .le 5, 3) := by decide +kernel
theorem dX9_ifSwitched_24 : decode cX9_ifSwitched 24 = .ok (.iconst 0, 1) := by decide +kernel
theorem dX9_ifSwitched_25 : decode cX9_ifSwitched 25 = .ok (.ireturn, 1) := by decide +kernel
theorem dX9_ifSwitched_26 : decode cX9_ifSwitched 26 = .ok (.aload_n 0, 1) := by decide +kernel
theorem dX9_ifSwitched_27 : decode cX9_ifSwitched 27 = .ok (.invokevirtual 201, 3) := by decide +kernel
theorem dX9_ifSwitched_30 : decode cX9_ifSwitched 30 = .ok (.aload_n 0, 1) := by decide +kernel
theorem dX9_ifSwitched_31 : decode cX9_ifSwitched 31 = .ok (.invokevirtual 204, 3) := by decide +kernel
theorem dX9_ifSwitched_34 : decode cX9_ifSwitched 34 = .ok (.aload_n 0, 1) := by decide +kernel
theorem dX9_ifSwitched_35 : decode cX9_ifSwitched 35 = .ok (.getfield 69, 3) := by decide +kernel
theorem dX9_ifSwitched_38 : decode cX9_ifSwitched 38 = .ok (.iload_n 1, 1) := by decide +kernel
theorem dX9_ifSwitched_39 : decode cX9_ifSwitched 39 = .ok (.aload_n 0, 1) := by decide +kernel
theorem dX9_ifSwitched_40 : decode cX9_ifSwitched 40 = .ok (.getfield 28, 3) := by decide +kernel
theorem dX9_ifSwitched_43 : decode cX9_ifSwitched 43 = .ok (.iload_n 1, 1) := by decide +kernel
theorem dX9_ifSwitched_44 : decode cX9_ifSwitched 44 = .ok (.baload, 1) := by decide +kernel
theorem dX9_ifSwitched_45 : decode cX9_ifSwitched 45 = .ok (.ifCond .ne 7, 3) := by decide +kernel
theorem dX9_ifSwitched_48 : decode cX9_ifSwitched 48 = .ok (.iconst 1, 1) := by decide +kernel
theorem dX9_ifSwitched_49 : decode cX9_ifSwitched 49 = .ok (.goto 4, 3) := by decide +kernel
theorem dX9_ifSwitched_52 : decode cX9_ifSwitched 52 = .ok (.iconst 0, 1) := by decide +kernel
theorem dX9_ifSwitched_53 : decode cX9_ifSwitched 53 = .ok (.bastore, 1) := by decide +kernel
theorem dX9_ifSwitched_54 : decode cX9_ifSwitched 54 = .ok (.aload_n 0, 1) := by decide +kernel
theorem dX9_ifSwitched_55 : decode cX9_ifSwitched 55 = .ok (.aload_n 0, 1) := by decide +kernel
theorem dX9_ifSwitched_56 : decode cX9_ifSwitched 56 = .ok (.getfield 95, 3) := by decide +kernel
theorem dX9_ifSwitched_59 : decode cX9_ifSwitched 59 = .ok (.invokevirtual 119, 3) := by decide +kernel
theorem dX9_ifSwitched_62 : decode cX9_ifSwitched 62 = .ok (.aload_n 0, 1) := by decide +kernel
theorem dX9_ifSwitched_63 : decode cX9_ifSwitched 63 = .ok (.aload_n 0, 1) := by decide +kernel
theorem dX9_ifSwitched_64 : decode cX9_ifSwitched 64 = .ok (.getfield 95, 3) := by decide +kernel
theorem dX9_ifSwitched_67 : decode cX9_ifSwitched 67 = .ok (.aload_n 0, 1) := by decide +kernel
theorem dX9_ifSwitched_68 : decode cX9_ifSwitched 68 = .ok (.getfield 126, 3) := by decide +kernel
theorem dX9_ifSwitched_71 : decode cX9_ifSwitched 71 = .ok (.invokevirtual 122, 3) := by decide +kernel
theorem dX9_ifSwitched_74 : decode cX9_ifSwitched 74 = .ok (.aload_n 0, 1) := by decide +kernel
theorem dX9_ifSwitched_75 : decode cX9_ifSwitched 75 = .ok (.invokevirtual 207, 3) := by decide +kernel
theorem dX9_ifSwitched_78 : decode cX9_ifSwitched 78 = .ok (.ireturn, 1) := by decide +kernel
theorem dX9_userNow_0 : decode cX9_userNow 0 = .ok (.iload_n 2, 1) := by decide +kernel
theorem dX9_userNow_1 : decode cX9_userNow 1 = .ok (.iconst 4, 1) := by decide +kernel
theorem dX9_userNow_2 : decode cX9_userNow 2 = .ok (.if_icmp .ne 9, 3) := by decide +kernel
theorem dX9_userNow_5 : decode cX9_userNow 5 = .ok (.aload_n 0, 1) := by decide +kernel
theorem dX9_userNow_6 : decode cX9_userNow 6 = .ok (.iload_n 1, 1) := by decide +kernel
theorem dX9_userNow_7 : decode cX9_userNow 7 = .ok (.invokevirtual 238, 3) := by decide +kernel
theorem dX9_userNow_10 : decode cX9_userNow 10 = .ok (.ireturn, 1) := by decide +kernel
theorem dX9_userNow_11 : decode cX9_userNow 11 = .ok (.iconst 0, 1) := by decide +kernel
theorem dX9_userNow_12 : decode cX9_userNow 12 = .ok (.istore_n 3, 1) := by decide +kernel
theorem dX9_userNow_13 : decode cX9_userNow 13 = .ok (.iconst 0, 1) := by decide +kernel
theorem dX9_userNow_14 : decode cX9_userNow 14 = .ok (.istore 4, 2) := by decide +kernel
theorem dX9_userNow_16 : decode cX9_userNow 16 = .ok (.iload 4, 2) := by decide +kernel
theorem dX9_userNow_18 : decode cX9_userNow 18 = .ok (.aload_n 0, 1) := by decide +kernel
theorem dX9_userNow_19 : decode cX9_userNow 19 = .ok (.getfield 95, 3) := by decide +kernel
theorem dX9_userNow_22 : decode cX9_userNow 22 = .ok (.if_icmp .ge 93, 3) := by decide +kernel
theorem dX9_userNow_25 : decode cX9_userNow 25 = .ok (.aload_n 0, 1) := by decide +kernel
theorem dX9_userNow_26 : decode cX9_userNow 26 = .ok (.getfield 13, 3) := by decide +kernel
theorem dX9_userNow_29 : decode cX9_userNow 29 = .ok (.iload 4, 2) := by decide +kernel
theorem dX9_userNow_31 : decode cX9_userNow 31 = .ok (.iaload, 1) := by decide +kernel
theorem dX9_userNow_32 : decode cX9_userNow 32 = .ok (.iload_n 1, 1) := by decide +kernel
theorem dX9_userNow_33 : decode cX9_userNow 33 = .ok (.if_icmp .ne 7, 3) := by decide +kernel
theorem dX9_userNow_36 : decode cX9_userNow 36 = .ok (.iconst 1, 1) := by decide +kernel
theorem dX9_userNow_37 : decode cX9_userNow 37 = .ok (.goto 4, 3) := by decide +kernel
theorem dX9_userNow_40 : decode cX9_userNow 40 = .ok (.iconst 0, 1) := by decide +kernel
theorem dX9_userNow_41 : decode cX9_userNow 41 = .ok (.istore 5, 2) := by decide +kernel
theorem dX9_userNow_43 : decode cX9_userNow 43 = .ok (.iload_n 3, 1) := by decide +kernel
theorem dX9_userNow_44 : decode cX9_userNow 44 = .ok (.iload 5, 2) := by decide +kernel
theorem dX9_userNow_46 : decode cX9_userNow 46 = .ok (.ifCond .eq 41, 3) := by decide +kernel
theorem dX9_userNow_49 : decode cX9_userNow 49 = .ok (.iload_n 2, 1) := by decide +kernel
theorem dX9_userNow_50 : decode cX9_userNow 50 = .ok (.ifCond .eq 33, 3) := by decide +kernel
theorem dX9_userNow_53 : decode cX9_userNow 53 = .ok (.iload_n 2, 1) := by decide +kernel
theorem dX9_userNow_54 : decode cX9_userNow 54 = .ok (.iconst 1, 1) := by decide +kernel
theorem dX9_userNow_55 : decode cX9_userNow 55 = .ok (.if_icmp .ne 13, 3) := by decide +kernel
theorem dX9_userNow_58 : decode cX9_userNow 58 = .ok (.aload_n 0, 1) := by decide +kernel
theorem dX9_userNow_59 : decode cX9_userNow 59 = .ok (.getfield 28, 3) := by decide +kernel
theorem dX9_userNow_62 : decode cX9_userNow 62 = .ok (.iload 4, 2) := by decide +kernel
theorem dX9_userNow_64 : decode cX9_userNow 64 = .ok (.baload, 1) := by decide +kernel
theorem dX9_userNow_65 : decode cX9_userNow 65 = .ok (.ifCond .ne 18, 3) := by decide +kernel
theorem dX9_userNow_68 : decode cX9_userNow 68 = .ok (.iload_n 2, 1) := by decide +kernel
theorem dX9_userNow_69 : decode cX9_userNow 69 = .ok (.iconst 2, 1) := by decide +kernel
theorem dX9_userNow_70 : decode cX9_userNow 70 = .ok (.if_icmp .ne 17, 3) := by decide +kernel
theorem dX9_userNow_73 : decode cX9_userNow 73 = .ok (.aload_n 0, 1) := by decide +kernel
theorem dX9_userNow_74 : decode cX9_userNow 74 = .ok (.getfield 32, 3) := by decide +kernel
theorem dX9_userNow_77 : decode cX9_userNow 77 = .ok (.iload 4, 2) := by decide +kernel
theorem dX9_userNow_79 : decode cX9_userNow 79 = .ok (.iaload, 1) := by decide +kernel
theorem dX9_userNow_80 : decode cX9_userNow 80 = .ok (.ifCond .le 7, 3) := by decide +kernel
theorem dX9_userNow_83 : decode cX9_userNow 83 = .ok (.iconst 1, 1) := by decide +kernel
theorem dX9_userNow_84 : decode cX9_userNow 84 = .ok (.goto 23, 3) := by decide +kernel
theorem dX9_userNow_87 : decode cX9_userNow 87 = .ok (.iload 5, 2) := by decide +kernel
theorem dX9_userNow_89 : decode cX9_userNow 89 = .ok (.ifCond .eq 17, 3) := by decide +kernel
theorem dX9_userNow_92 : decode cX9_userNow 92 = .ok (.iload_n 2, 1) := by decide +kernel
theorem dX9_userNow_93 : decode cX9_userNow 93 = .ok (.iconst 3, 1) := by decide +kernel
theorem dX9_userNow_94 : decode cX9_userNow 94 = .ok (.if_icmp .ne 12, 3) := by decide +kernel
theorem dX9_userNow_97 : decode cX9_userNow 97 = .ok (.aload_n 0, 1) := by decide +kernel
theorem dX9_userNow_98 : decode cX9_userNow 98 = .ok (.iload 4, 2) := by decide +kernel
theorem dX9_userNow_100 : decode cX9_userNow 100 = .ok (.invokevirtual 256, 3) := by decide +kernel
theorem dX9_userNow_103 : decode cX9_userNow 103 = .ok (.goto 4, 3) := by decide +kernel
theorem dX9_userNow_106 : decode cX9_userNow 106 = .ok (.iconst 0, 1) := by decide +kernel
theorem dX9_userNow_107 : decode cX9_userNow 107 = .ok (.iadd, 1) := by decide +kernel
theorem dX9_userNow_108 : decode cX9_userNow 108 = .ok (.istore_n 3, 1) := by decide +kernel
theorem dX9_userNow_109 : decode cX9_userNow 109 = .ok (.iinc 4 1, 3) := by decide +kernel
theorem dX9_userNow_112 : decode cX9_userNow 112 = .ok (.goto (-96), 3) := by decide +kernel
theorem dX9_userNow_115 : decode cX9_userNow 115 = .ok (.iload_n 3, 1) := by decide +kernel
theorem dX9_userNow_116 : decode cX9_userNow 116 = .ok (.ireturn, 1) := by decide +kernel
theorem dX9_user_0 : decode cX9_user 0 = .ok (.aload_n 0, 1) := by decide +kernel
theorem dX9_user_1 : decode cX9_user 1 = .ok (.iload_n 1, 1) := by decide +kernel
theorem dX9_user_2 : decode cX9_user 2 = .ok (.invokestatic 184, 3) := by decide +kernel
theorem dX9_user_5 : decode cX9_user 5 = .ok (.ifCond .ne 7, 3) := by decide +kernel
theorem dX9_user_8 : decode cX9_user 8 = .ok (.iconst 1, 1) := by decide +kernel
theorem dX9_user_9 : decode cX9_user 9 = .ok (.goto 17, 3) := by decide +kernel
theorem dX9_user_12 : decode cX9_user 12 = .ok (.iload_n 2, 1) := by decide +kernel
theorem dX9_user_13 : decode cX9_user 13 = .ok (.iconst 0, 1) := by decide +kernel
theorem dX9_user_14 : decode cX9_user 14 = .ok (.iconst 4, 1) := by decide +kernel
theorem dX9_user_15 : decode cX9_user 15 = .ok (.invokestatic 91, 3) := by decide +kernel
theorem dX9_user_18 : decode cX9_user 18 = .ok (.ifCond .eq 7, 3) := by decide +kernel
theorem dX9_user_21 : decode cX9_user 21 = .ok (.iconst 0, 1) := by decide +kernel
theorem dX9_user_22 : decode cX9_user 22 = .ok (.goto 4, 3) := by decide +kernel
theorem dX9_user_25 : decode cX9_user 25 = .ok (.iconst 2, 1) := by decide +kernel
theorem dX9_user_26 : decode cX9_user 26 = .ok (.putfield 87, 3) := by decide +kernel
theorem dX9_user_29 : decode cX9_user 29 = .ok (.aload_n 0, 1) := by decide +kernel
theorem dX9_user_30 : decode cX9_user 30 = .ok (.getfield 87, 3) := by decide +kernel
theorem dX9_user_33 : decode cX9_user 33 = .ok (.ifCond .le 5, 3) := by decide +kernel
theorem dX9_user_36 : decode cX9_user 36 = .ok (.iconst 0, 1) := by decide +kernel
theorem dX9_user_37 : decode cX9_user 37 = .ok (.ireturn, 1) := by decide +kernel
theorem dX9_user_38 : decode cX9_user 38 = .ok (.aload_n 0, 1) := by decide +kernel
theorem dX9_user_39 : decode cX9_user 39 = .ok (.invokevirtual 201, 3) := by decide +kernel
theorem dX9_user_42 : decode cX9_user 42 = .ok (.aload_n 0, 1) := by decide +kernel
theorem dX9_user_43 : decode cX9_user 43 = .ok (.iload_n 1, 1) := by decide +kernel
theorem dX9_user_44 : decode cX9_user 44 = .ok (.iload_n 2, 1) := by decide +kernel
theorem dX9_user_45 : decode cX9_user 45 = .ok (.invokevirtual 295, 3) := by decide +kernel
theorem dX9_user_48 : decode cX9_user 48 = .ok (.ireturn, 1) := by decide +kernel
theorem dX9_meanStrength_0 : decode cX9_meanStrength 0 = .ok (.aload_n 0, 1) := by decide +kernel
theorem dX9_meanStrength_1 : decode cX9_meanStrength 1 = .ok (.iconst 0, 1) := by decide +kernel
theorem dX9_meanStrength_2 : decode cX9_meanStrength 2 = .ok (.putfield 87, 3) := by decide +kernel
theorem dX9_meanStrength_5 : decode cX9_meanStrength 5 = .ok (.aload_n 0, 1) := by decide +kernel
theorem dX9_meanStrength_6 : decode cX9_meanStrength 6 = .ok (.invokevirtual 201, 3) := by decide +kernel
theorem dX9_meanStrength_9 : decode cX9_meanStrength 9 = .ok (.iconst 0, 1) := by decide +kernel
theorem dX9_meanStrength_10 : decode cX9_meanStrength 10 = .ok (.istore_n 1, 1) := by decide +kernel
theorem dX9_meanStrength_11 : decode cX9_meanStrength 11 = .ok (.iconst 0, 1) := by decide +kernel
theorem dX9_meanStrength_12 : decode cX9_meanStrength 12 = .ok (.istore_n 2, 1) := by decide +kernel
theorem dX9_meanStrength_13 : decode cX9_meanStrength 13 = .ok (.iconst 0, 1) := by decide +kernel
theorem dX9_meanStrength_14 : decode cX9_meanStrength 14 = .ok (.istore_n 3, 1) := by decide +kernel
theorem dX9_meanStrength_15 : decode cX9_meanStrength 15 = .ok (.iload_n 3, 1) := by decide +kernel
theorem dX9_meanStrength_16 : decode cX9_meanStrength 16 = .ok (.sipush 256, 3) := by decide +kernel
theorem dX9_meanStrength_19 : decode cX9_meanStrength 19 = .ok (.if_icmp .ge 54, 3) := by decide +kernel
theorem dX9_meanStrength_22 : decode cX9_meanStrength 22 = .ok (.iload_n 1, 1) := by decide +kernel
theorem dX9_meanStrength_23 : decode cX9_meanStrength 23 = .ok (.aload_n 0, 1) := by decide +kernel
theorem dX9_meanStrength_24 : decode cX9_meanStrength 24 = .ok (.getfield 72, 3) := by decide +kernel
theorem dX9_meanStrength_27 : decode cX9_meanStrength 27 = .ok (.iload_n 3, 1) := by decide +kernel
theorem dX9_meanStrength_28 : decode cX9_meanStrength 28 = .ok (.iaload, 1) := by decide +kernel
theorem dX9_meanStrength_29 : decode cX9_meanStrength 29 = .ok (.iconst (-1), 1) := by decide +kernel
theorem dX9_meanStrength_30 : decode cX9_meanStrength 30 = .ok (.if_icmp .ne 7, 3) := by decide +kernel
theorem dX9_meanStrength_33 : decode cX9_meanStrength 33 = .ok (.iconst 0, 1) := by decide +kernel
theorem dX9_meanStrength_34 : decode cX9_meanStrength 34 = .ok (.goto 13, 3) := by decide +kernel
theorem dX9_meanStrength_37 : decode cX9_meanStrength 37 = .ok (.aload_n 0, 1) := by decide +kernel
theorem dX9_meanStrength_38 : decode cX9_meanStrength 38 = .ok (.aload_n 0, 1) := by decide +kernel
theorem dX9_meanStrength_39 : decode cX9_meanStrength 39 = .ok (.getfield 72, 3) := by decide +kernel
theorem dX9_meanStrength_42 : decode cX9_meanStrength 42 = .ok (.iload_n 3, 1) := by decide +kernel
theorem dX9_meanStrength_43 : decode cX9_meanStrength 43 = .ok (.iaload, 1) := by decide +kernel
theorem dX9_meanStrength_44 : decode cX9_meanStrength 44 = .ok (.invokevirtual 286, 3) := by decide +kernel
theorem dX9_meanStrength_47 : decode cX9_meanStrength 47 = .ok (.iadd, 1) := by decide +kernel
theorem dX9_meanStrength_48 : decode cX9_meanStrength 48 = .ok (.istore_n 1, 1) := by decide +kernel
theorem dX9_meanStrength_49 : decode cX9_meanStrength 49 = .ok (.iload_n 2, 1) := by decide +kernel
theorem dX9_meanStrength_50 : decode cX9_meanStrength 50 = .ok (.aload_n 0, 1) := by decide +kernel
theorem dX9_meanStrength_51 : decode cX9_meanStrength 51 = .ok (.getfield 72, 3) := by decide +kernel
theorem dX9_meanStrength_54 : decode cX9_meanStrength 54 = .ok (.iload_n 3, 1) := by decide +kernel
theorem dX9_meanStrength_55 : decode cX9_meanStrength 55 = .ok (.iaload, 1) := by decide +kernel
theorem dX9_meanStrength_56 : decode cX9_meanStrength 56 = .ok (.iconst (-1), 1) := by decide +kernel
theorem dX9_meanStrength_57 : decode cX9_meanStrength 57 = .ok (.if_icmp .ne 7, 3) := by decide +kernel
theorem dX9_meanStrength_60 : decode cX9_meanStrength 60 = .ok (.iconst 0, 1) := by decide +kernel
theorem dX9_meanStrength_61 : decode cX9_meanStrength 61 = .ok (.goto 4, 3) := by decide +kernel
theorem dX9_meanStrength_64 : decode cX9_meanStrength 64 = .ok (.iconst 1, 1) := by decide +kernel
theorem dX9_meanStrength_65 : decode cX9_meanStrength 65 = .ok (.iadd, 1) := by decide +kernel
theorem dX9_meanStrength_66 : decode cX9_meanStrength 66 = .ok (.istore_n 2, 1) := by decide +kernel
theorem dX9_meanStrength_67 : decode cX9_meanStrength 67 = .ok (.iinc 3 1, 3) := by decide +kernel
theorem dX9_meanStrength_70 : decode cX9_meanStrength 70 = .ok (.goto (-55), 3) := by decide +kernel
theorem dX9_meanStrength_73 : decode cX9_meanStrength 73 = .ok (.iload_n 2, 1) := by decide +kernel
theorem dX9_meanStrength_74 : decode cX9_meanStrength 74 = .ok (.ifCond .ne 7, 3) := by decide +kernel
theorem dX9_meanStrength_77 : decode cX9_meanStrength 77 = .ok (.dconst 0, 1) := by decide +kernel
theorem dX9_meanStrength_78 : decode cX9_meanStrength 78 = .ok (.goto 10, 3) := by decide +kernel
theorem dX9_meanStrength_81 : decode cX9_meanStrength 81 = .ok (.dconst 1, 1) := by decide +kernel
theorem dX9_meanStrength_82 : decode cX9_meanStrength 82 = .ok (.iload_n 1, 1) := by decide +kernel
theorem dX9_meanStrength_83 : decode cX9_meanStrength 83 = .ok (.i2d, 1) := by decide +kernel
theorem dX9_meanStrength_84 : decode cX9_meanStrength 84 = .ok (.dmul, 1) := by decide +kernel
theorem dX9_meanStrength_85 : decode cX9_meanStrength 85 = .ok (.iload_n 2, 1) := by decide +kernel
theorem dX9_meanStrength_86 : decode cX9_meanStrength 86 = .ok (.i2d, 1) := by decide +kernel
theorem dX9_meanStrength_87 : decode cX9_meanStrength 87 = .ok (.ddiv, 1) := by decide +kernel
theorem dX9_meanStrength_88 : decode cX9_meanStrength 88 = .ok (.dreturn, 1) := by decide +kernel
theorem dX9_mix_0 : decode cX9_mix 0 = .ok (.aload_n 0, 1) := by decide +kernel
theorem dX9_mix_1 : decode cX9_mix 1 = .ok (.ldc2_w 298, 3) := by decide +kernel
theorem dX9_mix_4 : decode cX9_mix 4 = .ok (.aload_n 0, 1) := by decide +kernel
theorem dX9_mix_5 : decode cX9_mix 5 = .ok (.getfield 300, 3) := by decide +kernel
theorem dX9_mix_8 : decode cX9_mix 8 = .ok (.lmul, 1) := by decide +kernel
theorem dX9_mix_9 : decode cX9_mix 9 = .ok (.lload_n 1, 1) := by decide +kernel
theorem dX9_mix_10 : decode cX9_mix 10 = .ok (.ladd, 1) := by decide +kernel
theorem dX9_mix_11 : decode cX9_mix 11 = .ok (.putfield 300, 3) := by decide +kernel
theorem dX9_mix_14 : decode cX9_mix 14 = .ok (.return_, 1) := by decide +kernel
theorem dX9_digest_0 : decode cX9_digest 0 = .ok (.aload_n 0, 1) := by decide +kernel
theorem dX9_digest_1 : decode cX9_digest 1 = .ok (.iconst 0, 1) := by decide +kernel
theorem dX9_digest_2 : decode cX9_digest 2 = .ok (.putfield 87, 3) := by decide +kernel
theorem dX9_digest_5 : decode cX9_digest 5 = .ok (.aload_n 0, 1) := by decide +kernel
theorem dX9_digest_6 : decode cX9_digest 6 = .ok (.ldc2_w 304, 3) := by decide +kernel
theorem dX9_digest_9 : decode cX9_digest 9 = .ok (.putfield 300, 3) := by decide +kernel
theorem dX9_digest_12 : decode cX9_digest 12 = .ok (.aload_n 0, 1) := by decide +kernel
theorem dX9_digest_13 : decode cX9_digest 13 = .ok (.invokevirtual 201, 3) := by decide +kernel
theorem dX9_digest_16 : decode cX9_digest 16 = .ok (.iconst 0, 1) := by decide +kernel
theorem dX9_digest_17 : decode cX9_digest 17 = .ok (.istore_n 1, 1) := by decide +kernel
theorem dX9_digest_18 : decode cX9_digest 18 = .ok (.iload_n 1, 1) := by decide +kernel
theorem dX9_digest_19 : decode cX9_digest 19 = .ok (.bipush 10, 2) := by decide +kernel
theorem dX9_digest_21 : decode cX9_digest 21 = .ok (.if_icmp .ge 19, 3) := by decide +kernel
theorem dX9_digest_24 : decode cX9_digest 24 = .ok (.aload_n 0, 1) := by decide +kernel
theorem dX9_digest_25 : decode cX9_digest 25 = .ok (.aload_n 0, 1) := by decide +kernel
theorem dX9_digest_26 : decode cX9_digest 26 = .ok (.iload_n 1, 1) := by decide +kernel
theorem dX9_digest_27 : decode cX9_digest 27 = .ok (.invokevirtual 283, 3) := by decide +kernel
theorem dX9_digest_30 : decode cX9_digest 30 = .ok (.i2l, 1) := by decide +kernel
theorem dX9_digest_31 : decode cX9_digest 31 = .ok (.invokevirtual 306, 3) := by decide +kernel
theorem dX9_digest_34 : decode cX9_digest 34 = .ok (.iinc 1 1, 3) := by decide +kernel
theorem dX9_digest_37 : decode cX9_digest 37 = .ok (.goto (-19), 3) := by decide +kernel
theorem dX9_digest_40 : decode cX9_digest 40 = .ok (.iconst 0, 1) := by decide +kernel
theorem dX9_digest_41 : decode cX9_digest 41 = .ok (.istore_n 1, 1) := by decide +kernel
theorem dX9_digest_42 : decode cX9_digest 42 = .ok (.iload_n 1, 1) := by decide +kernel
theorem dX9_digest_43 : decode cX9_digest 43 = .ok (.sipush 256, 3) := by decide +kernel
theorem dX9_digest_46 : decode cX9_digest 46 = .ok (.if_icmp .ge 19, 3) := by decide +kernel
theorem dX9_digest_49 : decode cX9_digest 49 = .ok (.aload_n 0, 1) := by decide +kernel
theorem dX9_digest_50 : decode cX9_digest 50 = .ok (.aload_n 0, 1) := by decide +kernel
theorem dX9_digest_51 : decode cX9_digest 51 = .ok (.iload_n 1, 1) := by decide +kernel
theorem dX9_digest_52 : decode cX9_digest 52 = .ok (.invokevirtual 132, 3) := by decide +kernel
theorem dX9_digest_55 : decode cX9_digest 55 = .ok (.i2l, 1) := by decide +kernel
theorem dX9_digest_56 : decode cX9_digest 56 = .ok (.invokevirtual 306, 3) := by decide +kernel
theorem dX9_digest_59 : decode cX9_digest 59 = .ok (.iinc 1 1, 3) := by decide +kernel
theorem dX9_digest_62 : decode cX9_digest 62 = .ok (.goto (-20), 3) := by decide +kernel
theorem dX9_digest_65 : decode cX9_digest 65 = .ok (.iconst 0, 1) := by decide +kernel
theorem dX9_digest_66 : decode cX9_digest 66 = .ok (.istore_n 1, 1) := by decide +kernel
theorem dX9_digest_67 : decode cX9_digest 67 = .ok (.iload_n 1, 1) := by decide +kernel
theorem dX9_digest_68 : decode cX9_digest 68 = .ok (.bipush 11, 2) := by decide +kernel
theorem dX9_digest_70 : decode cX9_digest 70 = .ok (.aload_n 0, 1) := by decide +kernel
theorem dX9_digest_71 : decode cX9_digest 71 = .ok (.getfield 95, 3) := by decide +kernel
theorem dX9_digest_74 : decode cX9_digest 74 = .ok (.imul, 1) := by decide +kernel
theorem dX9_digest_75 : decode cX9_digest 75 = .ok (.if_icmp .ge 26, 3) := by decide +kernel
theorem dX9_digest_78 : decode cX9_digest 78 = .ok (.aload_n 0, 1) := by decide +kernel
theorem dX9_digest_79 : decode cX9_digest 79 = .ok (.aload_n 0, 1) := by decide +kernel
theorem dX9_digest_80 : decode cX9_digest 80 = .ok (.iload_n 1, 1) := by decide +kernel
theorem dX9_digest_81 : decode cX9_digest 81 = .ok (.bipush 11, 2) := by decide +kernel
theorem dX9_digest_83 : decode cX9_digest 83 = .ok (.idiv, 1) := by decide +kernel
theorem dX9_digest_84 : decode cX9_digest 84 = .ok (.iload_n 1, 1) := by decide +kernel
theorem dX9_digest_85 : decode cX9_digest 85 = .ok (.bipush 11, 2) := by decide +kernel
theorem dX9_digest_87 : decode cX9_digest 87 = .ok (.irem, 1) := by decide +kernel
theorem dX9_digest_88 : decode cX9_digest 88 = .ok (.invokevirtual 292, 3) := by decide +kernel
theorem dX9_digest_91 : decode cX9_digest 91 = .ok (.i2l, 1) := by decide +kernel
theorem dX9_digest_92 : decode cX9_digest 92 = .ok (.invokevirtual 306, 3) := by decide +kernel
theorem dX9_digest_95 : decode cX9_digest 95 = .ok (.iinc 1 1, 3) := by decide +kernel
theorem dX9_digest_98 : decode cX9_digest 98 = .ok (.goto (-31), 3) := by decide +kernel
theorem dX9_digest_101 : decode cX9_digest 101 = .ok (.iconst 0, 1) := by decide +kernel
theorem dX9_digest_102 : decode cX9_digest 102 = .ok (.istore_n 1, 1) := by decide +kernel
theorem dX9_digest_103 : decode cX9_digest 103 = .ok (.iload_n 1, 1) := by decide +kernel
theorem dX9_digest_104 : decode cX9_digest 104 = .ok (.bipush 25, 2) := by decide +kernel
theorem dX9_digest_106 : decode cX9_digest 106 = .ok (.if_icmp .ge 24, 3) := by decide +kernel
theorem dX9_digest_109 : decode cX9_digest 109 = .ok (.aload_n 0, 1) := by decide +kernel
theorem dX9_digest_110 : decode cX9_digest 110 = .ok (.aload_n 0, 1) := by decide +kernel
theorem dX9_digest_111 : decode cX9_digest 111 = .ok (.iload_n 1, 1) := by decide +kernel
theorem dX9_digest_112 : decode cX9_digest 112 = .ok (.iconst 5, 1) := by decide +kernel
theorem dX9_digest_113 : decode cX9_digest 113 = .ok (.idiv, 1) := by decide +kernel
theorem dX9_digest_114 : decode cX9_digest 114 = .ok (.iload_n 1, 1) := by decide +kernel
theorem dX9_digest_115 : decode cX9_digest 115 = .ok (.iconst 5, 1) := by decide +kernel
theorem dX9_digest_116 : decode cX9_digest 116 = .ok (.irem, 1) := by decide +kernel
theorem dX9_digest_117 : decode cX9_digest 117 = .ok (.invokevirtual 295, 3) := by decide +kernel
theorem dX9_digest_120 : decode cX9_digest 120 = .ok (.i2l, 1) := by decide +kernel
theorem dX9_digest_121 : decode cX9_digest 121 = .ok (.invokevirtual 306, 3) := by decide +kernel
theorem dX9_digest_124 : decode cX9_digest 124 = .ok (.iinc 1 1, 3) := by decide +kernel
theorem dX9_digest_127 : decode cX9_digest 127 = .ok (.goto (-24), 3) := by decide +kernel
theorem dX9_digest_130 : decode cX9_digest 130 = .ok (.iconst 0, 1) := by decide +kernel
theorem dX9_digest_131 : decode cX9_digest 131 = .ok (.istore_n 1, 1) := by decide +kernel
theorem dX9_digest_132 : decode cX9_digest 132 = .ok (.iload_n 1, 1) := by decide +kernel
theorem dX9_digest_133 : decode cX9_digest 133 = .ok (.bipush 6, 2) := by decide +kernel
theorem dX9_digest_135 : decode cX9_digest 135 = .ok (.if_icmp .ge 28, 3) := by decide +kernel
theorem dX9_digest_138 : decode cX9_digest 138 = .ok (.aload_n 0, 1) := by decide +kernel
theorem dX9_digest_139 : decode cX9_digest 139 = .ok (.getfield 60, 3) := by decide +kernel
theorem dX9_digest_142 : decode cX9_digest 142 = .ok (.iload_n 1, 1) := by decide +kernel
theorem dX9_digest_143 : decode cX9_digest 143 = .ok (.baload, 1) := by decide +kernel
theorem dX9_digest_144 : decode cX9_digest 144 = .ok (.ifCond .eq 13, 3) := by decide +kernel
theorem dX9_digest_147 : decode cX9_digest 147 = .ok (.aload_n 0, 1) := by decide +kernel
theorem dX9_digest_148 : decode cX9_digest 148 = .ok (.aload_n 0, 1) := by decide +kernel
theorem dX9_digest_149 : decode cX9_digest 149 = .ok (.iload_n 1, 1) := by decide +kernel
theorem dX9_digest_150 : decode cX9_digest 150 = .ok (.invokevirtual 253, 3) := by decide +kernel
theorem dX9_digest_153 : decode cX9_digest 153 = .ok (.i2l, 1) := by decide +kernel
theorem dX9_digest_154 : decode cX9_digest 154 = .ok (.invokevirtual 306, 3) := by decide +kernel
theorem dX9_digest_157 : decode cX9_digest 157 = .ok (.iinc 1 1, 3) := by decide +kernel
theorem dX9_digest_160 : decode cX9_digest 160 = .ok (.goto (-28), 3) := by decide +kernel
theorem dX9_digest_163 : decode cX9_digest 163 = .ok (.aload_n 0, 1) := by decide +kernel
theorem dX9_digest_164 : decode cX9_digest 164 = .ok (.aload_n 0, 1) := by decide +kernel
theorem dX9_digest_165 : decode cX9_digest 165 = .ok (.getfield 146, 3) := by decide +kernel
theorem dX9_digest_168 : decode cX9_digest 168 = .ok (.i2l, 1) := by decide +kernel
theorem dX9_digest_169 : decode cX9_digest 169 = .ok (.invokevirtual 306, 3) := by decide +kernel
theorem dX9_digest_172 : decode cX9_digest 172 = .ok (.iconst 0, 1) := by decide +kernel
theorem dX9_digest_173 : decode cX9_digest 173 = .ok (.istore_n 1, 1) := by decide +kernel
theorem dX9_digest_174 : decode cX9_digest 174 = .ok (.iload_n 1, 1) := by decide +kernel
theorem dX9_digest_175 : decode cX9_digest 175 = .ok (.aload_n 0, 1) := by decide +kernel
theorem dX9_digest_176 : decode cX9_digest 176 = .ok (.getfield 146, 3) := by decide +kernel
theorem dX9_digest_179 : decode cX9_digest 179 = .ok (.if_icmp .ge 20, 3) := by decide +kernel
theorem dX9_digest_182 : decode cX9_digest 182 = .ok (.aload_n 0, 1) := by decide +kernel
theorem dX9_digest_183 : decode cX9_digest 183 = .ok (.aload_n 0, 1) := by decide +kernel
theorem dX9_digest_184 : decode cX9_digest 184 = .ok (.getfield 63, 3) := by decide +kernel
theorem dX9_digest_187 : decode cX9_digest 187 = .ok (.iload_n 1, 1) := by decide +kernel
theorem dX9_digest_188 : decode cX9_digest 188 = .ok (.iaload, 1) := by decide +kernel
theorem dX9_digest_189 : decode cX9_digest 189 = .ok (.i2l, 1) := by decide +kernel
theorem dX9_digest_190 : decode cX9_digest 190 = .ok (.invokevirtual 306, 3) := by decide +kernel
theorem dX9_digest_193 : decode cX9_digest 193 = .ok (.iinc 1 1, 3) := by decide +kernel
theorem dX9_digest_196 : decode cX9_digest 196 = .ok (.goto (-22), 3) := by decide +kernel
theorem dX9_digest_199 : decode cX9_digest 199 = .ok (.aload_n 0, 1) := by decide +kernel
theorem dX9_digest_200 : decode cX9_digest 200 = .ok (.getfield 300, 3) := by decide +kernel
theorem dX9_digest_203 : decode cX9_digest 203 = .ok (.lreturn, 1) := by decide +kernel
theorem fk_X9_7 : Cond.fieldLink RX9 7 RX9 (TX9 3).2.1 (TX9 3).2.2.1 ∈ gl := gl_tb (by decide +kernel) rfl
theorem fk_X9_13 : Cond.fieldLink RX9 13 RX9 (TX9 4).2.1 (TX9 4).2.2.1 ∈ gl := gl_tb (by decide +kernel) rfl
theorem fk_X9_16 : Cond.fieldLink RX9 16 RX9 (TX9 5).2.1 (TX9 5).2.2.1 ∈ gl := gl_tb (by decide +kernel) rfl
theorem fk_X9_19 : Cond.fieldLink RX9 19 RX9 (TX9 6).2.1 (TX9 6).2.2.1 ∈ gl := gl_tb (by decide +kernel) rfl
theorem fk_X9_22 : Cond.fieldLink RX9 22 RX9 (TX9 7).2.1 (TX9 7).2.2.1 ∈ gl := gl_tb (by decide +kernel) rfl
theorem fk_X9_25 : Cond.fieldLink RX9 25 RX9 (TX9 8).2.1 (TX9 8).2.2.1 ∈ gl := gl_tb (by decide +kernel) rfl
theorem fk_X9_28 : Cond.fieldLink RX9 28 RX9 (TX9 9).2.1 (TX9 9).2.2.1 ∈ gl := gl_tb (by decide +kernel) rfl
theorem fk_X9_32 : Cond.fieldLink RX9 32 RX9 (TX9 10).2.1 (TX9 10).2.2.1 ∈ gl := gl_tb (by decide +kernel) rfl
theorem fk_X9_35 : Cond.fieldLink RX9 35 RX9 (TX9 12).2.1 (TX9 12).2.2.1 ∈ gl := gl_tb (by decide +kernel) rfl
theorem fk_X9_39 : Cond.fieldLink RX9 39 RX9 (TX9 14).2.1 (TX9 14).2.2.1 ∈ gl := gl_tb (by decide +kernel) rfl
theorem fk_X9_42 : Cond.fieldLink RX9 42 RX9 (TX9 15).2.1 (TX9 15).2.2.1 ∈ gl := gl_tb (by decide +kernel) rfl
theorem fk_X9_45 : Cond.fieldLink RX9 45 RX9 (TX9 16).2.1 (TX9 16).2.2.1 ∈ gl := gl_tb (by decide +kernel) rfl
theorem fk_X9_48 : Cond.fieldLink RX9 48 RX9 (TX9 17).2.1 (TX9 17).2.2.1 ∈ gl := gl_tb (by decide +kernel) rfl
theorem fk_X9_51 : Cond.fieldLink RX9 51 RX9 (TX9 18).2.1 (TX9 18).2.2.1 ∈ gl := gl_tb (by decide +kernel) rfl
theorem fk_X9_54 : Cond.fieldLink RX9 54 RX9 (TX9 19).2.1 (TX9 19).2.2.1 ∈ gl := gl_tb (by decide +kernel) rfl
theorem fk_X9_57 : Cond.fieldLink RX9 57 RX9 (TX9 20).2.1 (TX9 20).2.2.1 ∈ gl := gl_tb (by decide +kernel) rfl
theorem fk_X9_60 : Cond.fieldLink RX9 60 RX9 (TX9 21).2.1 (TX9 21).2.2.1 ∈ gl := gl_tb (by decide +kernel) rfl
theorem fk_X9_63 : Cond.fieldLink RX9 63 RX9 (TX9 23).2.1 (TX9 23).2.2.1 ∈ gl := gl_tb (by decide +kernel) rfl
theorem fk_X9_66 : Cond.fieldLink RX9 66 RX9 (TX9 24).2.1 (TX9 24).2.2.1 ∈ gl := gl_tb (by decide +kernel) rfl
theorem fk_X9_69 : Cond.fieldLink RX9 69 RX9 (TX9 25).2.1 (TX9 25).2.2.1 ∈ gl := gl_tb (by decide +kernel) rfl
theorem fk_X9_72 : Cond.fieldLink RX9 72 RX9 (TX9 26).2.1 (TX9 26).2.2.1 ∈ gl := gl_tb (by decide +kernel) rfl
theorem fk_X9_75 : Cond.fieldLink RX9 75 RX9 (TX9 27).2.1 (TX9 27).2.2.1 ∈ gl := gl_tb (by decide +kernel) rfl
theorem fk_X9_78 : Cond.fieldLink RX9 78 RX9 (TX9 29).2.1 (TX9 29).2.2.1 ∈ gl := gl_tb (by decide +kernel) rfl
theorem fk_X9_81 : Cond.fieldLink RX9 81 RX9 (TX9 30).2.1 (TX9 30).2.2.1 ∈ gl := gl_tb (by decide +kernel) rfl
theorem fk_X9_84 : Cond.fieldLink RX9 84 RX9 (TX9 31).2.1 (TX9 31).2.2.1 ∈ gl := gl_tb (by decide +kernel) rfl
theorem fk_X9_87 : Cond.fieldLink RX9 87 RX9 (TX9 0).2.1 (TX9 0).2.2.1 ∈ gl := gl_tb (by decide +kernel) rfl
theorem mk_X9_91 : Cond.methodLink RX9 91 yX9_within ∈ gl := gl_tb (by decide +kernel) rfl
theorem fk_X9_95 : Cond.fieldLink RX9 95 RX9 (TX9 2).2.1 (TX9 2).2.2.1 ∈ gl := gl_tb (by decide +kernel) rfl
theorem mk_X9_98 : Cond.methodLink RX9 98 yX9_size ∈ gl := gl_tb (by decide +kernel) rfl
theorem mk_X9_102 : Cond.methodLink RX9 102 yX9_meets ∈ gl := gl_tb (by decide +kernel) rfl
theorem mk_X9_108 : Cond.methodLink RX9 108 yX9_eraseBy ∈ gl := gl_tb (by decide +kernel) rfl
theorem mk_X9_112 : Cond.methodLink RX9 112 yX9_isVanished ∈ gl := gl_tb (by decide +kernel) rfl
theorem mk_X9_115 : Cond.methodLink RX9 115 yX9_hasIn ∈ gl := gl_tb (by decide +kernel) rfl
theorem mk_X9_119 : Cond.methodLink RX9 119 yX9_layLeft ∈ gl := gl_tb (by decide +kernel) rfl
theorem mk_X9_122 : Cond.methodLink RX9 122 yX9_layTop ∈ gl := gl_tb (by decide +kernel) rfl
theorem fk_X9_126 : Cond.fieldLink RX9 126 RX9 (TX9 1).2.1 (TX9 1).2.2.1 ∈ gl := gl_tb (by decide +kernel) rfl
theorem mk_X9_129 : Cond.methodLink RX9 129 yX9_layAt ∈ gl := gl_tb (by decide +kernel) rfl
theorem mk_X9_132 : Cond.methodLink RX9 132 yX9_shown ∈ gl := gl_tb (by decide +kernel) rfl
theorem fk_X9_136 : Cond.fieldLink RX9 136 RX9 (TX9 13).2.1 (TX9 13).2.2.1 ∈ gl := gl_tb (by decide +kernel) rfl
theorem fk_X9_139 : Cond.fieldLink RX9 139 RX9 (TX9 11).2.1 (TX9 11).2.2.1 ∈ gl := gl_tb (by decide +kernel) rfl
theorem mk_X9_143 : Cond.methodLink RX9 143 yX9_dropLeases ∈ gl := gl_tb (by decide +kernel) rfl
theorem fk_X9_146 : Cond.fieldLink RX9 146 RX9 (TX9 22).2.1 (TX9 22).2.2.1 ∈ gl := gl_tb (by decide +kernel) rfl
theorem fk_X9_149 : Cond.fieldLink RX9 149 RX9 (TX9 28).2.1 (TX9 28).2.2.1 ∈ gl := gl_tb (by decide +kernel) rfl
theorem mk_X9_152 : Cond.methodLink RX9 152 yX9_takes ∈ gl := gl_tb (by decide +kernel) rfl
theorem mk_X9_156 : Cond.methodLink RX9 156 yX9_read ∈ gl := gl_tb (by decide +kernel) rfl
theorem mk_X9_160 : Cond.methodLink RX9 160 yX9_addCell ∈ gl := gl_tb (by decide +kernel) rfl
theorem mk_X9_163 : Cond.methodLink RX9 163 yX9_rounded ∈ gl := gl_tb (by decide +kernel) rfl
theorem mk_X9_167 : Cond.methodLink RX9 167 yX9_isInLease ∈ gl := gl_tb (by decide +kernel) rfl
theorem mk_X9_170 : Cond.methodLink RX9 170 yX9_isClosed ∈ gl := gl_tb (by decide +kernel) rfl
theorem mk_X9_173 : Cond.methodLink RX9 173 yX9_sizeIn ∈ gl := gl_tb (by decide +kernel) rfl
theorem mk_X9_177 : Cond.methodLink RX9 177 yX9_freshCells ∈ gl := gl_tb (by decide +kernel) rfl
theorem mk_X9_180 : Cond.methodLink RX9 180 yX9_addLine ∈ gl := gl_tb (by decide +kernel) rfl
theorem mk_X9_184 : Cond.methodLink RX9 184 yX9_isUser ∈ gl := gl_tb (by decide +kernel) rfl
theorem mk_X9_187 : Cond.methodLink RX9 187 yX9_isPlace ∈ gl := gl_tb (by decide +kernel) rfl
theorem mk_X9_190 : Cond.methodLink RX9 190 yX9_isPath ∈ gl := gl_tb (by decide +kernel) rfl
theorem mk_X9_194 : Cond.methodLink RX9 194 yX9_layPath ∈ gl := gl_tb (by decide +kernel) rfl
theorem mk_X9_197 : Cond.methodLink RX9 197 yX9_add ∈ gl := gl_tb (by decide +kernel) rfl
theorem mk_X9_201 : Cond.methodLink RX9 201 yX9_layNow ∈ gl := gl_tb (by decide +kernel) rfl
theorem mk_X9_204 : Cond.methodLink RX9 204 yX9_keepPicture ∈ gl := gl_tb (by decide +kernel) rfl
theorem mk_X9_207 : Cond.methodLink RX9 207 yX9_others ∈ gl := gl_tb (by decide +kernel) rfl
theorem mk_X9_210 : Cond.methodLink RX9 210 yX9_isInRegion ∈ gl := gl_tb (by decide +kernel) rfl
theorem mk_X9_213 : Cond.methodLink RX9 213 yX9_isBeside ∈ gl := gl_tb (by decide +kernel) rfl
theorem mk_X9_216 : Cond.methodLink RX9 216 yX9_put ∈ gl := gl_tb (by decide +kernel) rfl
theorem mk_X9_219 : Cond.methodLink RX9 219 yX9_isTouched ∈ gl := gl_tb (by decide +kernel) rfl
theorem mk_X9_223 : Cond.methodLink RX9 223 yX9_isCell ∈ gl := gl_tb (by decide +kernel) rfl
theorem mk_X9_226 : Cond.methodLink RX9 226 yX9_layRegion ∈ gl := gl_tb (by decide +kernel) rfl
theorem mk_X9_229 : Cond.methodLink RX9 229 yX9_latestOf ∈ gl := gl_tb (by decide +kernel) rfl
theorem mk_X9_232 : Cond.methodLink RX9 232 yX9_redoOf ∈ gl := gl_tb (by decide +kernel) rfl
theorem mk_X9_235 : Cond.methodLink RX9 235 yX9_mayLease ∈ gl := gl_tb (by decide +kernel) rfl
theorem mk_X9_238 : Cond.methodLink RX9 238 yX9_leasesOf ∈ gl := gl_tb (by decide +kernel) rfl
theorem mk_X9_241 : Cond.methodLink RX9 241 yX9_holderOf ∈ gl := gl_tb (by decide +kernel) rfl
theorem mk_X9_244 : Cond.methodLink RX9 244 yX9_isMark ∈ gl := gl_tb (by decide +kernel) rfl
theorem mk_X9_247 : Cond.methodLink RX9 247 yX9_wasActive ∈ gl := gl_tb (by decide +kernel) rfl
theorem mk_X9_250 : Cond.methodLink RX9 250 yX9_layMark ∈ gl := gl_tb (by decide +kernel) rfl
theorem mk_X9_253 : Cond.methodLink RX9 253 yX9_differenceNow ∈ gl := gl_tb (by decide +kernel) rfl
theorem mk_X9_256 : Cond.methodLink RX9 256 yX9_onTop ∈ gl := gl_tb (by decide +kernel) rfl
theorem mk_X9_259 : Cond.methodLink RX9 259 yX9_meetRegion ∈ gl := gl_tb (by decide +kernel) rfl
theorem mk_X9_262 : Cond.methodLink RX9 262 yX9_actives ∈ gl := gl_tb (by decide +kernel) rfl
theorem mk_X9_265 : Cond.methodLink RX9 265 yX9_colored ∈ gl := gl_tb (by decide +kernel) rfl
theorem mk_X9_268 : Cond.methodLink RX9 268 yX9_colors ∈ gl := gl_tb (by decide +kernel) rfl
theorem mk_X9_271 : Cond.methodLink RX9 271 yX9_held ∈ gl := gl_tb (by decide +kernel) rfl
theorem mk_X9_274 : Cond.methodLink RX9 274 yX9_marks ∈ gl := gl_tb (by decide +kernel) rfl
theorem mk_X9_277 : Cond.methodLink RX9 277 yX9_covered ∈ gl := gl_tb (by decide +kernel) rfl
theorem mk_X9_280 : Cond.methodLink RX9 280 yX9_parts ∈ gl := gl_tb (by decide +kernel) rfl
theorem mk_X9_283 : Cond.methodLink RX9 283 yX9_counted ∈ gl := gl_tb (by decide +kernel) rfl
theorem mk_X9_286 : Cond.methodLink RX9 286 yX9_strength ∈ gl := gl_tb (by decide +kernel) rfl
theorem mk_X9_289 : Cond.methodLink RX9 289 yX9_isOperation ∈ gl := gl_tb (by decide +kernel) rfl
theorem mk_X9_292 : Cond.methodLink RX9 292 yX9_told ∈ gl := gl_tb (by decide +kernel) rfl
theorem mk_X9_295 : Cond.methodLink RX9 295 yX9_userNow ∈ gl := gl_tb (by decide +kernel) rfl
theorem fk_X9_300 : Cond.fieldLink RX9 300 RX9 (TX9 32).2.1 (TX9 32).2.2.1 ∈ gl := gl_tb (by decide +kernel) rfl
theorem mk_X9_306 : Cond.methodLink RX9 306 yX9_mix ∈ gl := gl_tb (by decide +kernel) rfl
theorem vw_X9_thrown : vwM RX9 yX9_thrown (.code yX9_thrown cX9_thrown 1 (some .int)) := ⟨gl_tb (by decide +kernel) rfl, by first | exact gl_tb (by decide +kernel) rfl | exact gl_pv (by decide +kernel) rfl, gl_tb (by decide +kernel) rfl, gl_tb (by decide +kernel) rfl⟩
theorem vw_X9_within : vwS yX9_within (.code yX9_within cX9_within 3 (some .boolean)) := ⟨gl_tb (by decide +kernel) rfl, gl_tb (by decide +kernel) rfl, gl_tb (by decide +kernel) rfl⟩
theorem vw_X9_isUser : vwS yX9_isUser (.code yX9_isUser cX9_isUser 1 (some .boolean)) := ⟨gl_tb (by decide +kernel) rfl, gl_tb (by decide +kernel) rfl, gl_tb (by decide +kernel) rfl⟩
theorem vw_X9_isCell : vwS yX9_isCell (.code yX9_isCell cX9_isCell 1 (some .boolean)) := ⟨gl_tb (by decide +kernel) rfl, gl_tb (by decide +kernel) rfl, gl_tb (by decide +kernel) rfl⟩
theorem vw_X9_isMark : vwS yX9_isMark (.code yX9_isMark cX9_isMark 1 (some .boolean)) := ⟨gl_tb (by decide +kernel) rfl, gl_tb (by decide +kernel) rfl, gl_tb (by decide +kernel) rfl⟩
theorem vw_X9_isOperation : vwM RX9 yX9_isOperation (.code yX9_isOperation cX9_isOperation 2 (some .boolean)) := ⟨gl_tb (by decide +kernel) rfl, by first | exact gl_tb (by decide +kernel) rfl | exact gl_pv (by decide +kernel) rfl, gl_tb (by decide +kernel) rfl, gl_tb (by decide +kernel) rfl⟩
theorem vw_X9_size : vwS yX9_size (.code yX9_size cX9_size 4 (some .int)) := ⟨gl_tb (by decide +kernel) rfl, gl_tb (by decide +kernel) rfl, gl_tb (by decide +kernel) rfl⟩
theorem vw_X9_hasIn : vwS yX9_hasIn (.code yX9_hasIn cX9_hasIn 3 (some .boolean)) := ⟨gl_tb (by decide +kernel) rfl, gl_tb (by decide +kernel) rfl, gl_tb (by decide +kernel) rfl⟩
theorem vw_X9_sizeIn : vwS yX9_sizeIn (.code yX9_sizeIn cX9_sizeIn 2 (some .int)) := ⟨gl_tb (by decide +kernel) rfl, gl_tb (by decide +kernel) rfl, gl_tb (by decide +kernel) rfl⟩
theorem vw_X9_meets : vwM RX9 yX9_meets (.code yX9_meets cX9_meets 5 (some .boolean)) := ⟨gl_tb (by decide +kernel) rfl, by first | exact gl_tb (by decide +kernel) rfl | exact gl_pv (by decide +kernel) rfl, gl_tb (by decide +kernel) rfl, gl_tb (by decide +kernel) rfl⟩
theorem vw_X9_eraseBy : vwM RX9 yX9_eraseBy (.code yX9_eraseBy cX9_eraseBy 7 none) := ⟨gl_tb (by decide +kernel) rfl, by first | exact gl_tb (by decide +kernel) rfl | exact gl_pv (by decide +kernel) rfl, gl_tb (by decide +kernel) rfl, gl_tb (by decide +kernel) rfl⟩
theorem vw_X9_isVanished : vwM RX9 yX9_isVanished (.code yX9_isVanished cX9_isVanished 3 (some .boolean)) := ⟨gl_tb (by decide +kernel) rfl, by first | exact gl_tb (by decide +kernel) rfl | exact gl_pv (by decide +kernel) rfl, gl_tb (by decide +kernel) rfl, gl_tb (by decide +kernel) rfl⟩
theorem vw_X9_layLeft : vwM RX9 yX9_layLeft (.code yX9_layLeft cX9_layLeft 4 none) := ⟨gl_tb (by decide +kernel) rfl, by first | exact gl_tb (by decide +kernel) rfl | exact gl_pv (by decide +kernel) rfl, gl_tb (by decide +kernel) rfl, gl_tb (by decide +kernel) rfl⟩
theorem vw_X9_layTop : vwM RX9 yX9_layTop (.code yX9_layTop cX9_layTop 6 none) := ⟨gl_tb (by decide +kernel) rfl, by first | exact gl_tb (by decide +kernel) rfl | exact gl_pv (by decide +kernel) rfl, gl_tb (by decide +kernel) rfl, gl_tb (by decide +kernel) rfl⟩
theorem vw_X9_layAt : vwM RX9 yX9_layAt (.code yX9_layAt cX9_layAt 3 none) := ⟨gl_tb (by decide +kernel) rfl, by first | exact gl_tb (by decide +kernel) rfl | exact gl_pv (by decide +kernel) rfl, gl_tb (by decide +kernel) rfl, gl_tb (by decide +kernel) rfl⟩
theorem vw_X9_layNow : vwM RX9 yX9_layNow (.code yX9_layNow cX9_layNow 1 none) := ⟨gl_tb (by decide +kernel) rfl, by first | exact gl_tb (by decide +kernel) rfl | exact gl_pv (by decide +kernel) rfl, gl_tb (by decide +kernel) rfl, gl_tb (by decide +kernel) rfl⟩
theorem vw_X9_shown : vwM RX9 yX9_shown (.code yX9_shown cX9_shown 2 (some .int)) := ⟨gl_tb (by decide +kernel) rfl, by first | exact gl_tb (by decide +kernel) rfl | exact gl_pv (by decide +kernel) rfl, gl_tb (by decide +kernel) rfl, gl_tb (by decide +kernel) rfl⟩
theorem vw_X9_keepPicture : vwM RX9 yX9_keepPicture (.code yX9_keepPicture cX9_keepPicture 2 none) := ⟨gl_tb (by decide +kernel) rfl, by first | exact gl_tb (by decide +kernel) rfl | exact gl_pv (by decide +kernel) rfl, gl_tb (by decide +kernel) rfl, gl_tb (by decide +kernel) rfl⟩
theorem vw_X9_others : vwM RX9 yX9_others (.code yX9_others cX9_others 3 (some .int)) := ⟨gl_tb (by decide +kernel) rfl, by first | exact gl_tb (by decide +kernel) rfl | exact gl_pv (by decide +kernel) rfl, gl_tb (by decide +kernel) rfl, gl_tb (by decide +kernel) rfl⟩
theorem vw_X9_clear : vwM RX9 yX9_clear (.code yX9_clear cX9_clear 3 (some .int)) := ⟨gl_tb (by decide +kernel) rfl, by first | exact gl_tb (by decide +kernel) rfl | exact gl_pv (by decide +kernel) rfl, gl_tb (by decide +kernel) rfl, gl_tb (by decide +kernel) rfl⟩
theorem vw_X9_dropLeases : vwM RX9 yX9_dropLeases (.code yX9_dropLeases cX9_dropLeases 4 none) := ⟨gl_tb (by decide +kernel) rfl, by first | exact gl_tb (by decide +kernel) rfl | exact gl_pv (by decide +kernel) rfl, gl_tb (by decide +kernel) rfl, gl_tb (by decide +kernel) rfl⟩
theorem vw_X9_pass : vwM RX9 yX9_pass (.code yX9_pass cX9_pass 2 (some .int)) := ⟨gl_tb (by decide +kernel) rfl, by first | exact gl_tb (by decide +kernel) rfl | exact gl_pv (by decide +kernel) rfl, gl_tb (by decide +kernel) rfl, gl_tb (by decide +kernel) rfl⟩
theorem vw_X9_append : vwM RX9 yX9_append (.code yX9_append cX9_append 2 (some .int)) := ⟨gl_tb (by decide +kernel) rfl, by first | exact gl_tb (by decide +kernel) rfl | exact gl_pv (by decide +kernel) rfl, gl_tb (by decide +kernel) rfl, gl_tb (by decide +kernel) rfl⟩
theorem vw_X9_clearBuffer : vwM RX9 yX9_clearBuffer (.code yX9_clearBuffer cX9_clearBuffer 2 (some .int)) := ⟨gl_tb (by decide +kernel) rfl, by first | exact gl_tb (by decide +kernel) rfl | exact gl_pv (by decide +kernel) rfl, gl_tb (by decide +kernel) rfl, gl_tb (by decide +kernel) rfl⟩
theorem vw_X9_takes : vwM RX9 yX9_takes (.code yX9_takes cX9_takes 4 (some .boolean)) := ⟨gl_tb (by decide +kernel) rfl, by first | exact gl_tb (by decide +kernel) rfl | exact gl_pv (by decide +kernel) rfl, gl_tb (by decide +kernel) rfl, gl_tb (by decide +kernel) rfl⟩
theorem vw_X9_read : vwM RX9 yX9_read (.code yX9_read cX9_read 2 (some .int)) := ⟨gl_tb (by decide +kernel) rfl, by first | exact gl_tb (by decide +kernel) rfl | exact gl_pv (by decide +kernel) rfl, gl_tb (by decide +kernel) rfl, gl_tb (by decide +kernel) rfl⟩
theorem vw_X9_firstError : vwM RX9 yX9_firstError (.code yX9_firstError cX9_firstError 1 (some .int)) := ⟨gl_tb (by decide +kernel) rfl, by first | exact gl_tb (by decide +kernel) rfl | exact gl_pv (by decide +kernel) rfl, gl_tb (by decide +kernel) rfl, gl_tb (by decide +kernel) rfl⟩
theorem vw_X9_isPath : vwM RX9 yX9_isPath (.code yX9_isPath cX9_isPath 1 (some .boolean)) := ⟨gl_tb (by decide +kernel) rfl, by first | exact gl_tb (by decide +kernel) rfl | exact gl_pv (by decide +kernel) rfl, gl_tb (by decide +kernel) rfl, gl_tb (by decide +kernel) rfl⟩
theorem vw_X9_rounded : vwS yX9_rounded (.code yX9_rounded cX9_rounded 2 (some .int)) := ⟨gl_tb (by decide +kernel) rfl, gl_tb (by decide +kernel) rfl, gl_tb (by decide +kernel) rfl⟩
theorem vw_X9_addCell : vwM RX9 yX9_addCell (.code yX9_addCell cX9_addCell 2 none) := ⟨gl_tb (by decide +kernel) rfl, by first | exact gl_tb (by decide +kernel) rfl | exact gl_pv (by decide +kernel) rfl, gl_tb (by decide +kernel) rfl, gl_tb (by decide +kernel) rfl⟩
theorem vw_X9_addLine : vwM RX9 yX9_addLine (.code yX9_addLine cX9_addLine 9 none) := ⟨gl_tb (by decide +kernel) rfl, by first | exact gl_tb (by decide +kernel) rfl | exact gl_pv (by decide +kernel) rfl, gl_tb (by decide +kernel) rfl, gl_tb (by decide +kernel) rfl⟩
theorem vw_X9_isInLease : vwM RX9 yX9_isInLease (.code yX9_isInLease cX9_isInLease 8 (some .boolean)) := ⟨gl_tb (by decide +kernel) rfl, by first | exact gl_tb (by decide +kernel) rfl | exact gl_pv (by decide +kernel) rfl, gl_tb (by decide +kernel) rfl, gl_tb (by decide +kernel) rfl⟩
theorem vw_X9_isClosed : vwM RX9 yX9_isClosed (.code yX9_isClosed cX9_isClosed 5 (some .boolean)) := ⟨gl_tb (by decide +kernel) rfl, by first | exact gl_tb (by decide +kernel) rfl | exact gl_pv (by decide +kernel) rfl, gl_tb (by decide +kernel) rfl, gl_tb (by decide +kernel) rfl⟩
theorem vw_X9_freshCells : vwM RX9 yX9_freshCells (.code yX9_freshCells cX9_freshCells 2 none) := ⟨gl_tb (by decide +kernel) rfl, by first | exact gl_tb (by decide +kernel) rfl | exact gl_pv (by decide +kernel) rfl, gl_tb (by decide +kernel) rfl, gl_tb (by decide +kernel) rfl⟩
theorem vw_X9_add : vwM RX9 yX9_add (.code yX9_add cX9_add 7 (some .int)) := ⟨gl_tb (by decide +kernel) rfl, by first | exact gl_tb (by decide +kernel) rfl | exact gl_pv (by decide +kernel) rfl, gl_tb (by decide +kernel) rfl, gl_tb (by decide +kernel) rfl⟩
theorem vw_X9_layPath : vwM RX9 yX9_layPath (.code yX9_layPath cX9_layPath 2 none) := ⟨gl_tb (by decide +kernel) rfl, by first | exact gl_tb (by decide +kernel) rfl | exact gl_pv (by decide +kernel) rfl, gl_tb (by decide +kernel) rfl, gl_tb (by decide +kernel) rfl⟩
theorem vw_X9_isPlace : vwS yX9_isPlace (.code yX9_isPlace cX9_isPlace 2 (some .boolean)) := ⟨gl_tb (by decide +kernel) rfl, gl_tb (by decide +kernel) rfl, gl_tb (by decide +kernel) rfl⟩
theorem vw_X9_stroke : vwM RX9 yX9_stroke (.code yX9_stroke cX9_stroke 5 (some .int)) := ⟨gl_tb (by decide +kernel) rfl, by first | exact gl_tb (by decide +kernel) rfl | exact gl_pv (by decide +kernel) rfl, gl_tb (by decide +kernel) rfl, gl_tb (by decide +kernel) rfl⟩
theorem vw_X9_erase : vwM RX9 yX9_erase (.code yX9_erase cX9_erase 4 (some .int)) := ⟨gl_tb (by decide +kernel) rfl, by first | exact gl_tb (by decide +kernel) rfl | exact gl_pv (by decide +kernel) rfl, gl_tb (by decide +kernel) rfl, gl_tb (by decide +kernel) rfl⟩
theorem vw_X9_isInRegion : vwM RX9 yX9_isInRegion (.code yX9_isInRegion cX9_isInRegion 2 (some .boolean)) := ⟨gl_tb (by decide +kernel) rfl, by first | exact gl_tb (by decide +kernel) rfl | exact gl_pv (by decide +kernel) rfl, gl_tb (by decide +kernel) rfl, gl_tb (by decide +kernel) rfl⟩
theorem vw_X9_isBeside : vwM RX9 yX9_isBeside (.code yX9_isBeside cX9_isBeside 6 (some .boolean)) := ⟨gl_tb (by decide +kernel) rfl, by first | exact gl_tb (by decide +kernel) rfl | exact gl_pv (by decide +kernel) rfl, gl_tb (by decide +kernel) rfl, gl_tb (by decide +kernel) rfl⟩
theorem vw_X9_isTouched : vwM RX9 yX9_isTouched (.code yX9_isTouched cX9_isTouched 4 (some .boolean)) := ⟨gl_tb (by decide +kernel) rfl, by first | exact gl_tb (by decide +kernel) rfl | exact gl_pv (by decide +kernel) rfl, gl_tb (by decide +kernel) rfl, gl_tb (by decide +kernel) rfl⟩
theorem vw_X9_put : vwM RX9 yX9_put (.code yX9_put cX9_put 2 none) := ⟨gl_tb (by decide +kernel) rfl, by first | exact gl_tb (by decide +kernel) rfl | exact gl_pv (by decide +kernel) rfl, gl_tb (by decide +kernel) rfl, gl_tb (by decide +kernel) rfl⟩
theorem vw_X9_layRegion : vwM RX9 yX9_layRegion (.code yX9_layRegion cX9_layRegion 6 none) := ⟨gl_tb (by decide +kernel) rfl, by first | exact gl_tb (by decide +kernel) rfl | exact gl_pv (by decide +kernel) rfl, gl_tb (by decide +kernel) rfl, gl_tb (by decide +kernel) rfl⟩
theorem vw_X9_fill : vwM RX9 yX9_fill (.code yX9_fill cX9_fill 6 (some .int)) := ⟨gl_tb (by decide +kernel) rfl, by first | exact gl_tb (by decide +kernel) rfl | exact gl_pv (by decide +kernel) rfl, gl_tb (by decide +kernel) rfl, gl_tb (by decide +kernel) rfl⟩
theorem vw_X9_latestOf : vwM RX9 yX9_latestOf (.code yX9_latestOf cX9_latestOf 3 (some .int)) := ⟨gl_tb (by decide +kernel) rfl, by first | exact gl_tb (by decide +kernel) rfl | exact gl_pv (by decide +kernel) rfl, gl_tb (by decide +kernel) rfl, gl_tb (by decide +kernel) rfl⟩
theorem vw_X9_undo : vwM RX9 yX9_undo (.code yX9_undo cX9_undo 3 (some .int)) := ⟨gl_tb (by decide +kernel) rfl, by first | exact gl_tb (by decide +kernel) rfl | exact gl_pv (by decide +kernel) rfl, gl_tb (by decide +kernel) rfl, gl_tb (by decide +kernel) rfl⟩
theorem vw_X9_redoOf : vwM RX9 yX9_redoOf (.code yX9_redoOf cX9_redoOf 5 (some .int)) := ⟨gl_tb (by decide +kernel) rfl, by first | exact gl_tb (by decide +kernel) rfl | exact gl_pv (by decide +kernel) rfl, gl_tb (by decide +kernel) rfl, gl_tb (by decide +kernel) rfl⟩
theorem vw_X9_redo : vwM RX9 yX9_redo (.code yX9_redo cX9_redo 3 (some .int)) := ⟨gl_tb (by decide +kernel) rfl, by first | exact gl_tb (by decide +kernel) rfl | exact gl_pv (by decide +kernel) rfl, gl_tb (by decide +kernel) rfl, gl_tb (by decide +kernel) rfl⟩
theorem vw_X9_mayLease : vwM RX9 yX9_mayLease (.code yX9_mayLease cX9_mayLease 4 (some .boolean)) := ⟨gl_tb (by decide +kernel) rfl, by first | exact gl_tb (by decide +kernel) rfl | exact gl_pv (by decide +kernel) rfl, gl_tb (by decide +kernel) rfl, gl_tb (by decide +kernel) rfl⟩
theorem vw_X9_lease : vwM RX9 yX9_lease (.code yX9_lease cX9_lease 5 (some .int)) := ⟨gl_tb (by decide +kernel) rfl, by first | exact gl_tb (by decide +kernel) rfl | exact gl_pv (by decide +kernel) rfl, gl_tb (by decide +kernel) rfl, gl_tb (by decide +kernel) rfl⟩
theorem vw_X9_leasesOf : vwM RX9 yX9_leasesOf (.code yX9_leasesOf cX9_leasesOf 4 (some .int)) := ⟨gl_tb (by decide +kernel) rfl, by first | exact gl_tb (by decide +kernel) rfl | exact gl_pv (by decide +kernel) rfl, gl_tb (by decide +kernel) rfl, gl_tb (by decide +kernel) rfl⟩
theorem vw_X9_release : vwM RX9 yX9_release (.code yX9_release cX9_release 3 (some .int)) := ⟨gl_tb (by decide +kernel) rfl, by first | exact gl_tb (by decide +kernel) rfl | exact gl_pv (by decide +kernel) rfl, gl_tb (by decide +kernel) rfl, gl_tb (by decide +kernel) rfl⟩
theorem vw_X9_holderOf : vwM RX9 yX9_holderOf (.code yX9_holderOf cX9_holderOf 5 (some .int)) := ⟨gl_tb (by decide +kernel) rfl, by first | exact gl_tb (by decide +kernel) rfl | exact gl_pv (by decide +kernel) rfl, gl_tb (by decide +kernel) rfl, gl_tb (by decide +kernel) rfl⟩
theorem vw_X9_holder : vwM RX9 yX9_holder (.code yX9_holder cX9_holder 2 (some .int)) := ⟨gl_tb (by decide +kernel) rfl, by first | exact gl_tb (by decide +kernel) rfl | exact gl_pv (by decide +kernel) rfl, gl_tb (by decide +kernel) rfl, gl_tb (by decide +kernel) rfl⟩
theorem vw_X9_setMark : vwM RX9 yX9_setMark (.code yX9_setMark cX9_setMark 3 (some .int)) := ⟨gl_tb (by decide +kernel) rfl, by first | exact gl_tb (by decide +kernel) rfl | exact gl_pv (by decide +kernel) rfl, gl_tb (by decide +kernel) rfl, gl_tb (by decide +kernel) rfl⟩
theorem vw_X9_wasActive : vwM RX9 yX9_wasActive (.code yX9_wasActive cX9_wasActive 3 (some .boolean)) := ⟨gl_tb (by decide +kernel) rfl, by first | exact gl_tb (by decide +kernel) rfl | exact gl_pv (by decide +kernel) rfl, gl_tb (by decide +kernel) rfl, gl_tb (by decide +kernel) rfl⟩
theorem vw_X9_layMark : vwM RX9 yX9_layMark (.code yX9_layMark cX9_layMark 3 none) := ⟨gl_tb (by decide +kernel) rfl, by first | exact gl_tb (by decide +kernel) rfl | exact gl_pv (by decide +kernel) rfl, gl_tb (by decide +kernel) rfl, gl_tb (by decide +kernel) rfl⟩
theorem vw_X9_replay : vwM RX9 yX9_replay (.code yX9_replay cX9_replay 3 (some .int)) := ⟨gl_tb (by decide +kernel) rfl, by first | exact gl_tb (by decide +kernel) rfl | exact gl_pv (by decide +kernel) rfl, gl_tb (by decide +kernel) rfl, gl_tb (by decide +kernel) rfl⟩
theorem vw_X9_differenceNow : vwM RX9 yX9_differenceNow (.code yX9_differenceNow cX9_differenceNow 2 (some .int)) := ⟨gl_tb (by decide +kernel) rfl, by first | exact gl_tb (by decide +kernel) rfl | exact gl_pv (by decide +kernel) rfl, gl_tb (by decide +kernel) rfl, gl_tb (by decide +kernel) rfl⟩
theorem vw_X9_difference : vwM RX9 yX9_difference (.code yX9_difference cX9_difference 2 (some .int)) := ⟨gl_tb (by decide +kernel) rfl, by first | exact gl_tb (by decide +kernel) rfl | exact gl_pv (by decide +kernel) rfl, gl_tb (by decide +kernel) rfl, gl_tb (by decide +kernel) rfl⟩
theorem vw_X9_rewind : vwM RX9 yX9_rewind (.code yX9_rewind cX9_rewind 4 (some .int)) := ⟨gl_tb (by decide +kernel) rfl, by first | exact gl_tb (by decide +kernel) rfl | exact gl_pv (by decide +kernel) rfl, gl_tb (by decide +kernel) rfl, gl_tb (by decide +kernel) rfl⟩
theorem vw_X9_color : vwM RX9 yX9_color (.code yX9_color cX9_color 2 (some .int)) := ⟨gl_tb (by decide +kernel) rfl, by first | exact gl_tb (by decide +kernel) rfl | exact gl_pv (by decide +kernel) rfl, gl_tb (by decide +kernel) rfl, gl_tb (by decide +kernel) rfl⟩
theorem vw_X9_colorLater : vwM RX9 yX9_colorLater (.code yX9_colorLater cX9_colorLater 3 (some .int)) := ⟨gl_tb (by decide +kernel) rfl, by first | exact gl_tb (by decide +kernel) rfl | exact gl_pv (by decide +kernel) rfl, gl_tb (by decide +kernel) rfl, gl_tb (by decide +kernel) rfl⟩
theorem vw_X9_top : vwM RX9 yX9_top (.code yX9_top cX9_top 2 (some .int)) := ⟨gl_tb (by decide +kernel) rfl, by first | exact gl_tb (by decide +kernel) rfl | exact gl_pv (by decide +kernel) rfl, gl_tb (by decide +kernel) rfl, gl_tb (by decide +kernel) rfl⟩
theorem vw_X9_actives : vwM RX9 yX9_actives (.code yX9_actives cX9_actives 3 (some .int)) := ⟨gl_tb (by decide +kernel) rfl, by first | exact gl_tb (by decide +kernel) rfl | exact gl_pv (by decide +kernel) rfl, gl_tb (by decide +kernel) rfl, gl_tb (by decide +kernel) rfl⟩
theorem vw_X9_colored : vwM RX9 yX9_colored (.code yX9_colored cX9_colored 3 (some .int)) := ⟨gl_tb (by decide +kernel) rfl, by first | exact gl_tb (by decide +kernel) rfl | exact gl_pv (by decide +kernel) rfl, gl_tb (by decide +kernel) rfl, gl_tb (by decide +kernel) rfl⟩
theorem vw_X9_colors : vwM RX9 yX9_colors (.code yX9_colors cX9_colors 3 (some .int)) := ⟨gl_tb (by decide +kernel) rfl, by first | exact gl_tb (by decide +kernel) rfl | exact gl_pv (by decide +kernel) rfl, gl_tb (by decide +kernel) rfl, gl_tb (by decide +kernel) rfl⟩
theorem vw_X9_held : vwM RX9 yX9_held (.code yX9_held cX9_held 3 (some .int)) := ⟨gl_tb (by decide +kernel) rfl, by first | exact gl_tb (by decide +kernel) rfl | exact gl_pv (by decide +kernel) rfl, gl_tb (by decide +kernel) rfl, gl_tb (by decide +kernel) rfl⟩
theorem vw_X9_marks : vwM RX9 yX9_marks (.code yX9_marks cX9_marks 3 (some .int)) := ⟨gl_tb (by decide +kernel) rfl, by first | exact gl_tb (by decide +kernel) rfl | exact gl_pv (by decide +kernel) rfl, gl_tb (by decide +kernel) rfl, gl_tb (by decide +kernel) rfl⟩
theorem vw_X9_onTop : vwM RX9 yX9_onTop (.code yX9_onTop cX9_onTop 4 (some .int)) := ⟨gl_tb (by decide +kernel) rfl, by first | exact gl_tb (by decide +kernel) rfl | exact gl_pv (by decide +kernel) rfl, gl_tb (by decide +kernel) rfl, gl_tb (by decide +kernel) rfl⟩
theorem vw_X9_covered : vwM RX9 yX9_covered (.code yX9_covered cX9_covered 3 (some .int)) := ⟨gl_tb (by decide +kernel) rfl, by first | exact gl_tb (by decide +kernel) rfl | exact gl_pv (by decide +kernel) rfl, gl_tb (by decide +kernel) rfl, gl_tb (by decide +kernel) rfl⟩
theorem vw_X9_meetRegion : vwM RX9 yX9_meetRegion (.code yX9_meetRegion cX9_meetRegion 2 none) := ⟨gl_tb (by decide +kernel) rfl, by first | exact gl_tb (by decide +kernel) rfl | exact gl_pv (by decide +kernel) rfl, gl_tb (by decide +kernel) rfl, gl_tb (by decide +kernel) rfl⟩
theorem vw_X9_parts : vwM RX9 yX9_parts (.code yX9_parts cX9_parts 4 (some .int)) := ⟨gl_tb (by decide +kernel) rfl, by first | exact gl_tb (by decide +kernel) rfl | exact gl_pv (by decide +kernel) rfl, gl_tb (by decide +kernel) rfl, gl_tb (by decide +kernel) rfl⟩
theorem vw_X9_counted : vwM RX9 yX9_counted (.code yX9_counted cX9_counted 2 (some .int)) := ⟨gl_tb (by decide +kernel) rfl, by first | exact gl_tb (by decide +kernel) rfl | exact gl_pv (by decide +kernel) rfl, gl_tb (by decide +kernel) rfl, gl_tb (by decide +kernel) rfl⟩
theorem vw_X9_count : vwM RX9 yX9_count (.code yX9_count cX9_count 2 (some .int)) := ⟨gl_tb (by decide +kernel) rfl, by first | exact gl_tb (by decide +kernel) rfl | exact gl_pv (by decide +kernel) rfl, gl_tb (by decide +kernel) rfl, gl_tb (by decide +kernel) rfl⟩
theorem vw_X9_strength : vwM RX9 yX9_strength (.code yX9_strength cX9_strength 2 (some .int)) := ⟨gl_tb (by decide +kernel) rfl, by first | exact gl_tb (by decide +kernel) rfl | exact gl_pv (by decide +kernel) rfl, gl_tb (by decide +kernel) rfl, gl_tb (by decide +kernel) rfl⟩
theorem vw_X9_told : vwM RX9 yX9_told (.code yX9_told cX9_told 3 (some .int)) := ⟨gl_tb (by decide +kernel) rfl, by first | exact gl_tb (by decide +kernel) rfl | exact gl_pv (by decide +kernel) rfl, gl_tb (by decide +kernel) rfl, gl_tb (by decide +kernel) rfl⟩
theorem vw_X9_operation : vwM RX9 yX9_operation (.code yX9_operation cX9_operation 3 (some .int)) := ⟨gl_tb (by decide +kernel) rfl, by first | exact gl_tb (by decide +kernel) rfl | exact gl_pv (by decide +kernel) rfl, gl_tb (by decide +kernel) rfl, gl_tb (by decide +kernel) rfl⟩
theorem vw_X9_ifSwitched : vwM RX9 yX9_ifSwitched (.code yX9_ifSwitched cX9_ifSwitched 2 (some .int)) := ⟨gl_tb (by decide +kernel) rfl, by first | exact gl_tb (by decide +kernel) rfl | exact gl_pv (by decide +kernel) rfl, gl_tb (by decide +kernel) rfl, gl_tb (by decide +kernel) rfl⟩
theorem vw_X9_userNow : vwM RX9 yX9_userNow (.code yX9_userNow cX9_userNow 6 (some .int)) := ⟨gl_tb (by decide +kernel) rfl, by first | exact gl_tb (by decide +kernel) rfl | exact gl_pv (by decide +kernel) rfl, gl_tb (by decide +kernel) rfl, gl_tb (by decide +kernel) rfl⟩
theorem vw_X9_user : vwM RX9 yX9_user (.code yX9_user cX9_user 3 (some .int)) := ⟨gl_tb (by decide +kernel) rfl, by first | exact gl_tb (by decide +kernel) rfl | exact gl_pv (by decide +kernel) rfl, gl_tb (by decide +kernel) rfl, gl_tb (by decide +kernel) rfl⟩
theorem vw_X9_meanStrength : vwM RX9 yX9_meanStrength (.code yX9_meanStrength cX9_meanStrength 4 (some .double)) := ⟨gl_tb (by decide +kernel) rfl, by first | exact gl_tb (by decide +kernel) rfl | exact gl_pv (by decide +kernel) rfl, gl_tb (by decide +kernel) rfl, gl_tb (by decide +kernel) rfl⟩
theorem vw_X9_mix : vwM RX9 yX9_mix (.code yX9_mix cX9_mix 3 none) := ⟨gl_tb (by decide +kernel) rfl, by first | exact gl_tb (by decide +kernel) rfl | exact gl_pv (by decide +kernel) rfl, gl_tb (by decide +kernel) rfl, gl_tb (by decide +kernel) rfl⟩
theorem vw_X9_digest : vwM RX9 yX9_digest (.code yX9_digest cX9_digest 2 (some .long)) := ⟨gl_tb (by decide +kernel) rfl, by first | exact gl_tb (by decide +kernel) rfl | exact gl_pv (by decide +kernel) rfl, gl_tb (by decide +kernel) rfl, gl_tb (by decide +kernel) rfl⟩
