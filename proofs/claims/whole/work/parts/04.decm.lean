theorem dX8_init_0 : decode cX8_init 0 = .ok (.aload_n 0, 1) := by decide +kernel
theorem dX8_init_1 : decode cX8_init 1 = .ok (.invokespecial 1, 3) := by decide +kernel
theorem dX8_init_4 : decode cX8_init 4 = .ok (.aload_n 0, 1) := by decide +kernel
theorem dX8_init_5 : decode cX8_init 5 = .ok (.sipush 1505, 3) := by decide +kernel
theorem dX8_init_8 : decode cX8_init 8 = .ok (.newarray .int, 2) := by decide +kernel
theorem dX8_init_10 : decode cX8_init 10 = .ok (.putfield 7, 3) := by decide +kernel
theorem dX8_init_13 : decode cX8_init 13 = .ok (.aload_n 0, 1) := by decide +kernel
theorem dX8_init_14 : decode cX8_init 14 = .ok (.bipush 100, 2) := by decide +kernel
theorem dX8_init_16 : decode cX8_init 16 = .ok (.newarray .int, 2) := by decide +kernel
theorem dX8_init_18 : decode cX8_init 18 = .ok (.putfield 13, 3) := by decide +kernel
theorem dX8_init_21 : decode cX8_init 21 = .ok (.aload_n 0, 1) := by decide +kernel
theorem dX8_init_22 : decode cX8_init 22 = .ok (.bipush 100, 2) := by decide +kernel
theorem dX8_init_24 : decode cX8_init 24 = .ok (.newarray .int, 2) := by decide +kernel
theorem dX8_init_26 : decode cX8_init 26 = .ok (.putfield 16, 3) := by decide +kernel
theorem dX8_init_29 : decode cX8_init 29 = .ok (.aload_n 0, 1) := by decide +kernel
theorem dX8_init_30 : decode cX8_init 30 = .ok (.bipush 100, 2) := by decide +kernel
theorem dX8_init_32 : decode cX8_init 32 = .ok (.newarray .int, 2) := by decide +kernel
theorem dX8_init_34 : decode cX8_init 34 = .ok (.putfield 19, 3) := by decide +kernel
theorem dX8_init_37 : decode cX8_init 37 = .ok (.aload_n 0, 1) := by decide +kernel
theorem dX8_init_38 : decode cX8_init 38 = .ok (.iconst 5, 1) := by decide +kernel
theorem dX8_init_39 : decode cX8_init 39 = .ok (.newarray .boolean, 2) := by decide +kernel
theorem dX8_init_41 : decode cX8_init 41 = .ok (.putfield 22, 3) := by decide +kernel
theorem dX8_init_44 : decode cX8_init 44 = .ok (.aload_n 0, 1) := by decide +kernel
theorem dX8_init_45 : decode cX8_init 45 = .ok (.ldc2_w 26, 3) := by decide +kernel
theorem dX8_init_48 : decode cX8_init 48 = .ok (.putfield 28, 3) := by decide +kernel
theorem dX8_init_51 : decode cX8_init 51 = .ok (.aload_n 0, 1) := by decide +kernel
theorem dX8_init_52 : decode cX8_init 52 = .ok (.sipush 200, 3) := by decide +kernel
theorem dX8_init_55 : decode cX8_init 55 = .ok (.newarray .int, 2) := by decide +kernel
theorem dX8_init_57 : decode cX8_init 57 = .ok (.putfield 32, 3) := by decide +kernel
theorem dX8_init_60 : decode cX8_init 60 = .ok (.aload_n 0, 1) := by decide +kernel
theorem dX8_init_61 : decode cX8_init 61 = .ok (.sipush 200, 3) := by decide +kernel
theorem dX8_init_64 : decode cX8_init 64 = .ok (.newarray .int, 2) := by decide +kernel
theorem dX8_init_66 : decode cX8_init 66 = .ok (.putfield 35, 3) := by decide +kernel
theorem dX8_init_69 : decode cX8_init 69 = .ok (.aload_n 0, 1) := by decide +kernel
theorem dX8_init_70 : decode cX8_init 70 = .ok (.bipush 20, 2) := by decide +kernel
theorem dX8_init_72 : decode cX8_init 72 = .ok (.newarray .int, 2) := by decide +kernel
theorem dX8_init_74 : decode cX8_init 74 = .ok (.putfield 38, 3) := by decide +kernel
theorem dX8_init_77 : decode cX8_init 77 = .ok (.aload_n 0, 1) := by decide +kernel
theorem dX8_init_78 : decode cX8_init 78 = .ok (.sipush 4000, 3) := by decide +kernel
theorem dX8_init_81 : decode cX8_init 81 = .ok (.newarray .int, 2) := by decide +kernel
theorem dX8_init_83 : decode cX8_init 83 = .ok (.putfield 41, 3) := by decide +kernel
theorem dX8_init_86 : decode cX8_init 86 = .ok (.aload_n 0, 1) := by decide +kernel
theorem dX8_init_87 : decode cX8_init 87 = .ok (.bipush 20, 2) := by decide +kernel
theorem dX8_init_89 : decode cX8_init 89 = .ok (.newarray .int, 2) := by decide +kernel
theorem dX8_init_91 : decode cX8_init 91 = .ok (.putfield 44, 3) := by decide +kernel
theorem dX8_init_94 : decode cX8_init 94 = .ok (.aload_n 0, 1) := by decide +kernel
theorem dX8_init_95 : decode cX8_init 95 = .ok (.bipush 20, 2) := by decide +kernel
theorem dX8_init_97 : decode cX8_init 97 = .ok (.newarray .long, 2) := by decide +kernel
theorem dX8_init_99 : decode cX8_init 99 = .ok (.putfield 47, 3) := by decide +kernel
theorem dX8_init_102 : decode cX8_init 102 = .ok (.aload_n 0, 1) := by decide +kernel
theorem dX8_init_103 : decode cX8_init 103 = .ok (.bipush 20, 2) := by decide +kernel
theorem dX8_init_105 : decode cX8_init 105 = .ok (.newarray .long, 2) := by decide +kernel
theorem dX8_init_107 : decode cX8_init 107 = .ok (.putfield 51, 3) := by decide +kernel
theorem dX8_init_110 : decode cX8_init 110 = .ok (.aload_n 0, 1) := by decide +kernel
theorem dX8_init_111 : decode cX8_init 111 = .ok (.bipush 20, 2) := by decide +kernel
theorem dX8_init_113 : decode cX8_init 113 = .ok (.newarray .int, 2) := by decide +kernel
theorem dX8_init_115 : decode cX8_init 115 = .ok (.putfield 54, 3) := by decide +kernel
theorem dX8_init_118 : decode cX8_init 118 = .ok (.aload_n 0, 1) := by decide +kernel
theorem dX8_init_119 : decode cX8_init 119 = .ok (.bipush 22, 2) := by decide +kernel
theorem dX8_init_121 : decode cX8_init 121 = .ok (.newarray .int, 2) := by decide +kernel
theorem dX8_init_123 : decode cX8_init 123 = .ok (.putfield 57, 3) := by decide +kernel
theorem dX8_init_126 : decode cX8_init 126 = .ok (.aload_n 0, 1) := by decide +kernel
theorem dX8_init_127 : decode cX8_init 127 = .ok (.bipush 22, 2) := by decide +kernel
theorem dX8_init_129 : decode cX8_init 129 = .ok (.newarray .boolean, 2) := by decide +kernel
theorem dX8_init_131 : decode cX8_init 131 = .ok (.putfield 60, 3) := by decide +kernel
theorem dX8_init_134 : decode cX8_init 134 = .ok (.aload_n 0, 1) := by decide +kernel
theorem dX8_init_135 : decode cX8_init 135 = .ok (.bipush 22, 2) := by decide +kernel
theorem dX8_init_137 : decode cX8_init 137 = .ok (.newarray .boolean, 2) := by decide +kernel
theorem dX8_init_139 : decode cX8_init 139 = .ok (.putfield 63, 3) := by decide +kernel
theorem dX8_init_142 : decode cX8_init 142 = .ok (.aload_n 0, 1) := by decide +kernel
theorem dX8_init_143 : decode cX8_init 143 = .ok (.sipush 300, 3) := by decide +kernel
theorem dX8_init_146 : decode cX8_init 146 = .ok (.newarray .int, 2) := by decide +kernel
theorem dX8_init_148 : decode cX8_init 148 = .ok (.putfield 66, 3) := by decide +kernel
theorem dX8_init_151 : decode cX8_init 151 = .ok (.aload_n 0, 1) := by decide +kernel
theorem dX8_init_152 : decode cX8_init 152 = .ok (.sipush 300, 3) := by decide +kernel
theorem dX8_init_155 : decode cX8_init 155 = .ok (.newarray .int, 2) := by decide +kernel
theorem dX8_init_157 : decode cX8_init 157 = .ok (.putfield 69, 3) := by decide +kernel
theorem dX8_init_160 : decode cX8_init 160 = .ok (.aload_n 0, 1) := by decide +kernel
theorem dX8_init_161 : decode cX8_init 161 = .ok (.sipush 300, 3) := by decide +kernel
theorem dX8_init_164 : decode cX8_init 164 = .ok (.newarray .int, 2) := by decide +kernel
theorem dX8_init_166 : decode cX8_init 166 = .ok (.putfield 72, 3) := by decide +kernel
theorem dX8_init_169 : decode cX8_init 169 = .ok (.aload_n 0, 1) := by decide +kernel
theorem dX8_init_170 : decode cX8_init 170 = .ok (.sipush 300, 3) := by decide +kernel
theorem dX8_init_173 : decode cX8_init 173 = .ok (.newarray .int, 2) := by decide +kernel
theorem dX8_init_175 : decode cX8_init 175 = .ok (.putfield 75, 3) := by decide +kernel
theorem dX8_init_178 : decode cX8_init 178 = .ok (.aload_n 0, 1) := by decide +kernel
theorem dX8_init_179 : decode cX8_init 179 = .ok (.sipush 301, 3) := by decide +kernel
theorem dX8_init_182 : decode cX8_init 182 = .ok (.newarray .boolean, 2) := by decide +kernel
theorem dX8_init_184 : decode cX8_init 184 = .ok (.putfield 78, 3) := by decide +kernel
theorem dX8_init_187 : decode cX8_init 187 = .ok (.aload_n 0, 1) := by decide +kernel
theorem dX8_init_188 : decode cX8_init 188 = .ok (.iconst 0, 1) := by decide +kernel
theorem dX8_init_189 : decode cX8_init 189 = .ok (.putfield 81, 3) := by decide +kernel
theorem dX8_init_192 : decode cX8_init 192 = .ok (.return_, 1) := by decide +kernel
theorem dX8_within_0 : decode cX8_within 0 = .ok (.lload_n 0, 1) := by decide +kernel
theorem dX8_within_1 : decode cX8_within 1 = .ok (.lload_n 2, 1) := by decide +kernel
theorem dX8_within_2 : decode cX8_within 2 = .ok (.lcmp, 1) := by decide +kernel
theorem dX8_within_3 : decode cX8_within 3 = .ok (.ifCond .lt 14, 3) := by decide +kernel
theorem dX8_within_6 : decode cX8_within 6 = .ok (.lload_n 0, 1) := by decide +kernel
theorem dX8_within_7 : decode cX8_within 7 = .ok (.lload 4, 2) := by decide +kernel
theorem dX8_within_9 : decode cX8_within 9 = .ok (.lcmp, 1) := by decide +kernel
theorem dX8_within_10 : decode cX8_within 10 = .ok (.ifCond .gt 7, 3) := by decide +kernel
theorem dX8_within_13 : decode cX8_within 13 = .ok (.iconst 1, 1) := by decide +kernel
theorem dX8_within_14 : decode cX8_within 14 = .ok (.goto 4, 3) := by decide +kernel
theorem dX8_within_17 : decode cX8_within 17 = .ok (.iconst 0, 1) := by decide +kernel
theorem dX8_within_18 : decode cX8_within 18 = .ok (.ireturn, 1) := by decide +kernel
theorem dX8_isAsker_0 : decode cX8_isAsker 0 = .ok (.iload_n 0, 1) := by decide +kernel
theorem dX8_isAsker_1 : decode cX8_isAsker 1 = .ok (.i2l, 1) := by decide +kernel
theorem dX8_isAsker_2 : decode cX8_isAsker 2 = .ok (.lconst 0, 1) := by decide +kernel
theorem dX8_isAsker_3 : decode cX8_isAsker 3 = .ok (.ldc2_w 88, 3) := by decide +kernel
theorem dX8_isAsker_6 : decode cX8_isAsker 6 = .ok (.invokestatic 90, 3) := by decide +kernel
theorem dX8_isAsker_9 : decode cX8_isAsker 9 = .ok (.ireturn, 1) := by decide +kernel
theorem dX8_row_0 : decode cX8_row 0 = .ok (.aload_n 0, 1) := by decide +kernel
theorem dX8_row_1 : decode cX8_row 1 = .ok (.iconst 0, 1) := by decide +kernel
theorem dX8_row_2 : decode cX8_row 2 = .ok (.putfield 85, 3) := by decide +kernel
theorem dX8_row_5 : decode cX8_row 5 = .ok (.iload_n 1, 1) := by decide +kernel
theorem dX8_row_6 : decode cX8_row 6 = .ok (.i2l, 1) := by decide +kernel
theorem dX8_row_7 : decode cX8_row 7 = .ok (.lconst 0, 1) := by decide +kernel
theorem dX8_row_8 : decode cX8_row 8 = .ok (.ldc2_w 94, 3) := by decide +kernel
theorem dX8_row_11 : decode cX8_row 11 = .ok (.invokestatic 90, 3) := by decide +kernel
theorem dX8_row_14 : decode cX8_row 14 = .ok (.ifCond .eq 52, 3) := by decide +kernel
theorem dX8_row_17 : decode cX8_row 17 = .ok (.iload_n 2, 1) := by decide +kernel
theorem dX8_row_18 : decode cX8_row 18 = .ok (.i2l, 1) := by decide +kernel
theorem dX8_row_19 : decode cX8_row 19 = .ok (.lconst 0, 1) := by decide +kernel
theorem dX8_row_20 : decode cX8_row 20 = .ok (.ldc2_w 96, 3) := by decide +kernel
theorem dX8_row_23 : decode cX8_row 23 = .ok (.invokestatic 90, 3) := by decide +kernel
theorem dX8_row_26 : decode cX8_row 26 = .ok (.ifCond .eq 40, 3) := by decide +kernel
theorem dX8_row_29 : decode cX8_row 29 = .ok (.iload_n 3, 1) := by decide +kernel
theorem dX8_row_30 : decode cX8_row 30 = .ok (.i2l, 1) := by decide +kernel
theorem dX8_row_31 : decode cX8_row 31 = .ok (.lconst 0, 1) := by decide +kernel
theorem dX8_row_32 : decode cX8_row 32 = .ok (.ldc2_w 88, 3) := by decide +kernel
theorem dX8_row_35 : decode cX8_row 35 = .ok (.invokestatic 90, 3) := by decide +kernel
theorem dX8_row_38 : decode cX8_row 38 = .ok (.ifCond .eq 28, 3) := by decide +kernel
theorem dX8_row_41 : decode cX8_row 41 = .ok (.lload 4, 2) := by decide +kernel
theorem dX8_row_43 : decode cX8_row 43 = .ok (.lconst 0, 1) := by decide +kernel
theorem dX8_row_44 : decode cX8_row 44 = .ok (.ldc2_w 98, 3) := by decide +kernel
theorem dX8_row_47 : decode cX8_row 47 = .ok (.invokestatic 90, 3) := by decide +kernel
theorem dX8_row_50 : decode cX8_row 50 = .ok (.ifCond .eq 16, 3) := by decide +kernel
theorem dX8_row_53 : decode cX8_row 53 = .ok (.iload 6, 2) := by decide +kernel
theorem dX8_row_55 : decode cX8_row 55 = .ok (.i2l, 1) := by decide +kernel
theorem dX8_row_56 : decode cX8_row 56 = .ok (.lconst 0, 1) := by decide +kernel
theorem dX8_row_57 : decode cX8_row 57 = .ok (.ldc2_w 100, 3) := by decide +kernel
theorem dX8_row_60 : decode cX8_row 60 = .ok (.invokestatic 90, 3) := by decide +kernel
theorem dX8_row_63 : decode cX8_row 63 = .ok (.ifCond .ne 6, 3) := by decide +kernel
theorem dX8_row_66 : decode cX8_row 66 = .ok (.ldc 102, 2) := by decide +kernel
theorem dX8_row_68 : decode cX8_row 68 = .ok (.ireturn, 1) := by decide +kernel
theorem dX8_row_69 : decode cX8_row 69 = .ok (.aload_n 0, 1) := by decide +kernel
theorem dX8_row_70 : decode cX8_row 70 = .ok (.getfield 81, 3) := by decide +kernel
theorem dX8_row_73 : decode cX8_row 73 = .ok (.sipush 300, 3) := by decide +kernel
theorem dX8_row_76 : decode cX8_row 76 = .ok (.if_icmp .ne 6, 3) := by decide +kernel
theorem dX8_row_79 : decode cX8_row 79 = .ok (.ldc 103, 2) := by decide +kernel
theorem dX8_row_81 : decode cX8_row 81 = .ok (.ireturn, 1) := by decide +kernel
theorem dX8_row_82 : decode cX8_row 82 = .ok (.aload_n 0, 1) := by decide +kernel
theorem dX8_row_83 : decode cX8_row 83 = .ok (.dup, 1) := by decide +kernel
theorem dX8_row_84 : decode cX8_row 84 = .ok (.getfield 81, 3) := by decide +kernel
theorem dX8_row_87 : decode cX8_row 87 = .ok (.iconst 1, 1) := by decide +kernel
theorem dX8_row_88 : decode cX8_row 88 = .ok (.iadd, 1) := by decide +kernel
theorem dX8_row_89 : decode cX8_row 89 = .ok (.putfield 81, 3) := by decide +kernel
theorem dX8_row_92 : decode cX8_row 92 = .ok (.aload_n 0, 1) := by decide +kernel
theorem dX8_row_93 : decode cX8_row 93 = .ok (.getfield 7, 3) := by decide +kernel
theorem dX8_row_96 : decode cX8_row 96 = .ok (.iconst 5, 1) := by decide +kernel
theorem dX8_row_97 : decode cX8_row 97 = .ok (.aload_n 0, 1) := by decide +kernel
theorem dX8_row_98 : decode cX8_row 98 = .ok (.getfield 81, 3) := by decide +kernel
theorem dX8_row_101 : decode cX8_row 101 = .ok (.imul, 1) := by decide +kernel
theorem dX8_row_102 : decode cX8_row 102 = .ok (.iload_n 1, 1) := by decide +kernel
theorem dX8_row_103 : decode cX8_row 103 = .ok (.iastore, 1) := by decide +kernel
theorem dX8_row_104 : decode cX8_row 104 = .ok (.aload_n 0, 1) := by decide +kernel
theorem dX8_row_105 : decode cX8_row 105 = .ok (.getfield 7, 3) := by decide +kernel
theorem dX8_row_108 : decode cX8_row 108 = .ok (.iconst 5, 1) := by decide +kernel
theorem dX8_row_109 : decode cX8_row 109 = .ok (.aload_n 0, 1) := by decide +kernel
theorem dX8_row_110 : decode cX8_row 110 = .ok (.getfield 81, 3) := by decide +kernel
theorem dX8_row_113 : decode cX8_row 113 = .ok (.imul, 1) := by decide +kernel
theorem dX8_row_114 : decode cX8_row 114 = .ok (.iconst 1, 1) := by decide +kernel
theorem dX8_row_115 : decode cX8_row 115 = .ok (.iadd, 1) := by decide +kernel
theorem dX8_row_116 : decode cX8_row 116 = .ok (.iload_n 2, 1) := by decide +kernel
theorem dX8_row_117 : decode cX8_row 117 = .ok (.iastore, 1) := by decide +kernel
theorem dX8_row_118 : decode cX8_row 118 = .ok (.aload_n 0, 1) := by decide +kernel
theorem dX8_row_119 : decode cX8_row 119 = .ok (.getfield 7, 3) := by decide +kernel
theorem dX8_row_122 : decode cX8_row 122 = .ok (.iconst 5, 1) := by decide +kernel
theorem dX8_row_123 : decode cX8_row 123 = .ok (.aload_n 0, 1) := by decide +kernel
theorem dX8_row_124 : decode cX8_row 124 = .ok (.getfield 81, 3) := by decide +kernel
theorem dX8_row_127 : decode cX8_row 127 = .ok (.imul, 1) := by decide +kernel
theorem dX8_row_128 : decode cX8_row 128 = .ok (.iconst 2, 1) := by decide +kernel
theorem dX8_row_129 : decode cX8_row 129 = .ok (.iadd, 1) := by decide +kernel
theorem dX8_row_130 : decode cX8_row 130 = .ok (.iload_n 3, 1) := by decide +kernel
theorem dX8_row_131 : decode cX8_row 131 = .ok (.iastore, 1) := by decide +kernel
theorem dX8_row_132 : decode cX8_row 132 = .ok (.aload_n 0, 1) := by decide +kernel
theorem dX8_row_133 : decode cX8_row 133 = .ok (.getfield 7, 3) := by decide +kernel
theorem dX8_row_136 : decode cX8_row 136 = .ok (.iconst 5, 1) := by decide +kernel
theorem dX8_row_137 : decode cX8_row 137 = .ok (.aload_n 0, 1) := by decide +kernel
theorem dX8_row_138 : decode cX8_row 138 = .ok (.getfield 81, 3) := by decide +kernel
theorem dX8_row_141 : decode cX8_row 141 = .ok (.imul, 1) := by decide +kernel
theorem dX8_row_142 : decode cX8_row 142 = .ok (.iconst 3, 1) := by decide +kernel
theorem dX8_row_143 : decode cX8_row 143 = .ok (.iadd, 1) := by decide +kernel
theorem dX8_row_144 : decode cX8_row 144 = .ok (.lload 4, 2) := by decide +kernel
theorem dX8_row_146 : decode cX8_row 146 = .ok (.l2i, 1) := by decide +kernel
theorem dX8_row_147 : decode cX8_row 147 = .ok (.iastore, 1) := by decide +kernel
theorem dX8_row_148 : decode cX8_row 148 = .ok (.aload_n 0, 1) := by decide +kernel
theorem dX8_row_149 : decode cX8_row 149 = .ok (.getfield 7, 3) := by decide +kernel
theorem dX8_row_152 : decode cX8_row 152 = .ok (.iconst 5, 1) := by decide +kernel
theorem dX8_row_153 : decode cX8_row 153 = .ok (.aload_n 0, 1) := by decide +kernel
theorem dX8_row_154 : decode cX8_row 154 = .ok (.getfield 81, 3) := by decide +kernel
theorem dX8_row_157 : decode cX8_row 157 = .ok (.imul, 1) := by decide +kernel
theorem dX8_row_158 : decode cX8_row 158 = .ok (.iconst 4, 1) := by decide +kernel
theorem dX8_row_159 : decode cX8_row 159 = .ok (.iadd, 1) := by decide +kernel
theorem dX8_row_160 : decode cX8_row 160 = .ok (.iload 6, 2) := by decide +kernel
theorem dX8_row_162 : decode cX8_row 162 = .ok (.iastore, 1) := by decide +kernel
theorem dX8_row_163 : decode cX8_row 163 = .ok (.aload_n 0, 1) := by decide +kernel
theorem dX8_row_164 : decode cX8_row 164 = .ok (.getfield 81, 3) := by decide +kernel
theorem dX8_row_167 : decode cX8_row 167 = .ok (.ireturn, 1) := by decide +kernel
theorem dX8_sign_0 : decode cX8_sign 0 = .ok (.aload_n 0, 1) := by decide +kernel
theorem dX8_sign_1 : decode cX8_sign 1 = .ok (.iconst 0, 1) := by decide +kernel
theorem dX8_sign_2 : decode cX8_sign 2 = .ok (.putfield 85, 3) := by decide +kernel
theorem dX8_sign_5 : decode cX8_sign 5 = .ok (.aload_n 0, 1) := by decide +kernel
theorem dX8_sign_6 : decode cX8_sign 6 = .ok (.getfield 104, 3) := by decide +kernel
theorem dX8_sign_9 : decode cX8_sign 9 = .ok (.sipush 200, 3) := by decide +kernel
theorem dX8_sign_12 : decode cX8_sign 12 = .ok (.if_icmp .ge 37, 3) := by decide +kernel
theorem dX8_sign_15 : decode cX8_sign 15 = .ok (.iload_n 1, 1) := by decide +kernel
theorem dX8_sign_16 : decode cX8_sign 16 = .ok (.i2l, 1) := by decide +kernel
theorem dX8_sign_17 : decode cX8_sign 17 = .ok (.ldc2_w 107, 3) := by decide +kernel
theorem dX8_sign_20 : decode cX8_sign 20 = .ok (.ldc2_w 109, 3) := by decide +kernel
theorem dX8_sign_23 : decode cX8_sign 23 = .ok (.invokestatic 90, 3) := by decide +kernel
theorem dX8_sign_26 : decode cX8_sign 26 = .ok (.ifCond .eq 23, 3) := by decide +kernel
theorem dX8_sign_29 : decode cX8_sign 29 = .ok (.aload_n 0, 1) := by decide +kernel
theorem dX8_sign_30 : decode cX8_sign 30 = .ok (.getfield 32, 3) := by decide +kernel
theorem dX8_sign_33 : decode cX8_sign 33 = .ok (.aload_n 0, 1) := by decide +kernel
theorem dX8_sign_34 : decode cX8_sign 34 = .ok (.getfield 104, 3) := by decide +kernel
theorem dX8_sign_37 : decode cX8_sign 37 = .ok (.iload_n 1, 1) := by decide +kernel
theorem dX8_sign_38 : decode cX8_sign 38 = .ok (.iastore, 1) := by decide +kernel
theorem dX8_sign_39 : decode cX8_sign 39 = .ok (.aload_n 0, 1) := by decide +kernel
theorem dX8_sign_40 : decode cX8_sign 40 = .ok (.dup, 1) := by decide +kernel
theorem dX8_sign_41 : decode cX8_sign 41 = .ok (.getfield 104, 3) := by decide +kernel
theorem dX8_sign_44 : decode cX8_sign 44 = .ok (.iconst 1, 1) := by decide +kernel
theorem dX8_sign_45 : decode cX8_sign 45 = .ok (.iadd, 1) := by decide +kernel
theorem dX8_sign_46 : decode cX8_sign 46 = .ok (.putfield 104, 3) := by decide +kernel
theorem dX8_sign_49 : decode cX8_sign 49 = .ok (.return_, 1) := by decide +kernel
theorem dX8_fieldOf_0 : decode cX8_fieldOf 0 = .ok (.iload_n 0, 1) := by decide +kernel
theorem dX8_fieldOf_1 : decode cX8_fieldOf 1 = .ok (.bipush 105, 2) := by decide +kernel
theorem dX8_fieldOf_3 : decode cX8_fieldOf 3 = .ok (.if_icmp .ne 7, 3) := by decide +kernel
theorem dX8_fieldOf_6 : decode cX8_fieldOf 6 = .ok (.iconst 0, 1) := by decide +kernel
theorem dX8_fieldOf_7 : decode cX8_fieldOf 7 = .ok (.goto 44, 3) := by decide +kernel
theorem dX8_fieldOf_10 : decode cX8_fieldOf 10 = .ok (.iload_n 0, 1) := by decide +kernel
theorem dX8_fieldOf_11 : decode cX8_fieldOf 11 = .ok (.bipush 107, 2) := by decide +kernel
theorem dX8_fieldOf_13 : decode cX8_fieldOf 13 = .ok (.if_icmp .ne 7, 3) := by decide +kernel
theorem dX8_fieldOf_16 : decode cX8_fieldOf 16 = .ok (.iconst 1, 1) := by decide +kernel
theorem dX8_fieldOf_17 : decode cX8_fieldOf 17 = .ok (.goto 34, 3) := by decide +kernel
theorem dX8_fieldOf_20 : decode cX8_fieldOf 20 = .ok (.iload_n 0, 1) := by decide +kernel
theorem dX8_fieldOf_21 : decode cX8_fieldOf 21 = .ok (.bipush 112, 2) := by decide +kernel
theorem dX8_fieldOf_23 : decode cX8_fieldOf 23 = .ok (.if_icmp .ne 7, 3) := by decide +kernel
theorem dX8_fieldOf_26 : decode cX8_fieldOf 26 = .ok (.iconst 2, 1) := by decide +kernel
theorem dX8_fieldOf_27 : decode cX8_fieldOf 27 = .ok (.goto 24, 3) := by decide +kernel
theorem dX8_fieldOf_30 : decode cX8_fieldOf 30 = .ok (.iload_n 0, 1) := by decide +kernel
theorem dX8_fieldOf_31 : decode cX8_fieldOf 31 = .ok (.bipush 100, 2) := by decide +kernel
theorem dX8_fieldOf_33 : decode cX8_fieldOf 33 = .ok (.if_icmp .ne 7, 3) := by decide +kernel
theorem dX8_fieldOf_36 : decode cX8_fieldOf 36 = .ok (.iconst 3, 1) := by decide +kernel
theorem dX8_fieldOf_37 : decode cX8_fieldOf 37 = .ok (.goto 14, 3) := by decide +kernel
theorem dX8_fieldOf_40 : decode cX8_fieldOf 40 = .ok (.iload_n 0, 1) := by decide +kernel
theorem dX8_fieldOf_41 : decode cX8_fieldOf 41 = .ok (.bipush 111, 2) := by decide +kernel
theorem dX8_fieldOf_43 : decode cX8_fieldOf 43 = .ok (.if_icmp .ne 7, 3) := by decide +kernel
theorem dX8_fieldOf_46 : decode cX8_fieldOf 46 = .ok (.iconst 4, 1) := by decide +kernel
theorem dX8_fieldOf_47 : decode cX8_fieldOf 47 = .ok (.goto 4, 3) := by decide +kernel
theorem dX8_fieldOf_50 : decode cX8_fieldOf 50 = .ok (.iconst (-1), 1) := by decide +kernel
theorem dX8_fieldOf_51 : decode cX8_fieldOf 51 = .ok (.ireturn, 1) := by decide +kernel
theorem dX8_isTail_0 : decode cX8_isTail 0 = .ok (.iload_n 0, 1) := by decide +kernel
theorem dX8_isTail_1 : decode cX8_isTail 1 = .ok (.bipush 35, 2) := by decide +kernel
theorem dX8_isTail_3 : decode cX8_isTail 3 = .ok (.if_icmp .eq 15, 3) := by decide +kernel
theorem dX8_isTail_6 : decode cX8_isTail 6 = .ok (.iload_n 0, 1) := by decide +kernel
theorem dX8_isTail_7 : decode cX8_isTail 7 = .ok (.bipush 43, 2) := by decide +kernel
theorem dX8_isTail_9 : decode cX8_isTail 9 = .ok (.if_icmp .eq 9, 3) := by decide +kernel
theorem dX8_isTail_12 : decode cX8_isTail 12 = .ok (.iload_n 0, 1) := by decide +kernel
theorem dX8_isTail_13 : decode cX8_isTail 13 = .ok (.bipush 45, 2) := by decide +kernel
theorem dX8_isTail_15 : decode cX8_isTail 15 = .ok (.if_icmp .ne 7, 3) := by decide +kernel
theorem dX8_isTail_18 : decode cX8_isTail 18 = .ok (.iconst 1, 1) := by decide +kernel
theorem dX8_isTail_19 : decode cX8_isTail 19 = .ok (.goto 4, 3) := by decide +kernel
theorem dX8_isTail_22 : decode cX8_isTail 22 = .ok (.iconst 0, 1) := by decide +kernel
theorem dX8_isTail_23 : decode cX8_isTail 23 = .ok (.ireturn, 1) := by decide +kernel
theorem dX8_at_0 : decode cX8_at 0 = .ok (.iload_n 3, 1) := by decide +kernel
theorem dX8_at_1 : decode cX8_at 1 = .ok (.iload_n 2, 1) := by decide +kernel
theorem dX8_at_2 : decode cX8_at 2 = .ok (.if_icmp .ge 11, 3) := by decide +kernel
theorem dX8_at_5 : decode cX8_at 5 = .ok (.aload_n 0, 1) := by decide +kernel
theorem dX8_at_6 : decode cX8_at 6 = .ok (.iload_n 1, 1) := by decide +kernel
theorem dX8_at_7 : decode cX8_at 7 = .ok (.iload_n 3, 1) := by decide +kernel
theorem dX8_at_8 : decode cX8_at 8 = .ok (.iadd, 1) := by decide +kernel
theorem dX8_at_9 : decode cX8_at 9 = .ok (.iaload, 1) := by decide +kernel
theorem dX8_at_10 : decode cX8_at 10 = .ok (.goto 4, 3) := by decide +kernel
theorem dX8_at_13 : decode cX8_at 13 = .ok (.iconst 0, 1) := by decide +kernel
theorem dX8_at_14 : decode cX8_at 14 = .ok (.ireturn, 1) := by decide +kernel
theorem dX8_overs_0 : decode cX8_overs 0 = .ok (.aload_n 0, 1) := by decide +kernel
theorem dX8_overs_1 : decode cX8_overs 1 = .ok (.getfield 57, 3) := by decide +kernel
theorem dX8_overs_4 : decode cX8_overs 4 = .ok (.aload_n 0, 1) := by decide +kernel
theorem dX8_overs_5 : decode cX8_overs 5 = .ok (.getfield 111, 3) := by decide +kernel
theorem dX8_overs_8 : decode cX8_overs 8 = .ok (.iaload, 1) := by decide +kernel
theorem dX8_overs_9 : decode cX8_overs 9 = .ok (.istore_n 1, 1) := by decide +kernel
theorem dX8_overs_10 : decode cX8_overs 10 = .ok (.aload_n 0, 1) := by decide +kernel
theorem dX8_overs_11 : decode cX8_overs 11 = .ok (.getfield 57, 3) := by decide +kernel
theorem dX8_overs_14 : decode cX8_overs 14 = .ok (.aload_n 0, 1) := by decide +kernel
theorem dX8_overs_15 : decode cX8_overs 15 = .ok (.getfield 111, 3) := by decide +kernel
theorem dX8_overs_18 : decode cX8_overs 18 = .ok (.iconst 0, 1) := by decide +kernel
theorem dX8_overs_19 : decode cX8_overs 19 = .ok (.iastore, 1) := by decide +kernel
theorem dX8_overs_20 : decode cX8_overs 20 = .ok (.iload_n 1, 1) := by decide +kernel
theorem dX8_overs_21 : decode cX8_overs 21 = .ok (.ireturn, 1) := by decide +kernel
theorem dX8_look_0 : decode cX8_look 0 = .ok (.aload_n 0, 1) := by decide +kernel
theorem dX8_look_1 : decode cX8_look 1 = .ok (.iconst (-1), 1) := by decide +kernel
theorem dX8_look_2 : decode cX8_look 2 = .ok (.putfield 114, 3) := by decide +kernel
theorem dX8_look_5 : decode cX8_look 5 = .ok (.aload_n 0, 1) := by decide +kernel
theorem dX8_look_6 : decode cX8_look 6 = .ok (.iconst 0, 1) := by decide +kernel
theorem dX8_look_7 : decode cX8_look 7 = .ok (.putfield 117, 3) := by decide +kernel
theorem dX8_look_10 : decode cX8_look 10 = .ok (.aload_n 0, 1) := by decide +kernel
theorem dX8_look_11 : decode cX8_look 11 = .ok (.iconst 0, 1) := by decide +kernel
theorem dX8_look_12 : decode cX8_look 12 = .ok (.putfield 111, 3) := by decide +kernel
theorem dX8_look_15 : decode cX8_look 15 = .ok (.aload_n 0, 1) := by decide +kernel
theorem dX8_look_16 : decode cX8_look 16 = .ok (.getfield 57, 3) := by decide +kernel
theorem dX8_look_19 : decode cX8_look 19 = .ok (.iconst 0, 1) := by decide +kernel
theorem dX8_look_20 : decode cX8_look 20 = .ok (.iconst 0, 1) := by decide +kernel
theorem dX8_look_21 : decode cX8_look 21 = .ok (.iastore, 1) := by decide +kernel
theorem dX8_look_22 : decode cX8_look 22 = .ok (.iconst 0, 1) := by decide +kernel
theorem dX8_look_23 : decode cX8_look 23 = .ok (.istore 4, 2) := by decide +kernel
theorem dX8_look_25 : decode cX8_look 25 = .ok (.iconst 0, 1) := by decide +kernel
theorem dX8_look_26 : decode cX8_look 26 = .ok (.istore 5, 2) := by decide +kernel
theorem dX8_look_28 : decode cX8_look 28 = .ok (.iload_n 3, 1) := by decide +kernel
theorem dX8_look_29 : decode cX8_look 29 = .ok (.ifCond .le 20, 3) := by decide +kernel
theorem dX8_look_32 : decode cX8_look 32 = .ok (.aload_n 1, 1) := by decide +kernel
theorem dX8_look_33 : decode cX8_look 33 = .ok (.iload_n 2, 1) := by decide +kernel
theorem dX8_look_34 : decode cX8_look 34 = .ok (.iload_n 3, 1) := by decide +kernel
theorem dX8_look_35 : decode cX8_look 35 = .ok (.iconst 0, 1) := by decide +kernel
theorem dX8_look_36 : decode cX8_look 36 = .ok (.invokestatic 120, 3) := by decide +kernel
theorem dX8_look_39 : decode cX8_look 39 = .ok (.invokestatic 124, 3) := by decide +kernel
theorem dX8_look_42 : decode cX8_look 42 = .ok (.ifCond .ne 7, 3) := by decide +kernel
theorem dX8_look_45 : decode cX8_look 45 = .ok (.iconst 1, 1) := by decide +kernel
theorem dX8_look_46 : decode cX8_look 46 = .ok (.goto 4, 3) := by decide +kernel
theorem dX8_look_49 : decode cX8_look 49 = .ok (.iconst 0, 1) := by decide +kernel
theorem dX8_look_50 : decode cX8_look 50 = .ok (.istore 6, 2) := by decide +kernel
theorem dX8_look_52 : decode cX8_look 52 = .ok (.iload 6, 2) := by decide +kernel
theorem dX8_look_54 : decode cX8_look 54 = .ok (.istore 7, 2) := by decide +kernel
theorem dX8_look_56 : decode cX8_look 56 = .ok (.iload 7, 2) := by decide +kernel
theorem dX8_look_58 : decode cX8_look 58 = .ok (.ifCond .eq 399, 3) := by decide +kernel
theorem dX8_look_61 : decode cX8_look 61 = .ok (.aload_n 0, 1) := by decide +kernel
theorem dX8_look_62 : decode cX8_look 62 = .ok (.getfield 114, 3) := by decide +kernel
theorem dX8_look_65 : decode cX8_look 65 = .ok (.ifCond .ge 392, 3) := by decide +kernel
theorem dX8_look_68 : decode cX8_look 68 = .ok (.aload_n 1, 1) := by decide +kernel
theorem dX8_look_69 : decode cX8_look 69 = .ok (.iload_n 2, 1) := by decide +kernel
theorem dX8_look_70 : decode cX8_look 70 = .ok (.iload_n 3, 1) := by decide +kernel
theorem dX8_look_71 : decode cX8_look 71 = .ok (.iload 5, 2) := by decide +kernel
theorem dX8_look_73 : decode cX8_look 73 = .ok (.invokestatic 120, 3) := by decide +kernel
theorem dX8_look_76 : decode cX8_look 76 = .ok (.istore 8, 2) := by decide +kernel
theorem dX8_look_78 : decode cX8_look 78 = .ok (.iload 6, 2) := by decide +kernel
theorem dX8_look_80 : decode cX8_look 80 = .ok (.ifCond .eq 105, 3) := by decide +kernel
theorem dX8_look_83 : decode cX8_look 83 = .ok (.iload 8, 2) := by decide +kernel
theorem dX8_look_85 : decode cX8_look 85 = .ok (.bipush 33, 2) := by decide +kernel
theorem dX8_look_87 : decode cX8_look 87 = .ok (.if_icmp .eq 10, 3) := by decide +kernel
theorem dX8_look_90 : decode cX8_look 90 = .ok (.iload 8, 2) := by decide +kernel
theorem dX8_look_92 : decode cX8_look 92 = .ok (.bipush 40, 2) := by decide +kernel
theorem dX8_look_94 : decode cX8_look 94 = .ok (.if_icmp .ne 91, 3) := by decide +kernel
theorem dX8_look_97 : decode cX8_look 97 = .ok (.aload_n 0, 1) := by decide +kernel
theorem dX8_look_98 : decode cX8_look 98 = .ok (.iload 4, 2) := by decide +kernel
theorem dX8_look_100 : decode cX8_look 100 = .ok (.bipush 20, 2) := by decide +kernel
theorem dX8_look_102 : decode cX8_look 102 = .ok (.if_icmp .ne 8, 3) := by decide +kernel
theorem dX8_look_105 : decode cX8_look 105 = .ok (.iload 5, 2) := by decide +kernel
theorem dX8_look_107 : decode cX8_look 107 = .ok (.goto 4, 3) := by decide +kernel
theorem dX8_look_110 : decode cX8_look 110 = .ok (.iconst (-1), 1) := by decide +kernel
theorem dX8_look_111 : decode cX8_look 111 = .ok (.putfield 114, 3) := by decide +kernel
theorem dX8_look_114 : decode cX8_look 114 = .ok (.iinc 4 1, 3) := by decide +kernel
theorem dX8_look_117 : decode cX8_look 117 = .ok (.iload 8, 2) := by decide +kernel
theorem dX8_look_119 : decode cX8_look 119 = .ok (.bipush 33, 2) := by decide +kernel
theorem dX8_look_121 : decode cX8_look 121 = .ok (.if_icmp .ne 19, 3) := by decide +kernel
theorem dX8_look_124 : decode cX8_look 124 = .ok (.aload_n 0, 1) := by decide +kernel
theorem dX8_look_125 : decode cX8_look 125 = .ok (.getfield 57, 3) := by decide +kernel
theorem dX8_look_128 : decode cX8_look 128 = .ok (.aload_n 0, 1) := by decide +kernel
theorem dX8_look_129 : decode cX8_look 129 = .ok (.getfield 111, 3) := by decide +kernel
theorem dX8_look_132 : decode cX8_look 132 = .ok (.dup2, 1) := by decide +kernel
theorem dX8_look_133 : decode cX8_look 133 = .ok (.iaload, 1) := by decide +kernel
theorem dX8_look_134 : decode cX8_look 134 = .ok (.iconst 1, 1) := by decide +kernel
theorem dX8_look_135 : decode cX8_look 135 = .ok (.iadd, 1) := by decide +kernel
theorem dX8_look_136 : decode cX8_look 136 = .ok (.iastore, 1) := by decide +kernel
theorem dX8_look_137 : decode cX8_look 137 = .ok (.goto 42, 3) := by decide +kernel
theorem dX8_look_140 : decode cX8_look 140 = .ok (.aload_n 0, 1) := by decide +kernel
theorem dX8_look_141 : decode cX8_look 141 = .ok (.dup, 1) := by decide +kernel
theorem dX8_look_142 : decode cX8_look 142 = .ok (.getfield 111, 3) := by decide +kernel
theorem dX8_look_145 : decode cX8_look 145 = .ok (.iconst 1, 1) := by decide +kernel
theorem dX8_look_146 : decode cX8_look 146 = .ok (.iadd, 1) := by decide +kernel
theorem dX8_look_147 : decode cX8_look 147 = .ok (.putfield 111, 3) := by decide +kernel
theorem dX8_look_150 : decode cX8_look 150 = .ok (.aload_n 0, 1) := by decide +kernel
theorem dX8_look_151 : decode cX8_look 151 = .ok (.getfield 57, 3) := by decide +kernel
theorem dX8_look_154 : decode cX8_look 154 = .ok (.aload_n 0, 1) := by decide +kernel
theorem dX8_look_155 : decode cX8_look 155 = .ok (.getfield 111, 3) := by decide +kernel
theorem dX8_look_158 : decode cX8_look 158 = .ok (.aload_n 0, 1) := by decide +kernel
theorem dX8_look_159 : decode cX8_look 159 = .ok (.getfield 114, 3) := by decide +kernel
theorem dX8_look_162 : decode cX8_look 162 = .ok (.ifCond .ge 7, 3) := by decide +kernel
theorem dX8_look_165 : decode cX8_look 165 = .ok (.iconst 0, 1) := by decide +kernel
theorem dX8_look_166 : decode cX8_look 166 = .ok (.goto 12, 3) := by decide +kernel
theorem dX8_look_169 : decode cX8_look 169 = .ok (.aload_n 0, 1) := by decide +kernel
theorem dX8_look_170 : decode cX8_look 170 = .ok (.getfield 57, 3) := by decide +kernel
theorem dX8_look_173 : decode cX8_look 173 = .ok (.aload_n 0, 1) := by decide +kernel
theorem dX8_look_174 : decode cX8_look 174 = .ok (.getfield 111, 3) := by decide +kernel
theorem dX8_look_177 : decode cX8_look 177 = .ok (.iaload, 1) := by decide +kernel
theorem dX8_look_178 : decode cX8_look 178 = .ok (.iastore, 1) := by decide +kernel
theorem dX8_look_179 : decode cX8_look 179 = .ok (.iinc 5 1, 3) := by decide +kernel
theorem dX8_look_182 : decode cX8_look 182 = .ok (.goto 272, 3) := by decide +kernel
theorem dX8_look_185 : decode cX8_look 185 = .ok (.iload 6, 2) := by decide +kernel
theorem dX8_look_187 : decode cX8_look 187 = .ok (.ifCond .eq 200, 3) := by decide +kernel
theorem dX8_look_190 : decode cX8_look 190 = .ok (.iload 8, 2) := by decide +kernel
theorem dX8_look_192 : decode cX8_look 192 = .ok (.invokestatic 128, 3) := by decide +kernel
theorem dX8_look_195 : decode cX8_look 195 = .ok (.istore 9, 2) := by decide +kernel
theorem dX8_look_197 : decode cX8_look 197 = .ok (.aload_n 0, 1) := by decide +kernel
theorem dX8_look_198 : decode cX8_look 198 = .ok (.iload 9, 2) := by decide +kernel
theorem dX8_look_200 : decode cX8_look 200 = .ok (.ifCond .lt 22, 3) := by decide +kernel
theorem dX8_look_203 : decode cX8_look 203 = .ok (.aload_n 0, 1) := by decide +kernel
theorem dX8_look_204 : decode cX8_look 204 = .ok (.getfield 22, 3) := by decide +kernel
theorem dX8_look_207 : decode cX8_look 207 = .ok (.iload 9, 2) := by decide +kernel
theorem dX8_look_209 : decode cX8_look 209 = .ok (.baload, 1) := by decide +kernel
theorem dX8_look_210 : decode cX8_look 210 = .ok (.ifCond .ne 12, 3) := by decide +kernel
theorem dX8_look_213 : decode cX8_look 213 = .ok (.aload_n 0, 1) := by decide +kernel
theorem dX8_look_214 : decode cX8_look 214 = .ok (.getfield 117, 3) := by decide +kernel
theorem dX8_look_217 : decode cX8_look 217 = .ok (.bipush 40, 2) := by decide +kernel
theorem dX8_look_219 : decode cX8_look 219 = .ok (.if_icmp .ne 8, 3) := by decide +kernel
theorem dX8_look_222 : decode cX8_look 222 = .ok (.iload 5, 2) := by decide +kernel
theorem dX8_look_224 : decode cX8_look 224 = .ok (.goto 4, 3) := by decide +kernel
theorem dX8_look_227 : decode cX8_look 227 = .ok (.iconst (-1), 1) := by decide +kernel
theorem dX8_look_228 : decode cX8_look 228 = .ok (.putfield 114, 3) := by decide +kernel
theorem dX8_look_231 : decode cX8_look 231 = .ok (.aload_n 1, 1) := by decide +kernel
theorem dX8_look_232 : decode cX8_look 232 = .ok (.iload_n 2, 1) := by decide +kernel
theorem dX8_look_233 : decode cX8_look 233 = .ok (.iload_n 3, 1) := by decide +kernel
theorem dX8_look_234 : decode cX8_look 234 = .ok (.iload 5, 2) := by decide +kernel
theorem dX8_look_236 : decode cX8_look 236 = .ok (.iconst 1, 1) := by decide +kernel
theorem dX8_look_237 : decode cX8_look 237 = .ok (.iadd, 1) := by decide +kernel
theorem dX8_look_238 : decode cX8_look 238 = .ok (.invokestatic 120, 3) := by decide +kernel
theorem dX8_look_241 : decode cX8_look 241 = .ok (.istore 10, 2) := by decide +kernel
theorem dX8_look_243 : decode cX8_look 243 = .ok (.aload_n 0, 1) := by decide +kernel
theorem dX8_look_244 : decode cX8_look 244 = .ok (.aload_n 0, 1) := by decide +kernel
theorem dX8_look_245 : decode cX8_look 245 = .ok (.getfield 114, 3) := by decide +kernel
theorem dX8_look_248 : decode cX8_look 248 = .ok (.ifCond .ge 31, 3) := by decide +kernel
theorem dX8_look_251 : decode cX8_look 251 = .ok (.iload 10, 2) := by decide +kernel
theorem dX8_look_253 : decode cX8_look 253 = .ok (.bipush 61, 2) := by decide +kernel
theorem dX8_look_255 : decode cX8_look 255 = .ok (.if_icmp .eq 24, 3) := by decide +kernel
theorem dX8_look_258 : decode cX8_look 258 = .ok (.iload 10, 2) := by decide +kernel
theorem dX8_look_260 : decode cX8_look 260 = .ok (.bipush 60, 2) := by decide +kernel
theorem dX8_look_262 : decode cX8_look 262 = .ok (.if_icmp .eq 17, 3) := by decide +kernel
theorem dX8_look_265 : decode cX8_look 265 = .ok (.iload 10, 2) := by decide +kernel
theorem dX8_look_267 : decode cX8_look 267 = .ok (.bipush 62, 2) := by decide +kernel
theorem dX8_look_269 : decode cX8_look 269 = .ok (.if_icmp .eq 10, 3) := by decide +kernel
theorem dX8_look_272 : decode cX8_look 272 = .ok (.iload 5, 2) := by decide +kernel
theorem dX8_look_274 : decode cX8_look 274 = .ok (.iconst 1, 1) := by decide +kernel
theorem dX8_look_275 : decode cX8_look 275 = .ok (.iadd, 1) := by decide +kernel
theorem dX8_look_276 : decode cX8_look 276 = .ok (.goto 7, 3) := by decide +kernel
theorem dX8_look_279 : decode cX8_look 279 = .ok (.aload_n 0, 1) := by decide +kernel
theorem dX8_look_280 : decode cX8_look 280 = .ok (.getfield 114, 3) := by decide +kernel
theorem dX8_look_283 : decode cX8_look 283 = .ok (.putfield 114, 3) := by decide +kernel
theorem dX8_look_286 : decode cX8_look 286 = .ok (.iload 5, 2) := by decide +kernel
theorem dX8_look_288 : decode cX8_look 288 = .ok (.iconst 2, 1) := by decide +kernel
theorem dX8_look_289 : decode cX8_look 289 = .ok (.iadd, 1) := by decide +kernel
theorem dX8_look_290 : decode cX8_look 290 = .ok (.istore 11, 2) := by decide +kernel
theorem dX8_look_292 : decode cX8_look 292 = .ok (.iload 11, 2) := by decide +kernel
theorem dX8_look_294 : decode cX8_look 294 = .ok (.iload 5, 2) := by decide +kernel
theorem dX8_look_296 : decode cX8_look 296 = .ok (.bipush 7, 2) := by decide +kernel
theorem dX8_look_298 : decode cX8_look 298 = .ok (.iadd, 1) := by decide +kernel
theorem dX8_look_299 : decode cX8_look 299 = .ok (.if_icmp .ge 30, 3) := by decide +kernel
theorem dX8_look_302 : decode cX8_look 302 = .ok (.aload_n 1, 1) := by decide +kernel
theorem dX8_look_303 : decode cX8_look 303 = .ok (.iload_n 2, 1) := by decide +kernel
theorem dX8_look_304 : decode cX8_look 304 = .ok (.iload_n 3, 1) := by decide +kernel
theorem dX8_look_305 : decode cX8_look 305 = .ok (.iload 11, 2) := by decide +kernel
theorem dX8_look_307 : decode cX8_look 307 = .ok (.invokestatic 120, 3) := by decide +kernel
theorem dX8_look_310 : decode cX8_look 310 = .ok (.i2l, 1) := by decide +kernel
theorem dX8_look_311 : decode cX8_look 311 = .ok (.ldc2_w 132, 3) := by decide +kernel
theorem dX8_look_314 : decode cX8_look 314 = .ok (.ldc2_w 134, 3) := by decide +kernel
theorem dX8_look_317 : decode cX8_look 317 = .ok (.invokestatic 90, 3) := by decide +kernel
theorem dX8_look_320 : decode cX8_look 320 = .ok (.ifCond .eq 9, 3) := by decide +kernel
theorem dX8_look_323 : decode cX8_look 323 = .ok (.iinc 11 1, 3) := by decide +kernel
theorem dX8_look_326 : decode cX8_look 326 = .ok (.goto (-34), 3) := by decide +kernel
theorem dX8_look_329 : decode cX8_look 329 = .ok (.aload_n 0, 1) := by decide +kernel
theorem dX8_look_330 : decode cX8_look 330 = .ok (.aload_n 0, 1) := by decide +kernel
theorem dX8_look_331 : decode cX8_look 331 = .ok (.getfield 114, 3) := by decide +kernel
theorem dX8_look_334 : decode cX8_look 334 = .ok (.ifCond .ge 17, 3) := by decide +kernel
theorem dX8_look_337 : decode cX8_look 337 = .ok (.iload 11, 2) := by decide +kernel
theorem dX8_look_339 : decode cX8_look 339 = .ok (.iload 5, 2) := by decide +kernel
theorem dX8_look_341 : decode cX8_look 341 = .ok (.iconst 2, 1) := by decide +kernel
theorem dX8_look_342 : decode cX8_look 342 = .ok (.iadd, 1) := by decide +kernel
theorem dX8_look_343 : decode cX8_look 343 = .ok (.if_icmp .ne 8, 3) := by decide +kernel
theorem dX8_look_346 : decode cX8_look 346 = .ok (.iload 11, 2) := by decide +kernel
theorem dX8_look_348 : decode cX8_look 348 = .ok (.goto 7, 3) := by decide +kernel
theorem dX8_look_351 : decode cX8_look 351 = .ok (.aload_n 0, 1) := by decide +kernel
theorem dX8_look_352 : decode cX8_look 352 = .ok (.getfield 114, 3) := by decide +kernel
theorem dX8_look_355 : decode cX8_look 355 = .ok (.putfield 114, 3) := by decide +kernel
theorem dX8_look_358 : decode cX8_look 358 = .ok (.iload 11, 2) := by decide +kernel
theorem dX8_look_360 : decode cX8_look 360 = .ok (.istore 5, 2) := by decide +kernel
theorem dX8_look_362 : decode cX8_look 362 = .ok (.aload_n 0, 1) := by decide +kernel
theorem dX8_look_363 : decode cX8_look 363 = .ok (.dup, 1) := by decide +kernel
theorem dX8_look_364 : decode cX8_look 364 = .ok (.getfield 117, 3) := by decide +kernel
theorem dX8_look_367 : decode cX8_look 367 = .ok (.iconst 1, 1) := by decide +kernel
theorem dX8_look_368 : decode cX8_look 368 = .ok (.iadd, 1) := by decide +kernel
theorem dX8_look_369 : decode cX8_look 369 = .ok (.putfield 117, 3) := by decide +kernel
theorem dX8_look_372 : decode cX8_look 372 = .ok (.iload 4, 2) := by decide +kernel
theorem dX8_look_374 : decode cX8_look 374 = .ok (.aload_n 0, 1) := by decide +kernel
theorem dX8_look_375 : decode cX8_look 375 = .ok (.invokevirtual 136, 3) := by decide +kernel
theorem dX8_look_378 : decode cX8_look 378 = .ok (.isub, 1) := by decide +kernel
theorem dX8_look_379 : decode cX8_look 379 = .ok (.istore 4, 2) := by decide +kernel
theorem dX8_look_381 : decode cX8_look 381 = .ok (.iconst 0, 1) := by decide +kernel
theorem dX8_look_382 : decode cX8_look 382 = .ok (.istore 6, 2) := by decide +kernel
theorem dX8_look_384 : decode cX8_look 384 = .ok (.goto 70, 3) := by decide +kernel
theorem dX8_look_387 : decode cX8_look 387 = .ok (.iload 8, 2) := by decide +kernel
theorem dX8_look_389 : decode cX8_look 389 = .ok (.bipush 38, 2) := by decide +kernel
theorem dX8_look_391 : decode cX8_look 391 = .ok (.if_icmp .eq 10, 3) := by decide +kernel
theorem dX8_look_394 : decode cX8_look 394 = .ok (.iload 8, 2) := by decide +kernel
theorem dX8_look_396 : decode cX8_look 396 = .ok (.bipush 124, 2) := by decide +kernel
theorem dX8_look_398 : decode cX8_look 398 = .ok (.if_icmp .ne 12, 3) := by decide +kernel
theorem dX8_look_401 : decode cX8_look 401 = .ok (.iinc 5 1, 3) := by decide +kernel
theorem dX8_look_404 : decode cX8_look 404 = .ok (.iconst 1, 1) := by decide +kernel
theorem dX8_look_405 : decode cX8_look 405 = .ok (.istore 6, 2) := by decide +kernel
theorem dX8_look_407 : decode cX8_look 407 = .ok (.goto 47, 3) := by decide +kernel
theorem dX8_look_410 : decode cX8_look 410 = .ok (.iload 8, 2) := by decide +kernel
theorem dX8_look_412 : decode cX8_look 412 = .ok (.bipush 41, 2) := by decide +kernel
theorem dX8_look_414 : decode cX8_look 414 = .ok (.if_icmp .ne 37, 3) := by decide +kernel
theorem dX8_look_417 : decode cX8_look 417 = .ok (.aload_n 0, 1) := by decide +kernel
theorem dX8_look_418 : decode cX8_look 418 = .ok (.getfield 111, 3) := by decide +kernel
theorem dX8_look_421 : decode cX8_look 421 = .ok (.ifCond .le 30, 3) := by decide +kernel
theorem dX8_look_424 : decode cX8_look 424 = .ok (.iinc 5 1, 3) := by decide +kernel
theorem dX8_look_427 : decode cX8_look 427 = .ok (.aload_n 0, 1) := by decide +kernel
theorem dX8_look_428 : decode cX8_look 428 = .ok (.dup, 1) := by decide +kernel
theorem dX8_look_429 : decode cX8_look 429 = .ok (.getfield 111, 3) := by decide +kernel
theorem dX8_look_432 : decode cX8_look 432 = .ok (.iconst 1, 1) := by decide +kernel
theorem dX8_look_433 : decode cX8_look 433 = .ok (.isub, 1) := by decide +kernel
theorem dX8_look_434 : decode cX8_look 434 = .ok (.putfield 111, 3) := by decide +kernel
theorem dX8_look_437 : decode cX8_look 437 = .ok (.iload 4, 2) := by decide +kernel
theorem dX8_look_439 : decode cX8_look 439 = .ok (.iconst 1, 1) := by decide +kernel
theorem dX8_look_440 : decode cX8_look 440 = .ok (.isub, 1) := by decide +kernel
theorem dX8_look_441 : decode cX8_look 441 = .ok (.aload_n 0, 1) := by decide +kernel
theorem dX8_look_442 : decode cX8_look 442 = .ok (.invokevirtual 136, 3) := by decide +kernel
theorem dX8_look_445 : decode cX8_look 445 = .ok (.isub, 1) := by decide +kernel
theorem dX8_look_446 : decode cX8_look 446 = .ok (.istore 4, 2) := by decide +kernel
theorem dX8_look_448 : decode cX8_look 448 = .ok (.goto 6, 3) := by decide +kernel
theorem dX8_look_451 : decode cX8_look 451 = .ok (.iconst 0, 1) := by decide +kernel
theorem dX8_look_452 : decode cX8_look 452 = .ok (.istore 7, 2) := by decide +kernel
theorem dX8_look_454 : decode cX8_look 454 = .ok (.goto (-398), 3) := by decide +kernel
theorem dX8_look_457 : decode cX8_look 457 = .ok (.aload_n 0, 1) := by decide +kernel
theorem dX8_look_458 : decode cX8_look 458 = .ok (.iload 5, 2) := by decide +kernel
theorem dX8_look_460 : decode cX8_look 460 = .ok (.putfield 140, 3) := by decide +kernel
theorem dX8_look_463 : decode cX8_look 463 = .ok (.aload_n 0, 1) := by decide +kernel
theorem dX8_look_464 : decode cX8_look 464 = .ok (.getfield 114, 3) := by decide +kernel
theorem dX8_look_467 : decode cX8_look 467 = .ok (.ifCond .ge 16, 3) := by decide +kernel
theorem dX8_look_470 : decode cX8_look 470 = .ok (.aload_n 0, 1) := by decide +kernel
theorem dX8_look_471 : decode cX8_look 471 = .ok (.getfield 111, 3) := by decide +kernel
theorem dX8_look_474 : decode cX8_look 474 = .ok (.ifCond .le 9, 3) := by decide +kernel
theorem dX8_look_477 : decode cX8_look 477 = .ok (.aload_n 0, 1) := by decide +kernel
theorem dX8_look_478 : decode cX8_look 478 = .ok (.iload 5, 2) := by decide +kernel
theorem dX8_look_480 : decode cX8_look 480 = .ok (.putfield 114, 3) := by decide +kernel
theorem dX8_look_483 : decode cX8_look 483 = .ok (.aload_n 0, 1) := by decide +kernel
theorem dX8_look_484 : decode cX8_look 484 = .ok (.getfield 114, 3) := by decide +kernel
theorem dX8_look_487 : decode cX8_look 487 = .ok (.ifCond .ge 16, 3) := by decide +kernel
theorem dX8_look_490 : decode cX8_look 490 = .ok (.iload 5, 2) := by decide +kernel
theorem dX8_look_492 : decode cX8_look 492 = .ok (.iload_n 3, 1) := by decide +kernel
theorem dX8_look_493 : decode cX8_look 493 = .ok (.if_icmp .ge 10, 3) := by decide +kernel
theorem dX8_look_496 : decode cX8_look 496 = .ok (.aload_n 0, 1) := by decide +kernel
theorem dX8_look_497 : decode cX8_look 497 = .ok (.aload_n 1, 1) := by decide +kernel
theorem dX8_look_498 : decode cX8_look 498 = .ok (.iload_n 2, 1) := by decide +kernel
theorem dX8_look_499 : decode cX8_look 499 = .ok (.iload_n 3, 1) := by decide +kernel
theorem dX8_look_500 : decode cX8_look 500 = .ok (.invokevirtual 143, 3) := by decide +kernel
theorem dX8_look_503 : decode cX8_look 503 = .ok (.aload_n 0, 1) := by decide +kernel
theorem dX8_look_504 : decode cX8_look 504 = .ok (.aload_n 0, 1) := by decide +kernel
theorem dX8_look_505 : decode cX8_look 505 = .ok (.getfield 114, 3) := by decide +kernel
theorem dX8_look_508 : decode cX8_look 508 = .ok (.iload_n 3, 1) := by decide +kernel
theorem dX8_look_509 : decode cX8_look 509 = .ok (.if_icmp .le 7, 3) := by decide +kernel
theorem dX8_look_512 : decode cX8_look 512 = .ok (.iload_n 3, 1) := by decide +kernel
theorem dX8_look_513 : decode cX8_look 513 = .ok (.goto 7, 3) := by decide +kernel
theorem dX8_look_516 : decode cX8_look 516 = .ok (.aload_n 0, 1) := by decide +kernel
theorem dX8_look_517 : decode cX8_look 517 = .ok (.getfield 114, 3) := by decide +kernel
theorem dX8_look_520 : decode cX8_look 520 = .ok (.putfield 114, 3) := by decide +kernel
theorem dX8_look_523 : decode cX8_look 523 = .ok (.return_, 1) := by decide +kernel
theorem dX8_lookAtTail_0 : decode cX8_lookAtTail 0 = .ok (.aload_n 1, 1) := by decide +kernel
theorem dX8_lookAtTail_1 : decode cX8_lookAtTail 1 = .ok (.iload_n 2, 1) := by decide +kernel
theorem dX8_lookAtTail_2 : decode cX8_lookAtTail 2 = .ok (.iload_n 3, 1) := by decide +kernel
theorem dX8_lookAtTail_3 : decode cX8_lookAtTail 3 = .ok (.aload_n 0, 1) := by decide +kernel
theorem dX8_lookAtTail_4 : decode cX8_lookAtTail 4 = .ok (.getfield 140, 3) := by decide +kernel
theorem dX8_lookAtTail_7 : decode cX8_lookAtTail 7 = .ok (.invokestatic 120, 3) := by decide +kernel
theorem dX8_lookAtTail_10 : decode cX8_lookAtTail 10 = .ok (.invokestatic 124, 3) := by decide +kernel
theorem dX8_lookAtTail_13 : decode cX8_lookAtTail 13 = .ok (.ifCond .ne 12, 3) := by decide +kernel
theorem dX8_lookAtTail_16 : decode cX8_lookAtTail 16 = .ok (.aload_n 0, 1) := by decide +kernel
theorem dX8_lookAtTail_17 : decode cX8_lookAtTail 17 = .ok (.aload_n 0, 1) := by decide +kernel
theorem dX8_lookAtTail_18 : decode cX8_lookAtTail 18 = .ok (.getfield 140, 3) := by decide +kernel
theorem dX8_lookAtTail_21 : decode cX8_lookAtTail 21 = .ok (.putfield 114, 3) := by decide +kernel
theorem dX8_lookAtTail_24 : decode cX8_lookAtTail 24 = .ok (.return_, 1) := by decide +kernel
theorem dX8_lookAtTail_25 : decode cX8_lookAtTail 25 = .ok (.aload_n 1, 1) := by decide +kernel
theorem dX8_lookAtTail_26 : decode cX8_lookAtTail 26 = .ok (.iload_n 2, 1) := by decide +kernel
theorem dX8_lookAtTail_27 : decode cX8_lookAtTail 27 = .ok (.iload_n 3, 1) := by decide +kernel
theorem dX8_lookAtTail_28 : decode cX8_lookAtTail 28 = .ok (.aload_n 0, 1) := by decide +kernel
theorem dX8_lookAtTail_29 : decode cX8_lookAtTail 29 = .ok (.getfield 140, 3) := by decide +kernel
theorem dX8_lookAtTail_32 : decode cX8_lookAtTail 32 = .ok (.iconst 1, 1) := by decide +kernel
theorem dX8_lookAtTail_33 : decode cX8_lookAtTail 33 = .ok (.iadd, 1) := by decide +kernel
theorem dX8_lookAtTail_34 : decode cX8_lookAtTail 34 = .ok (.invokestatic 120, 3) := by decide +kernel
theorem dX8_lookAtTail_37 : decode cX8_lookAtTail 37 = .ok (.invokestatic 128, 3) := by decide +kernel
theorem dX8_lookAtTail_40 : decode cX8_lookAtTail 40 = .ok (.istore 4, 2) := by decide +kernel
theorem dX8_lookAtTail_42 : decode cX8_lookAtTail 42 = .ok (.aload_n 0, 1) := by decide +kernel
theorem dX8_lookAtTail_43 : decode cX8_lookAtTail 43 = .ok (.iload 4, 2) := by decide +kernel
theorem dX8_lookAtTail_45 : decode cX8_lookAtTail 45 = .ok (.ifCond .lt 13, 3) := by decide +kernel
theorem dX8_lookAtTail_48 : decode cX8_lookAtTail 48 = .ok (.aload_n 0, 1) := by decide +kernel
theorem dX8_lookAtTail_49 : decode cX8_lookAtTail 49 = .ok (.getfield 22, 3) := by decide +kernel
theorem dX8_lookAtTail_52 : decode cX8_lookAtTail 52 = .ok (.iload 4, 2) := by decide +kernel
theorem dX8_lookAtTail_54 : decode cX8_lookAtTail 54 = .ok (.baload, 1) := by decide +kernel
theorem dX8_lookAtTail_55 : decode cX8_lookAtTail 55 = .ok (.ifCond .eq 12, 3) := by decide +kernel
theorem dX8_lookAtTail_58 : decode cX8_lookAtTail 58 = .ok (.aload_n 0, 1) := by decide +kernel
theorem dX8_lookAtTail_59 : decode cX8_lookAtTail 59 = .ok (.getfield 140, 3) := by decide +kernel
theorem dX8_lookAtTail_62 : decode cX8_lookAtTail 62 = .ok (.iconst 1, 1) := by decide +kernel
theorem dX8_lookAtTail_63 : decode cX8_lookAtTail 63 = .ok (.iadd, 1) := by decide +kernel
theorem dX8_lookAtTail_64 : decode cX8_lookAtTail 64 = .ok (.goto 23, 3) := by decide +kernel
theorem dX8_lookAtTail_67 : decode cX8_lookAtTail 67 = .ok (.aload_n 0, 1) := by decide +kernel
theorem dX8_lookAtTail_68 : decode cX8_lookAtTail 68 = .ok (.getfield 140, 3) := by decide +kernel
theorem dX8_lookAtTail_71 : decode cX8_lookAtTail 71 = .ok (.iconst 2, 1) := by decide +kernel
theorem dX8_lookAtTail_72 : decode cX8_lookAtTail 72 = .ok (.iadd, 1) := by decide +kernel
theorem dX8_lookAtTail_73 : decode cX8_lookAtTail 73 = .ok (.iload_n 3, 1) := by decide +kernel
theorem dX8_lookAtTail_74 : decode cX8_lookAtTail 74 = .ok (.if_icmp .ge 12, 3) := by decide +kernel
theorem dX8_lookAtTail_77 : decode cX8_lookAtTail 77 = .ok (.aload_n 0, 1) := by decide +kernel
theorem dX8_lookAtTail_78 : decode cX8_lookAtTail 78 = .ok (.getfield 140, 3) := by decide +kernel
theorem dX8_lookAtTail_81 : decode cX8_lookAtTail 81 = .ok (.iconst 2, 1) := by decide +kernel
theorem dX8_lookAtTail_82 : decode cX8_lookAtTail 82 = .ok (.iadd, 1) := by decide +kernel
theorem dX8_lookAtTail_83 : decode cX8_lookAtTail 83 = .ok (.goto 4, 3) := by decide +kernel
theorem dX8_lookAtTail_86 : decode cX8_lookAtTail 86 = .ok (.iconst (-1), 1) := by decide +kernel
theorem dX8_lookAtTail_87 : decode cX8_lookAtTail 87 = .ok (.putfield 114, 3) := by decide +kernel
theorem dX8_lookAtTail_90 : decode cX8_lookAtTail 90 = .ok (.return_, 1) := by decide +kernel
theorem dX8_field_0 : decode cX8_field 0 = .ok (.aload_n 0, 1) := by decide +kernel
theorem dX8_field_1 : decode cX8_field 1 = .ok (.getfield 7, 3) := by decide +kernel
theorem dX8_field_4 : decode cX8_field 4 = .ok (.iconst 5, 1) := by decide +kernel
theorem dX8_field_5 : decode cX8_field 5 = .ok (.iload_n 1, 1) := by decide +kernel
theorem dX8_field_6 : decode cX8_field 6 = .ok (.imul, 1) := by decide +kernel
theorem dX8_field_7 : decode cX8_field 7 = .ok (.iload_n 2, 1) := by decide +kernel
theorem dX8_field_8 : decode cX8_field 8 = .ok (.iadd, 1) := by decide +kernel
theorem dX8_field_9 : decode cX8_field 9 = .ok (.iaload, 1) := by decide +kernel
theorem dX8_field_10 : decode cX8_field 10 = .ok (.ireturn, 1) := by decide +kernel
theorem dX8_test_0 : decode cX8_test 0 = .ok (.aload_n 0, 1) := by decide +kernel
theorem dX8_test_1 : decode cX8_test 1 = .ok (.getfield 57, 3) := by decide +kernel
theorem dX8_test_4 : decode cX8_test 4 = .ok (.aload_n 0, 1) := by decide +kernel
theorem dX8_test_5 : decode cX8_test 5 = .ok (.getfield 111, 3) := by decide +kernel
theorem dX8_test_8 : decode cX8_test 8 = .ok (.iaload, 1) := by decide +kernel
theorem dX8_test_9 : decode cX8_test 9 = .ok (.iconst 2, 1) := by decide +kernel
theorem dX8_test_10 : decode cX8_test 10 = .ok (.irem, 1) := by decide +kernel
theorem dX8_test_11 : decode cX8_test 11 = .ok (.iconst 1, 1) := by decide +kernel
theorem dX8_test_12 : decode cX8_test 12 = .ok (.if_icmp .ne 7, 3) := by decide +kernel
theorem dX8_test_15 : decode cX8_test 15 = .ok (.iconst 1, 1) := by decide +kernel
theorem dX8_test_16 : decode cX8_test 16 = .ok (.goto 4, 3) := by decide +kernel
theorem dX8_test_19 : decode cX8_test 19 = .ok (.iconst 0, 1) := by decide +kernel
theorem dX8_test_20 : decode cX8_test 20 = .ok (.istore_n 2, 1) := by decide +kernel
theorem dX8_test_21 : decode cX8_test 21 = .ok (.aload_n 0, 1) := by decide +kernel
theorem dX8_test_22 : decode cX8_test 22 = .ok (.getfield 57, 3) := by decide +kernel
theorem dX8_test_25 : decode cX8_test 25 = .ok (.aload_n 0, 1) := by decide +kernel
theorem dX8_test_26 : decode cX8_test 26 = .ok (.getfield 111, 3) := by decide +kernel
theorem dX8_test_29 : decode cX8_test 29 = .ok (.iconst 0, 1) := by decide +kernel
theorem dX8_test_30 : decode cX8_test 30 = .ok (.iastore, 1) := by decide +kernel
theorem dX8_test_31 : decode cX8_test 31 = .ok (.aload_n 0, 1) := by decide +kernel
theorem dX8_test_32 : decode cX8_test 32 = .ok (.getfield 63, 3) := by decide +kernel
theorem dX8_test_35 : decode cX8_test 35 = .ok (.aload_n 0, 1) := by decide +kernel
theorem dX8_test_36 : decode cX8_test 36 = .ok (.getfield 111, 3) := by decide +kernel
theorem dX8_test_39 : decode cX8_test 39 = .ok (.aload_n 0, 1) := by decide +kernel
theorem dX8_test_40 : decode cX8_test 40 = .ok (.getfield 63, 3) := by decide +kernel
theorem dX8_test_43 : decode cX8_test 43 = .ok (.aload_n 0, 1) := by decide +kernel
theorem dX8_test_44 : decode cX8_test 44 = .ok (.getfield 111, 3) := by decide +kernel
theorem dX8_test_47 : decode cX8_test 47 = .ok (.baload, 1) := by decide +kernel
theorem dX8_test_48 : decode cX8_test 48 = .ok (.ifCond .eq 12, 3) := by decide +kernel
theorem dX8_test_51 : decode cX8_test 51 = .ok (.iload_n 1, 1) := by decide +kernel
theorem dX8_test_52 : decode cX8_test 52 = .ok (.iload_n 2, 1) := by decide +kernel
theorem dX8_test_53 : decode cX8_test 53 = .ok (.if_icmp .eq 7, 3) := by decide +kernel
theorem dX8_test_56 : decode cX8_test 56 = .ok (.iconst 1, 1) := by decide +kernel
theorem dX8_test_57 : decode cX8_test 57 = .ok (.goto 4, 3) := by decide +kernel
theorem dX8_test_60 : decode cX8_test 60 = .ok (.iconst 0, 1) := by decide +kernel
theorem dX8_test_61 : decode cX8_test 61 = .ok (.bastore, 1) := by decide +kernel
theorem dX8_test_62 : decode cX8_test 62 = .ok (.return_, 1) := by decide +kernel
theorem dX8_isTrue_0 : decode cX8_isTrue 0 = .ok (.aload_n 0, 1) := by decide +kernel
theorem dX8_isTrue_1 : decode cX8_isTrue 1 = .ok (.iconst 0, 1) := by decide +kernel
theorem dX8_isTrue_2 : decode cX8_isTrue 2 = .ok (.putfield 111, 3) := by decide +kernel
theorem dX8_isTrue_5 : decode cX8_isTrue 5 = .ok (.aload_n 0, 1) := by decide +kernel
theorem dX8_isTrue_6 : decode cX8_isTrue 6 = .ok (.getfield 57, 3) := by decide +kernel
theorem dX8_isTrue_9 : decode cX8_isTrue 9 = .ok (.iconst 0, 1) := by decide +kernel
theorem dX8_isTrue_10 : decode cX8_isTrue 10 = .ok (.iconst 0, 1) := by decide +kernel
theorem dX8_isTrue_11 : decode cX8_isTrue 11 = .ok (.iastore, 1) := by decide +kernel
theorem dX8_isTrue_12 : decode cX8_isTrue 12 = .ok (.aload_n 0, 1) := by decide +kernel
theorem dX8_isTrue_13 : decode cX8_isTrue 13 = .ok (.getfield 60, 3) := by decide +kernel
theorem dX8_isTrue_16 : decode cX8_isTrue 16 = .ok (.iconst 0, 1) := by decide +kernel
theorem dX8_isTrue_17 : decode cX8_isTrue 17 = .ok (.iconst 0, 1) := by decide +kernel
theorem dX8_isTrue_18 : decode cX8_isTrue 18 = .ok (.bastore, 1) := by decide +kernel
theorem dX8_isTrue_19 : decode cX8_isTrue 19 = .ok (.aload_n 0, 1) := by decide +kernel
theorem dX8_isTrue_20 : decode cX8_isTrue 20 = .ok (.getfield 63, 3) := by decide +kernel
theorem dX8_isTrue_23 : decode cX8_isTrue 23 = .ok (.iconst 0, 1) := by decide +kernel
theorem dX8_isTrue_24 : decode cX8_isTrue 24 = .ok (.iconst 1, 1) := by decide +kernel
theorem dX8_isTrue_25 : decode cX8_isTrue 25 = .ok (.bastore, 1) := by decide +kernel
theorem dX8_isTrue_26 : decode cX8_isTrue 26 = .ok (.iconst 0, 1) := by decide +kernel
theorem dX8_isTrue_27 : decode cX8_isTrue 27 = .ok (.istore 4, 2) := by decide +kernel
theorem dX8_isTrue_29 : decode cX8_isTrue 29 = .ok (.iload 4, 2) := by decide +kernel
theorem dX8_isTrue_31 : decode cX8_isTrue 31 = .ok (.aload_n 0, 1) := by decide +kernel
theorem dX8_isTrue_32 : decode cX8_isTrue 32 = .ok (.getfield 140, 3) := by decide +kernel
theorem dX8_isTrue_35 : decode cX8_isTrue 35 = .ok (.if_icmp .ge 349, 3) := by decide +kernel
theorem dX8_isTrue_38 : decode cX8_isTrue 38 = .ok (.aload_n 1, 1) := by decide +kernel
theorem dX8_isTrue_39 : decode cX8_isTrue 39 = .ok (.iload_n 2, 1) := by decide +kernel
theorem dX8_isTrue_40 : decode cX8_isTrue 40 = .ok (.iload 4, 2) := by decide +kernel
theorem dX8_isTrue_42 : decode cX8_isTrue 42 = .ok (.iadd, 1) := by decide +kernel
theorem dX8_isTrue_43 : decode cX8_isTrue 43 = .ok (.iaload, 1) := by decide +kernel
theorem dX8_isTrue_44 : decode cX8_isTrue 44 = .ok (.istore 5, 2) := by decide +kernel
theorem dX8_isTrue_46 : decode cX8_isTrue 46 = .ok (.iinc 4 1, 3) := by decide +kernel
theorem dX8_isTrue_49 : decode cX8_isTrue 49 = .ok (.iload 5, 2) := by decide +kernel
theorem dX8_isTrue_51 : decode cX8_isTrue 51 = .ok (.bipush 33, 2) := by decide +kernel
theorem dX8_isTrue_53 : decode cX8_isTrue 53 = .ok (.if_icmp .ne 19, 3) := by decide +kernel
theorem dX8_isTrue_56 : decode cX8_isTrue 56 = .ok (.aload_n 0, 1) := by decide +kernel
theorem dX8_isTrue_57 : decode cX8_isTrue 57 = .ok (.getfield 57, 3) := by decide +kernel
theorem dX8_isTrue_60 : decode cX8_isTrue 60 = .ok (.aload_n 0, 1) := by decide +kernel
theorem dX8_isTrue_61 : decode cX8_isTrue 61 = .ok (.getfield 111, 3) := by decide +kernel
theorem dX8_isTrue_64 : decode cX8_isTrue 64 = .ok (.dup2, 1) := by decide +kernel
theorem dX8_isTrue_65 : decode cX8_isTrue 65 = .ok (.iaload, 1) := by decide +kernel
theorem dX8_isTrue_66 : decode cX8_isTrue 66 = .ok (.iconst 1, 1) := by decide +kernel
theorem dX8_isTrue_67 : decode cX8_isTrue 67 = .ok (.iadd, 1) := by decide +kernel
theorem dX8_isTrue_68 : decode cX8_isTrue 68 = .ok (.iastore, 1) := by decide +kernel
theorem dX8_isTrue_69 : decode cX8_isTrue 69 = .ok (.goto 312, 3) := by decide +kernel
theorem dX8_isTrue_72 : decode cX8_isTrue 72 = .ok (.iload 5, 2) := by decide +kernel
theorem dX8_isTrue_74 : decode cX8_isTrue 74 = .ok (.bipush 40, 2) := by decide +kernel
theorem dX8_isTrue_76 : decode cX8_isTrue 76 = .ok (.if_icmp .ne 46, 3) := by decide +kernel
theorem dX8_isTrue_79 : decode cX8_isTrue 79 = .ok (.aload_n 0, 1) := by decide +kernel
theorem dX8_isTrue_80 : decode cX8_isTrue 80 = .ok (.dup, 1) := by decide +kernel
theorem dX8_isTrue_81 : decode cX8_isTrue 81 = .ok (.getfield 111, 3) := by decide +kernel
theorem dX8_isTrue_84 : decode cX8_isTrue 84 = .ok (.iconst 1, 1) := by decide +kernel
theorem dX8_isTrue_85 : decode cX8_isTrue 85 = .ok (.iadd, 1) := by decide +kernel
theorem dX8_isTrue_86 : decode cX8_isTrue 86 = .ok (.putfield 111, 3) := by decide +kernel
theorem dX8_isTrue_89 : decode cX8_isTrue 89 = .ok (.aload_n 0, 1) := by decide +kernel
theorem dX8_isTrue_90 : decode cX8_isTrue 90 = .ok (.getfield 57, 3) := by decide +kernel
theorem dX8_isTrue_93 : decode cX8_isTrue 93 = .ok (.aload_n 0, 1) := by decide +kernel
theorem dX8_isTrue_94 : decode cX8_isTrue 94 = .ok (.getfield 111, 3) := by decide +kernel
theorem dX8_isTrue_97 : decode cX8_isTrue 97 = .ok (.iconst 0, 1) := by decide +kernel
theorem dX8_isTrue_98 : decode cX8_isTrue 98 = .ok (.iastore, 1) := by decide +kernel
theorem dX8_isTrue_99 : decode cX8_isTrue 99 = .ok (.aload_n 0, 1) := by decide +kernel
theorem dX8_isTrue_100 : decode cX8_isTrue 100 = .ok (.getfield 60, 3) := by decide +kernel
theorem dX8_isTrue_103 : decode cX8_isTrue 103 = .ok (.aload_n 0, 1) := by decide +kernel
theorem dX8_isTrue_104 : decode cX8_isTrue 104 = .ok (.getfield 111, 3) := by decide +kernel
theorem dX8_isTrue_107 : decode cX8_isTrue 107 = .ok (.iconst 0, 1) := by decide +kernel
theorem dX8_isTrue_108 : decode cX8_isTrue 108 = .ok (.bastore, 1) := by decide +kernel
theorem dX8_isTrue_109 : decode cX8_isTrue 109 = .ok (.aload_n 0, 1) := by decide +kernel
theorem dX8_isTrue_110 : decode cX8_isTrue 110 = .ok (.getfield 63, 3) := by decide +kernel
theorem dX8_isTrue_113 : decode cX8_isTrue 113 = .ok (.aload_n 0, 1) := by decide +kernel
theorem dX8_isTrue_114 : decode cX8_isTrue 114 = .ok (.getfield 111, 3) := by decide +kernel
theorem dX8_isTrue_117 : decode cX8_isTrue 117 = .ok (.iconst 1, 1) := by decide +kernel
theorem dX8_isTrue_118 : decode cX8_isTrue 118 = .ok (.bastore, 1) := by decide +kernel
theorem dX8_isTrue_119 : decode cX8_isTrue 119 = .ok (.goto 262, 3) := by decide +kernel
theorem dX8_isTrue_122 : decode cX8_isTrue 122 = .ok (.iload 5, 2) := by decide +kernel
theorem dX8_isTrue_124 : decode cX8_isTrue 124 = .ok (.bipush 41, 2) := by decide +kernel
theorem dX8_isTrue_126 : decode cX8_isTrue 126 = .ok (.if_icmp .ne 53, 3) := by decide +kernel
theorem dX8_isTrue_129 : decode cX8_isTrue 129 = .ok (.aload_n 0, 1) := by decide +kernel
theorem dX8_isTrue_130 : decode cX8_isTrue 130 = .ok (.getfield 60, 3) := by decide +kernel
theorem dX8_isTrue_133 : decode cX8_isTrue 133 = .ok (.aload_n 0, 1) := by decide +kernel
theorem dX8_isTrue_134 : decode cX8_isTrue 134 = .ok (.getfield 111, 3) := by decide +kernel
theorem dX8_isTrue_137 : decode cX8_isTrue 137 = .ok (.baload, 1) := by decide +kernel
theorem dX8_isTrue_138 : decode cX8_isTrue 138 = .ok (.ifCond .ne 15, 3) := by decide +kernel
theorem dX8_isTrue_141 : decode cX8_isTrue 141 = .ok (.aload_n 0, 1) := by decide +kernel
theorem dX8_isTrue_142 : decode cX8_isTrue 142 = .ok (.getfield 63, 3) := by decide +kernel
theorem dX8_isTrue_145 : decode cX8_isTrue 145 = .ok (.aload_n 0, 1) := by decide +kernel
theorem dX8_isTrue_146 : decode cX8_isTrue 146 = .ok (.getfield 111, 3) := by decide +kernel
theorem dX8_isTrue_149 : decode cX8_isTrue 149 = .ok (.baload, 1) := by decide +kernel
theorem dX8_isTrue_150 : decode cX8_isTrue 150 = .ok (.ifCond .eq 7, 3) := by decide +kernel
theorem dX8_isTrue_153 : decode cX8_isTrue 153 = .ok (.iconst 1, 1) := by decide +kernel
theorem dX8_isTrue_154 : decode cX8_isTrue 154 = .ok (.goto 4, 3) := by decide +kernel
theorem dX8_isTrue_157 : decode cX8_isTrue 157 = .ok (.iconst 0, 1) := by decide +kernel
theorem dX8_isTrue_158 : decode cX8_isTrue 158 = .ok (.istore 6, 2) := by decide +kernel
theorem dX8_isTrue_160 : decode cX8_isTrue 160 = .ok (.aload_n 0, 1) := by decide +kernel
theorem dX8_isTrue_161 : decode cX8_isTrue 161 = .ok (.dup, 1) := by decide +kernel
theorem dX8_isTrue_162 : decode cX8_isTrue 162 = .ok (.getfield 111, 3) := by decide +kernel
theorem dX8_isTrue_165 : decode cX8_isTrue 165 = .ok (.iconst 1, 1) := by decide +kernel
theorem dX8_isTrue_166 : decode cX8_isTrue 166 = .ok (.isub, 1) := by decide +kernel
theorem dX8_isTrue_167 : decode cX8_isTrue 167 = .ok (.putfield 111, 3) := by decide +kernel
theorem dX8_isTrue_170 : decode cX8_isTrue 170 = .ok (.aload_n 0, 1) := by decide +kernel
theorem dX8_isTrue_171 : decode cX8_isTrue 171 = .ok (.iload 6, 2) := by decide +kernel
theorem dX8_isTrue_173 : decode cX8_isTrue 173 = .ok (.invokevirtual 147, 3) := by decide +kernel
theorem dX8_isTrue_176 : decode cX8_isTrue 176 = .ok (.goto 205, 3) := by decide +kernel
theorem dX8_isTrue_179 : decode cX8_isTrue 179 = .ok (.iload 5, 2) := by decide +kernel
theorem dX8_isTrue_181 : decode cX8_isTrue 181 = .ok (.bipush 124, 2) := by decide +kernel
theorem dX8_isTrue_183 : decode cX8_isTrue 183 = .ok (.if_icmp .ne 54, 3) := by decide +kernel
theorem dX8_isTrue_186 : decode cX8_isTrue 186 = .ok (.aload_n 0, 1) := by decide +kernel
theorem dX8_isTrue_187 : decode cX8_isTrue 187 = .ok (.getfield 60, 3) := by decide +kernel
theorem dX8_isTrue_190 : decode cX8_isTrue 190 = .ok (.aload_n 0, 1) := by decide +kernel
theorem dX8_isTrue_191 : decode cX8_isTrue 191 = .ok (.getfield 111, 3) := by decide +kernel
theorem dX8_isTrue_194 : decode cX8_isTrue 194 = .ok (.aload_n 0, 1) := by decide +kernel
theorem dX8_isTrue_195 : decode cX8_isTrue 195 = .ok (.getfield 60, 3) := by decide +kernel
theorem dX8_isTrue_198 : decode cX8_isTrue 198 = .ok (.aload_n 0, 1) := by decide +kernel
theorem dX8_isTrue_199 : decode cX8_isTrue 199 = .ok (.getfield 111, 3) := by decide +kernel
theorem dX8_isTrue_202 : decode cX8_isTrue 202 = .ok (.baload, 1) := by decide +kernel
theorem dX8_isTrue_203 : decode cX8_isTrue 203 = .ok (.ifCond .ne 15, 3) := by decide +kernel
theorem dX8_isTrue_206 : decode cX8_isTrue 206 = .ok (.aload_n 0, 1) := by decide +kernel
theorem dX8_isTrue_207 : decode cX8_isTrue 207 = .ok (.getfield 63, 3) := by decide +kernel
theorem dX8_isTrue_210 : decode cX8_isTrue 210 = .ok (.aload_n 0, 1) := by decide +kernel
theorem dX8_isTrue_211 : decode cX8_isTrue 211 = .ok (.getfield 111, 3) := by decide +kernel
theorem dX8_isTrue_214 : decode cX8_isTrue 214 = .ok (.baload, 1) := by decide +kernel
theorem dX8_isTrue_215 : decode cX8_isTrue 215 = .ok (.ifCond .eq 7, 3) := by decide +kernel
theorem dX8_isTrue_218 : decode cX8_isTrue 218 = .ok (.iconst 1, 1) := by decide +kernel
theorem dX8_isTrue_219 : decode cX8_isTrue 219 = .ok (.goto 4, 3) := by decide +kernel
theorem dX8_isTrue_222 : decode cX8_isTrue 222 = .ok (.iconst 0, 1) := by decide +kernel
theorem dX8_isTrue_223 : decode cX8_isTrue 223 = .ok (.bastore, 1) := by decide +kernel
theorem dX8_isTrue_224 : decode cX8_isTrue 224 = .ok (.aload_n 0, 1) := by decide +kernel
theorem dX8_isTrue_225 : decode cX8_isTrue 225 = .ok (.getfield 63, 3) := by decide +kernel
theorem dX8_isTrue_228 : decode cX8_isTrue 228 = .ok (.aload_n 0, 1) := by decide +kernel
theorem dX8_isTrue_229 : decode cX8_isTrue 229 = .ok (.getfield 111, 3) := by decide +kernel
theorem dX8_isTrue_232 : decode cX8_isTrue 232 = .ok (.iconst 1, 1) := by decide +kernel
theorem dX8_isTrue_233 : decode cX8_isTrue 233 = .ok (.bastore, 1) := by decide +kernel
theorem dX8_isTrue_234 : decode cX8_isTrue 234 = .ok (.goto 147, 3) := by decide +kernel
theorem dX8_isTrue_237 : decode cX8_isTrue 237 = .ok (.iload 5, 2) := by decide +kernel
theorem dX8_isTrue_239 : decode cX8_isTrue 239 = .ok (.bipush 38, 2) := by decide +kernel
theorem dX8_isTrue_241 : decode cX8_isTrue 241 = .ok (.if_icmp .eq 140, 3) := by decide +kernel
theorem dX8_isTrue_244 : decode cX8_isTrue 244 = .ok (.aload_n 1, 1) := by decide +kernel
theorem dX8_isTrue_245 : decode cX8_isTrue 245 = .ok (.iload_n 2, 1) := by decide +kernel
theorem dX8_isTrue_246 : decode cX8_isTrue 246 = .ok (.iload 4, 2) := by decide +kernel
theorem dX8_isTrue_248 : decode cX8_isTrue 248 = .ok (.iadd, 1) := by decide +kernel
theorem dX8_isTrue_249 : decode cX8_isTrue 249 = .ok (.iaload, 1) := by decide +kernel
theorem dX8_isTrue_250 : decode cX8_isTrue 250 = .ok (.istore 6, 2) := by decide +kernel
theorem dX8_isTrue_252 : decode cX8_isTrue 252 = .ok (.iinc 4 1, 3) := by decide +kernel
theorem dX8_isTrue_255 : decode cX8_isTrue 255 = .ok (.iconst 0, 1) := by decide +kernel
theorem dX8_isTrue_256 : decode cX8_isTrue 256 = .ok (.istore 7, 2) := by decide +kernel
theorem dX8_isTrue_258 : decode cX8_isTrue 258 = .ok (.iload 4, 2) := by decide +kernel
theorem dX8_isTrue_260 : decode cX8_isTrue 260 = .ok (.aload_n 0, 1) := by decide +kernel
theorem dX8_isTrue_261 : decode cX8_isTrue 261 = .ok (.getfield 140, 3) := by decide +kernel
theorem dX8_isTrue_264 : decode cX8_isTrue 264 = .ok (.if_icmp .ge 45, 3) := by decide +kernel
theorem dX8_isTrue_267 : decode cX8_isTrue 267 = .ok (.aload_n 1, 1) := by decide +kernel
theorem dX8_isTrue_268 : decode cX8_isTrue 268 = .ok (.iload_n 2, 1) := by decide +kernel
theorem dX8_isTrue_269 : decode cX8_isTrue 269 = .ok (.iload 4, 2) := by decide +kernel
theorem dX8_isTrue_271 : decode cX8_isTrue 271 = .ok (.iadd, 1) := by decide +kernel
theorem dX8_isTrue_272 : decode cX8_isTrue 272 = .ok (.iaload, 1) := by decide +kernel
theorem dX8_isTrue_273 : decode cX8_isTrue 273 = .ok (.i2l, 1) := by decide +kernel
theorem dX8_isTrue_274 : decode cX8_isTrue 274 = .ok (.ldc2_w 132, 3) := by decide +kernel
theorem dX8_isTrue_277 : decode cX8_isTrue 277 = .ok (.ldc2_w 134, 3) := by decide +kernel
theorem dX8_isTrue_280 : decode cX8_isTrue 280 = .ok (.invokestatic 90, 3) := by decide +kernel
theorem dX8_isTrue_283 : decode cX8_isTrue 283 = .ok (.ifCond .eq 26, 3) := by decide +kernel
theorem dX8_isTrue_286 : decode cX8_isTrue 286 = .ok (.bipush 10, 2) := by decide +kernel
theorem dX8_isTrue_288 : decode cX8_isTrue 288 = .ok (.iload 7, 2) := by decide +kernel
theorem dX8_isTrue_290 : decode cX8_isTrue 290 = .ok (.imul, 1) := by decide +kernel
theorem dX8_isTrue_291 : decode cX8_isTrue 291 = .ok (.aload_n 1, 1) := by decide +kernel
theorem dX8_isTrue_292 : decode cX8_isTrue 292 = .ok (.iload_n 2, 1) := by decide +kernel
theorem dX8_isTrue_293 : decode cX8_isTrue 293 = .ok (.iload 4, 2) := by decide +kernel
theorem dX8_isTrue_295 : decode cX8_isTrue 295 = .ok (.iadd, 1) := by decide +kernel
theorem dX8_isTrue_296 : decode cX8_isTrue 296 = .ok (.iaload, 1) := by decide +kernel
theorem dX8_isTrue_297 : decode cX8_isTrue 297 = .ok (.iadd, 1) := by decide +kernel
theorem dX8_isTrue_298 : decode cX8_isTrue 298 = .ok (.bipush 48, 2) := by decide +kernel
theorem dX8_isTrue_300 : decode cX8_isTrue 300 = .ok (.isub, 1) := by decide +kernel
theorem dX8_isTrue_301 : decode cX8_isTrue 301 = .ok (.istore 7, 2) := by decide +kernel
theorem dX8_isTrue_303 : decode cX8_isTrue 303 = .ok (.iinc 4 1, 3) := by decide +kernel
theorem dX8_isTrue_306 : decode cX8_isTrue 306 = .ok (.goto (-48), 3) := by decide +kernel
theorem dX8_isTrue_309 : decode cX8_isTrue 309 = .ok (.aload_n 0, 1) := by decide +kernel
theorem dX8_isTrue_310 : decode cX8_isTrue 310 = .ok (.iload_n 3, 1) := by decide +kernel
theorem dX8_isTrue_311 : decode cX8_isTrue 311 = .ok (.iload 5, 2) := by decide +kernel
theorem dX8_isTrue_313 : decode cX8_isTrue 313 = .ok (.invokestatic 128, 3) := by decide +kernel
theorem dX8_isTrue_316 : decode cX8_isTrue 316 = .ok (.invokevirtual 151, 3) := by decide +kernel
theorem dX8_isTrue_319 : decode cX8_isTrue 319 = .ok (.istore 8, 2) := by decide +kernel
theorem dX8_isTrue_321 : decode cX8_isTrue 321 = .ok (.aload_n 0, 1) := by decide +kernel
theorem dX8_isTrue_322 : decode cX8_isTrue 322 = .ok (.iload 6, 2) := by decide +kernel
theorem dX8_isTrue_324 : decode cX8_isTrue 324 = .ok (.bipush 61, 2) := by decide +kernel
theorem dX8_isTrue_326 : decode cX8_isTrue 326 = .ok (.if_icmp .ne 18, 3) := by decide +kernel
theorem dX8_isTrue_329 : decode cX8_isTrue 329 = .ok (.iload 8, 2) := by decide +kernel
theorem dX8_isTrue_331 : decode cX8_isTrue 331 = .ok (.iload 7, 2) := by decide +kernel
theorem dX8_isTrue_333 : decode cX8_isTrue 333 = .ok (.if_icmp .ne 7, 3) := by decide +kernel
theorem dX8_isTrue_336 : decode cX8_isTrue 336 = .ok (.iconst 1, 1) := by decide +kernel
theorem dX8_isTrue_337 : decode cX8_isTrue 337 = .ok (.goto 41, 3) := by decide +kernel
theorem dX8_isTrue_340 : decode cX8_isTrue 340 = .ok (.iconst 0, 1) := by decide +kernel
theorem dX8_isTrue_341 : decode cX8_isTrue 341 = .ok (.goto 37, 3) := by decide +kernel
theorem dX8_isTrue_344 : decode cX8_isTrue 344 = .ok (.iload 6, 2) := by decide +kernel
theorem dX8_isTrue_346 : decode cX8_isTrue 346 = .ok (.bipush 60, 2) := by decide +kernel
theorem dX8_isTrue_348 : decode cX8_isTrue 348 = .ok (.if_icmp .ne 18, 3) := by decide +kernel
theorem dX8_isTrue_351 : decode cX8_isTrue 351 = .ok (.iload 8, 2) := by decide +kernel
theorem dX8_isTrue_353 : decode cX8_isTrue 353 = .ok (.iload 7, 2) := by decide +kernel
theorem dX8_isTrue_355 : decode cX8_isTrue 355 = .ok (.if_icmp .ge 7, 3) := by decide +kernel
theorem dX8_isTrue_358 : decode cX8_isTrue 358 = .ok (.iconst 1, 1) := by decide +kernel
theorem dX8_isTrue_359 : decode cX8_isTrue 359 = .ok (.goto 19, 3) := by decide +kernel
theorem dX8_isTrue_362 : decode cX8_isTrue 362 = .ok (.iconst 0, 1) := by decide +kernel
theorem dX8_isTrue_363 : decode cX8_isTrue 363 = .ok (.goto 15, 3) := by decide +kernel
theorem dX8_isTrue_366 : decode cX8_isTrue 366 = .ok (.iload 8, 2) := by decide +kernel
theorem dX8_isTrue_368 : decode cX8_isTrue 368 = .ok (.iload 7, 2) := by decide +kernel
theorem dX8_isTrue_370 : decode cX8_isTrue 370 = .ok (.if_icmp .le 7, 3) := by decide +kernel
theorem dX8_isTrue_373 : decode cX8_isTrue 373 = .ok (.iconst 1, 1) := by decide +kernel
theorem dX8_isTrue_374 : decode cX8_isTrue 374 = .ok (.goto 4, 3) := by decide +kernel
theorem dX8_isTrue_377 : decode cX8_isTrue 377 = .ok (.iconst 0, 1) := by decide +kernel
theorem dX8_isTrue_378 : decode cX8_isTrue 378 = .ok (.invokevirtual 147, 3) := by decide +kernel
theorem dX8_isTrue_381 : decode cX8_isTrue 381 = .ok (.goto (-352), 3) := by decide +kernel
theorem dX8_isTrue_384 : decode cX8_isTrue 384 = .ok (.aload_n 0, 1) := by decide +kernel
theorem dX8_isTrue_385 : decode cX8_isTrue 385 = .ok (.getfield 60, 3) := by decide +kernel
theorem dX8_isTrue_388 : decode cX8_isTrue 388 = .ok (.iconst 0, 1) := by decide +kernel
theorem dX8_isTrue_389 : decode cX8_isTrue 389 = .ok (.baload, 1) := by decide +kernel
theorem dX8_isTrue_390 : decode cX8_isTrue 390 = .ok (.ifCond .ne 12, 3) := by decide +kernel
theorem dX8_isTrue_393 : decode cX8_isTrue 393 = .ok (.aload_n 0, 1) := by decide +kernel
theorem dX8_isTrue_394 : decode cX8_isTrue 394 = .ok (.getfield 63, 3) := by decide +kernel
theorem dX8_isTrue_397 : decode cX8_isTrue 397 = .ok (.iconst 0, 1) := by decide +kernel
theorem dX8_isTrue_398 : decode cX8_isTrue 398 = .ok (.baload, 1) := by decide +kernel
theorem dX8_isTrue_399 : decode cX8_isTrue 399 = .ok (.ifCond .eq 7, 3) := by decide +kernel
theorem dX8_isTrue_402 : decode cX8_isTrue 402 = .ok (.iconst 1, 1) := by decide +kernel
theorem dX8_isTrue_403 : decode cX8_isTrue 403 = .ok (.goto 4, 3) := by decide +kernel
theorem dX8_isTrue_406 : decode cX8_isTrue 406 = .ok (.iconst 0, 1) := by decide +kernel
theorem dX8_isTrue_407 : decode cX8_isTrue 407 = .ok (.ireturn, 1) := by decide +kernel
theorem dX8_sees_0 : decode cX8_sees 0 = .ok (.iconst 0, 1) := by decide +kernel
theorem dX8_sees_1 : decode cX8_sees 1 = .ok (.istore_n 3, 1) := by decide +kernel
theorem dX8_sees_2 : decode cX8_sees 2 = .ok (.iload_n 3, 1) := by decide +kernel
theorem dX8_sees_3 : decode cX8_sees 3 = .ok (.aload_n 0, 1) := by decide +kernel
theorem dX8_sees_4 : decode cX8_sees 4 = .ok (.getfield 155, 3) := by decide +kernel
theorem dX8_sees_7 : decode cX8_sees 7 = .ok (.if_icmp .ge 81, 3) := by decide +kernel
theorem dX8_sees_10 : decode cX8_sees 10 = .ok (.aload_n 0, 1) := by decide +kernel
theorem dX8_sees_11 : decode cX8_sees 11 = .ok (.getfield 16, 3) := by decide +kernel
theorem dX8_sees_14 : decode cX8_sees 14 = .ok (.iload_n 3, 1) := by decide +kernel
theorem dX8_sees_15 : decode cX8_sees 15 = .ok (.iaload, 1) := by decide +kernel
theorem dX8_sees_16 : decode cX8_sees 16 = .ok (.ifCond .lt 18, 3) := by decide +kernel
theorem dX8_sees_19 : decode cX8_sees 19 = .ok (.aload_n 0, 1) := by decide +kernel
theorem dX8_sees_20 : decode cX8_sees 20 = .ok (.getfield 16, 3) := by decide +kernel
theorem dX8_sees_23 : decode cX8_sees 23 = .ok (.iload_n 3, 1) := by decide +kernel
theorem dX8_sees_24 : decode cX8_sees 24 = .ok (.iaload, 1) := by decide +kernel
theorem dX8_sees_25 : decode cX8_sees 25 = .ok (.aload_n 0, 1) := by decide +kernel
theorem dX8_sees_26 : decode cX8_sees 26 = .ok (.iload_n 2, 1) := by decide +kernel
theorem dX8_sees_27 : decode cX8_sees 27 = .ok (.iconst 4, 1) := by decide +kernel
theorem dX8_sees_28 : decode cX8_sees 28 = .ok (.invokevirtual 151, 3) := by decide +kernel
theorem dX8_sees_31 : decode cX8_sees 31 = .ok (.if_icmp .ne 7, 3) := by decide +kernel
theorem dX8_sees_34 : decode cX8_sees 34 = .ok (.iconst 1, 1) := by decide +kernel
theorem dX8_sees_35 : decode cX8_sees 35 = .ok (.goto 4, 3) := by decide +kernel
theorem dX8_sees_38 : decode cX8_sees 38 = .ok (.iconst 0, 1) := by decide +kernel
theorem dX8_sees_39 : decode cX8_sees 39 = .ok (.istore 4, 2) := by decide +kernel
theorem dX8_sees_41 : decode cX8_sees 41 = .ok (.aload_n 0, 1) := by decide +kernel
theorem dX8_sees_42 : decode cX8_sees 42 = .ok (.getfield 13, 3) := by decide +kernel
theorem dX8_sees_45 : decode cX8_sees 45 = .ok (.iload_n 3, 1) := by decide +kernel
theorem dX8_sees_46 : decode cX8_sees 46 = .ok (.iaload, 1) := by decide +kernel
theorem dX8_sees_47 : decode cX8_sees 47 = .ok (.iload_n 1, 1) := by decide +kernel
theorem dX8_sees_48 : decode cX8_sees 48 = .ok (.if_icmp .ne 34, 3) := by decide +kernel
theorem dX8_sees_51 : decode cX8_sees 51 = .ok (.iload 4, 2) := by decide +kernel
theorem dX8_sees_53 : decode cX8_sees 53 = .ok (.ifCond .eq 29, 3) := by decide +kernel
theorem dX8_sees_56 : decode cX8_sees 56 = .ok (.aload_n 0, 1) := by decide +kernel
theorem dX8_sees_57 : decode cX8_sees 57 = .ok (.getfield 19, 3) := by decide +kernel
theorem dX8_sees_60 : decode cX8_sees 60 = .ok (.iload_n 3, 1) := by decide +kernel
theorem dX8_sees_61 : decode cX8_sees 61 = .ok (.iaload, 1) := by decide +kernel
theorem dX8_sees_62 : decode cX8_sees 62 = .ok (.ifCond .lt 18, 3) := by decide +kernel
theorem dX8_sees_65 : decode cX8_sees 65 = .ok (.aload_n 0, 1) := by decide +kernel
theorem dX8_sees_66 : decode cX8_sees 66 = .ok (.getfield 19, 3) := by decide +kernel
theorem dX8_sees_69 : decode cX8_sees 69 = .ok (.iload_n 3, 1) := by decide +kernel
theorem dX8_sees_70 : decode cX8_sees 70 = .ok (.iaload, 1) := by decide +kernel
theorem dX8_sees_71 : decode cX8_sees 71 = .ok (.aload_n 0, 1) := by decide +kernel
theorem dX8_sees_72 : decode cX8_sees 72 = .ok (.iload_n 2, 1) := by decide +kernel
theorem dX8_sees_73 : decode cX8_sees 73 = .ok (.iconst 1, 1) := by decide +kernel
theorem dX8_sees_74 : decode cX8_sees 74 = .ok (.invokevirtual 151, 3) := by decide +kernel
theorem dX8_sees_77 : decode cX8_sees 77 = .ok (.if_icmp .ne 5, 3) := by decide +kernel
theorem dX8_sees_80 : decode cX8_sees 80 = .ok (.iconst 1, 1) := by decide +kernel
theorem dX8_sees_81 : decode cX8_sees 81 = .ok (.ireturn, 1) := by decide +kernel
theorem dX8_sees_82 : decode cX8_sees 82 = .ok (.iinc 3 1, 3) := by decide +kernel
theorem dX8_sees_85 : decode cX8_sees 85 = .ok (.goto (-83), 3) := by decide +kernel
theorem dX8_sees_88 : decode cX8_sees 88 = .ok (.iconst 0, 1) := by decide +kernel
theorem dX8_sees_89 : decode cX8_sees 89 = .ok (.ireturn, 1) := by decide +kernel
theorem dX8_find_0 : decode cX8_find 0 = .ok (.aload_n 0, 1) := by decide +kernel
theorem dX8_find_1 : decode cX8_find 1 = .ok (.iconst 0, 1) := by decide +kernel
theorem dX8_find_2 : decode cX8_find 2 = .ok (.putfield 158, 3) := by decide +kernel
theorem dX8_find_5 : decode cX8_find 5 = .ok (.aload_n 1, 1) := by decide +kernel
theorem dX8_find_6 : decode cX8_find 6 = .ok (.iload_n 2, 1) := by decide +kernel
theorem dX8_find_7 : decode cX8_find 7 = .ok (.iload_n 3, 1) := by decide +kernel
theorem dX8_find_8 : decode cX8_find 8 = .ok (.aload_n 0, 1) := by decide +kernel
theorem dX8_find_9 : decode cX8_find 9 = .ok (.getfield 140, 3) := by decide +kernel
theorem dX8_find_12 : decode cX8_find 12 = .ok (.invokestatic 120, 3) := by decide +kernel
theorem dX8_find_15 : decode cX8_find 15 = .ok (.istore 6, 2) := by decide +kernel
theorem dX8_find_17 : decode cX8_find 17 = .ok (.iload 6, 2) := by decide +kernel
theorem dX8_find_19 : decode cX8_find 19 = .ok (.ifCond .ne 7, 3) := by decide +kernel
theorem dX8_find_22 : decode cX8_find 22 = .ok (.iconst (-1), 1) := by decide +kernel
theorem dX8_find_23 : decode cX8_find 23 = .ok (.goto 18, 3) := by decide +kernel
theorem dX8_find_26 : decode cX8_find 26 = .ok (.aload_n 1, 1) := by decide +kernel
theorem dX8_find_27 : decode cX8_find 27 = .ok (.iload_n 2, 1) := by decide +kernel
theorem dX8_find_28 : decode cX8_find 28 = .ok (.iload_n 3, 1) := by decide +kernel
theorem dX8_find_29 : decode cX8_find 29 = .ok (.aload_n 0, 1) := by decide +kernel
theorem dX8_find_30 : decode cX8_find 30 = .ok (.getfield 140, 3) := by decide +kernel
theorem dX8_find_33 : decode cX8_find 33 = .ok (.iconst 1, 1) := by decide +kernel
theorem dX8_find_34 : decode cX8_find 34 = .ok (.iadd, 1) := by decide +kernel
theorem dX8_find_35 : decode cX8_find 35 = .ok (.invokestatic 120, 3) := by decide +kernel
theorem dX8_find_38 : decode cX8_find 38 = .ok (.invokestatic 128, 3) := by decide +kernel
theorem dX8_find_41 : decode cX8_find 41 = .ok (.istore 7, 2) := by decide +kernel
theorem dX8_find_43 : decode cX8_find 43 = .ok (.aload_n 0, 1) := by decide +kernel
theorem dX8_find_44 : decode cX8_find 44 = .ok (.iload 6, 2) := by decide +kernel
theorem dX8_find_46 : decode cX8_find 46 = .ok (.bipush 35, 2) := by decide +kernel
theorem dX8_find_48 : decode cX8_find 48 = .ok (.if_icmp .ne 7, 3) := by decide +kernel
theorem dX8_find_51 : decode cX8_find 51 = .ok (.iconst 1, 1) := by decide +kernel
theorem dX8_find_52 : decode cX8_find 52 = .ok (.goto 4, 3) := by decide +kernel
theorem dX8_find_55 : decode cX8_find 55 = .ok (.iconst 0, 1) := by decide +kernel
theorem dX8_find_56 : decode cX8_find 56 = .ok (.putfield 161, 3) := by decide +kernel
theorem dX8_find_59 : decode cX8_find 59 = .ok (.iconst 1, 1) := by decide +kernel
theorem dX8_find_60 : decode cX8_find 60 = .ok (.istore 8, 2) := by decide +kernel
theorem dX8_find_62 : decode cX8_find 62 = .ok (.iload 8, 2) := by decide +kernel
theorem dX8_find_64 : decode cX8_find 64 = .ok (.iload 5, 2) := by decide +kernel
theorem dX8_find_66 : decode cX8_find 66 = .ok (.if_icmp .gt 43, 3) := by decide +kernel
theorem dX8_find_69 : decode cX8_find 69 = .ok (.aload_n 0, 1) := by decide +kernel
theorem dX8_find_70 : decode cX8_find 70 = .ok (.getfield 78, 3) := by decide +kernel
theorem dX8_find_73 : decode cX8_find 73 = .ok (.iload 8, 2) := by decide +kernel
theorem dX8_find_75 : decode cX8_find 75 = .ok (.aload_n 0, 1) := by decide +kernel
theorem dX8_find_76 : decode cX8_find 76 = .ok (.iload 4, 2) := by decide +kernel
theorem dX8_find_78 : decode cX8_find 78 = .ok (.iload 8, 2) := by decide +kernel
theorem dX8_find_80 : decode cX8_find 80 = .ok (.invokevirtual 165, 3) := by decide +kernel
theorem dX8_find_83 : decode cX8_find 83 = .ok (.ifCond .eq 18, 3) := by decide +kernel
theorem dX8_find_86 : decode cX8_find 86 = .ok (.aload_n 0, 1) := by decide +kernel
theorem dX8_find_87 : decode cX8_find 87 = .ok (.aload_n 1, 1) := by decide +kernel
theorem dX8_find_88 : decode cX8_find 88 = .ok (.iload_n 2, 1) := by decide +kernel
theorem dX8_find_89 : decode cX8_find 89 = .ok (.iload 8, 2) := by decide +kernel
theorem dX8_find_91 : decode cX8_find 91 = .ok (.invokevirtual 169, 3) := by decide +kernel
theorem dX8_find_94 : decode cX8_find 94 = .ok (.ifCond .eq 7, 3) := by decide +kernel
theorem dX8_find_97 : decode cX8_find 97 = .ok (.iconst 1, 1) := by decide +kernel
theorem dX8_find_98 : decode cX8_find 98 = .ok (.goto 4, 3) := by decide +kernel
theorem dX8_find_101 : decode cX8_find 101 = .ok (.iconst 0, 1) := by decide +kernel
theorem dX8_find_102 : decode cX8_find 102 = .ok (.bastore, 1) := by decide +kernel
theorem dX8_find_103 : decode cX8_find 103 = .ok (.iinc 8 1, 3) := by decide +kernel
theorem dX8_find_106 : decode cX8_find 106 = .ok (.goto (-44), 3) := by decide +kernel
theorem dX8_find_109 : decode cX8_find 109 = .ok (.iconst 1, 1) := by decide +kernel
theorem dX8_find_110 : decode cX8_find 110 = .ok (.istore 8, 2) := by decide +kernel
theorem dX8_find_112 : decode cX8_find 112 = .ok (.iload 8, 2) := by decide +kernel
theorem dX8_find_114 : decode cX8_find 114 = .ok (.ifCond .eq 146, 3) := by decide +kernel
theorem dX8_find_117 : decode cX8_find 117 = .ok (.iconst 0, 1) := by decide +kernel
theorem dX8_find_118 : decode cX8_find 118 = .ok (.istore 9, 2) := by decide +kernel
theorem dX8_find_120 : decode cX8_find 120 = .ok (.iconst 1, 1) := by decide +kernel
theorem dX8_find_121 : decode cX8_find 121 = .ok (.istore 10, 2) := by decide +kernel
theorem dX8_find_123 : decode cX8_find 123 = .ok (.iload 10, 2) := by decide +kernel
theorem dX8_find_125 : decode cX8_find 125 = .ok (.iload 5, 2) := by decide +kernel
theorem dX8_find_127 : decode cX8_find 127 = .ok (.if_icmp .gt 103, 3) := by decide +kernel
theorem dX8_find_130 : decode cX8_find 130 = .ok (.iload 9, 2) := by decide +kernel
theorem dX8_find_132 : decode cX8_find 132 = .ok (.ifCond .le 60, 3) := by decide +kernel
theorem dX8_find_135 : decode cX8_find 135 = .ok (.iload 7, 2) := by decide +kernel
theorem dX8_find_137 : decode cX8_find 137 = .ok (.ifCond .lt 55, 3) := by decide +kernel
theorem dX8_find_140 : decode cX8_find 140 = .ok (.iload 6, 2) := by decide +kernel
theorem dX8_find_142 : decode cX8_find 142 = .ok (.bipush 45, 2) := by decide +kernel
theorem dX8_find_144 : decode cX8_find 144 = .ok (.if_icmp .ne 25, 3) := by decide +kernel
theorem dX8_find_147 : decode cX8_find 147 = .ok (.aload_n 0, 1) := by decide +kernel
theorem dX8_find_148 : decode cX8_find 148 = .ok (.iload 10, 2) := by decide +kernel
theorem dX8_find_150 : decode cX8_find 150 = .ok (.iload 7, 2) := by decide +kernel
theorem dX8_find_152 : decode cX8_find 152 = .ok (.invokevirtual 151, 3) := by decide +kernel
theorem dX8_find_155 : decode cX8_find 155 = .ok (.aload_n 0, 1) := by decide +kernel
theorem dX8_find_156 : decode cX8_find 156 = .ok (.iload 9, 2) := by decide +kernel
theorem dX8_find_158 : decode cX8_find 158 = .ok (.iload 7, 2) := by decide +kernel
theorem dX8_find_160 : decode cX8_find 160 = .ok (.invokevirtual 151, 3) := by decide +kernel
theorem dX8_find_163 : decode cX8_find 163 = .ok (.if_icmp .le 29, 3) := by decide +kernel
theorem dX8_find_166 : decode cX8_find 166 = .ok (.goto 22, 3) := by decide +kernel
theorem dX8_find_169 : decode cX8_find 169 = .ok (.aload_n 0, 1) := by decide +kernel
theorem dX8_find_170 : decode cX8_find 170 = .ok (.iload 10, 2) := by decide +kernel
theorem dX8_find_172 : decode cX8_find 172 = .ok (.iload 7, 2) := by decide +kernel
theorem dX8_find_174 : decode cX8_find 174 = .ok (.invokevirtual 151, 3) := by decide +kernel
theorem dX8_find_177 : decode cX8_find 177 = .ok (.aload_n 0, 1) := by decide +kernel
theorem dX8_find_178 : decode cX8_find 178 = .ok (.iload 9, 2) := by decide +kernel
theorem dX8_find_180 : decode cX8_find 180 = .ok (.iload 7, 2) := by decide +kernel
theorem dX8_find_182 : decode cX8_find 182 = .ok (.invokevirtual 151, 3) := by decide +kernel
theorem dX8_find_185 : decode cX8_find 185 = .ok (.if_icmp .ge 7, 3) := by decide +kernel
theorem dX8_find_188 : decode cX8_find 188 = .ok (.iconst 1, 1) := by decide +kernel
theorem dX8_find_189 : decode cX8_find 189 = .ok (.goto 4, 3) := by decide +kernel
theorem dX8_find_192 : decode cX8_find 192 = .ok (.iconst 0, 1) := by decide +kernel
theorem dX8_find_193 : decode cX8_find 193 = .ok (.istore 11, 2) := by decide +kernel
theorem dX8_find_195 : decode cX8_find 195 = .ok (.aload_n 0, 1) := by decide +kernel
theorem dX8_find_196 : decode cX8_find 196 = .ok (.getfield 78, 3) := by decide +kernel
theorem dX8_find_199 : decode cX8_find 199 = .ok (.iload 10, 2) := by decide +kernel
theorem dX8_find_201 : decode cX8_find 201 = .ok (.baload, 1) := by decide +kernel
theorem dX8_find_202 : decode cX8_find 202 = .ok (.ifCond .eq 18, 3) := by decide +kernel
theorem dX8_find_205 : decode cX8_find 205 = .ok (.iload 9, 2) := by decide +kernel
theorem dX8_find_207 : decode cX8_find 207 = .ok (.ifCond .eq 8, 3) := by decide +kernel
theorem dX8_find_210 : decode cX8_find 210 = .ok (.iload 11, 2) := by decide +kernel
theorem dX8_find_212 : decode cX8_find 212 = .ok (.ifCond .eq 8, 3) := by decide +kernel
theorem dX8_find_215 : decode cX8_find 215 = .ok (.iload 10, 2) := by decide +kernel
theorem dX8_find_217 : decode cX8_find 217 = .ok (.goto 5, 3) := by decide +kernel
theorem dX8_find_220 : decode cX8_find 220 = .ok (.iload 9, 2) := by decide +kernel
theorem dX8_find_222 : decode cX8_find 222 = .ok (.istore 9, 2) := by decide +kernel
theorem dX8_find_224 : decode cX8_find 224 = .ok (.iinc 10 1, 3) := by decide +kernel
theorem dX8_find_227 : decode cX8_find 227 = .ok (.goto (-104), 3) := by decide +kernel
theorem dX8_find_230 : decode cX8_find 230 = .ok (.iload 9, 2) := by decide +kernel
theorem dX8_find_232 : decode cX8_find 232 = .ok (.ifCond .le 7, 3) := by decide +kernel
theorem dX8_find_235 : decode cX8_find 235 = .ok (.iconst 1, 1) := by decide +kernel
theorem dX8_find_236 : decode cX8_find 236 = .ok (.goto 4, 3) := by decide +kernel
theorem dX8_find_239 : decode cX8_find 239 = .ok (.iconst 0, 1) := by decide +kernel
theorem dX8_find_240 : decode cX8_find 240 = .ok (.istore 8, 2) := by decide +kernel
theorem dX8_find_242 : decode cX8_find 242 = .ok (.iload 8, 2) := by decide +kernel
theorem dX8_find_244 : decode cX8_find 244 = .ok (.ifCond .eq 13, 3) := by decide +kernel
theorem dX8_find_247 : decode cX8_find 247 = .ok (.aload_n 0, 1) := by decide +kernel
theorem dX8_find_248 : decode cX8_find 248 = .ok (.iload 9, 2) := by decide +kernel
theorem dX8_find_250 : decode cX8_find 250 = .ok (.iload 7, 2) := by decide +kernel
theorem dX8_find_252 : decode cX8_find 252 = .ok (.iload 5, 2) := by decide +kernel
theorem dX8_find_254 : decode cX8_find 254 = .ok (.invokevirtual 173, 3) := by decide +kernel
theorem dX8_find_257 : decode cX8_find 257 = .ok (.goto (-145), 3) := by decide +kernel
theorem dX8_find_260 : decode cX8_find 260 = .ok (.return_, 1) := by decide +kernel
theorem dX8_take_0 : decode cX8_take 0 = .ok (.aload_n 0, 1) := by decide +kernel
theorem dX8_take_1 : decode cX8_take 1 = .ok (.getfield 161, 3) := by decide +kernel
theorem dX8_take_4 : decode cX8_take 4 = .ok (.ifCond .ne 31, 3) := by decide +kernel
theorem dX8_take_7 : decode cX8_take 7 = .ok (.aload_n 0, 1) := by decide +kernel
theorem dX8_take_8 : decode cX8_take 8 = .ok (.getfield 78, 3) := by decide +kernel
theorem dX8_take_11 : decode cX8_take 11 = .ok (.iload_n 1, 1) := by decide +kernel
theorem dX8_take_12 : decode cX8_take 12 = .ok (.iconst 0, 1) := by decide +kernel
theorem dX8_take_13 : decode cX8_take 13 = .ok (.bastore, 1) := by decide +kernel
theorem dX8_take_14 : decode cX8_take 14 = .ok (.aload_n 0, 1) := by decide +kernel
theorem dX8_take_15 : decode cX8_take 15 = .ok (.getfield 72, 3) := by decide +kernel
theorem dX8_take_18 : decode cX8_take 18 = .ok (.aload_n 0, 1) := by decide +kernel
theorem dX8_take_19 : decode cX8_take 19 = .ok (.getfield 158, 3) := by decide +kernel
theorem dX8_take_22 : decode cX8_take 22 = .ok (.iload_n 1, 1) := by decide +kernel
theorem dX8_take_23 : decode cX8_take 23 = .ok (.iastore, 1) := by decide +kernel
theorem dX8_take_24 : decode cX8_take 24 = .ok (.aload_n 0, 1) := by decide +kernel
theorem dX8_take_25 : decode cX8_take 25 = .ok (.dup, 1) := by decide +kernel
theorem dX8_take_26 : decode cX8_take 26 = .ok (.getfield 158, 3) := by decide +kernel
theorem dX8_take_29 : decode cX8_take 29 = .ok (.iconst 1, 1) := by decide +kernel
theorem dX8_take_30 : decode cX8_take 30 = .ok (.iadd, 1) := by decide +kernel
theorem dX8_take_31 : decode cX8_take 31 = .ok (.putfield 158, 3) := by decide +kernel
theorem dX8_take_34 : decode cX8_take 34 = .ok (.return_, 1) := by decide +kernel
theorem dX8_take_35 : decode cX8_take 35 = .ok (.aload_n 0, 1) := by decide +kernel
theorem dX8_take_36 : decode cX8_take 36 = .ok (.getfield 72, 3) := by decide +kernel
theorem dX8_take_39 : decode cX8_take 39 = .ok (.aload_n 0, 1) := by decide +kernel
theorem dX8_take_40 : decode cX8_take 40 = .ok (.getfield 158, 3) := by decide +kernel
theorem dX8_take_43 : decode cX8_take 43 = .ok (.aload_n 0, 1) := by decide +kernel
theorem dX8_take_44 : decode cX8_take 44 = .ok (.iload_n 1, 1) := by decide +kernel
theorem dX8_take_45 : decode cX8_take 45 = .ok (.iload_n 2, 1) := by decide +kernel
theorem dX8_take_46 : decode cX8_take 46 = .ok (.invokevirtual 151, 3) := by decide +kernel
theorem dX8_take_49 : decode cX8_take 49 = .ok (.iastore, 1) := by decide +kernel
theorem dX8_take_50 : decode cX8_take 50 = .ok (.aload_n 0, 1) := by decide +kernel
theorem dX8_take_51 : decode cX8_take 51 = .ok (.getfield 75, 3) := by decide +kernel
theorem dX8_take_54 : decode cX8_take 54 = .ok (.aload_n 0, 1) := by decide +kernel
theorem dX8_take_55 : decode cX8_take 55 = .ok (.getfield 158, 3) := by decide +kernel
theorem dX8_take_58 : decode cX8_take 58 = .ok (.iconst 0, 1) := by decide +kernel
theorem dX8_take_59 : decode cX8_take 59 = .ok (.iastore, 1) := by decide +kernel
theorem dX8_take_60 : decode cX8_take 60 = .ok (.iconst 1, 1) := by decide +kernel
theorem dX8_take_61 : decode cX8_take 61 = .ok (.istore 4, 2) := by decide +kernel
theorem dX8_take_63 : decode cX8_take 63 = .ok (.iload 4, 2) := by decide +kernel
theorem dX8_take_65 : decode cX8_take 65 = .ok (.iload_n 3, 1) := by decide +kernel
theorem dX8_take_66 : decode cX8_take 66 = .ok (.if_icmp .gt 59, 3) := by decide +kernel
theorem dX8_take_69 : decode cX8_take 69 = .ok (.aload_n 0, 1) := by decide +kernel
theorem dX8_take_70 : decode cX8_take 70 = .ok (.getfield 78, 3) := by decide +kernel
theorem dX8_take_73 : decode cX8_take 73 = .ok (.iload 4, 2) := by decide +kernel
theorem dX8_take_75 : decode cX8_take 75 = .ok (.baload, 1) := by decide +kernel
theorem dX8_take_76 : decode cX8_take 76 = .ok (.ifCond .eq 43, 3) := by decide +kernel
theorem dX8_take_79 : decode cX8_take 79 = .ok (.aload_n 0, 1) := by decide +kernel
theorem dX8_take_80 : decode cX8_take 80 = .ok (.iload 4, 2) := by decide +kernel
theorem dX8_take_82 : decode cX8_take 82 = .ok (.iload_n 2, 1) := by decide +kernel
theorem dX8_take_83 : decode cX8_take 83 = .ok (.invokevirtual 151, 3) := by decide +kernel
theorem dX8_take_86 : decode cX8_take 86 = .ok (.aload_n 0, 1) := by decide +kernel
theorem dX8_take_87 : decode cX8_take 87 = .ok (.getfield 72, 3) := by decide +kernel
theorem dX8_take_90 : decode cX8_take 90 = .ok (.aload_n 0, 1) := by decide +kernel
theorem dX8_take_91 : decode cX8_take 91 = .ok (.getfield 158, 3) := by decide +kernel
theorem dX8_take_94 : decode cX8_take 94 = .ok (.iaload, 1) := by decide +kernel
theorem dX8_take_95 : decode cX8_take 95 = .ok (.if_icmp .ne 24, 3) := by decide +kernel
theorem dX8_take_98 : decode cX8_take 98 = .ok (.aload_n 0, 1) := by decide +kernel
theorem dX8_take_99 : decode cX8_take 99 = .ok (.getfield 78, 3) := by decide +kernel
theorem dX8_take_102 : decode cX8_take 102 = .ok (.iload 4, 2) := by decide +kernel
theorem dX8_take_104 : decode cX8_take 104 = .ok (.iconst 0, 1) := by decide +kernel
theorem dX8_take_105 : decode cX8_take 105 = .ok (.bastore, 1) := by decide +kernel
theorem dX8_take_106 : decode cX8_take 106 = .ok (.aload_n 0, 1) := by decide +kernel
theorem dX8_take_107 : decode cX8_take 107 = .ok (.getfield 75, 3) := by decide +kernel
theorem dX8_take_110 : decode cX8_take 110 = .ok (.aload_n 0, 1) := by decide +kernel
theorem dX8_take_111 : decode cX8_take 111 = .ok (.getfield 158, 3) := by decide +kernel
theorem dX8_take_114 : decode cX8_take 114 = .ok (.dup2, 1) := by decide +kernel
theorem dX8_take_115 : decode cX8_take 115 = .ok (.iaload, 1) := by decide +kernel
theorem dX8_take_116 : decode cX8_take 116 = .ok (.iconst 1, 1) := by decide +kernel
theorem dX8_take_117 : decode cX8_take 117 = .ok (.iadd, 1) := by decide +kernel
theorem dX8_take_118 : decode cX8_take 118 = .ok (.iastore, 1) := by decide +kernel
theorem dX8_take_119 : decode cX8_take 119 = .ok (.iinc 4 1, 3) := by decide +kernel
theorem dX8_take_122 : decode cX8_take 122 = .ok (.goto (-59), 3) := by decide +kernel
theorem dX8_take_125 : decode cX8_take 125 = .ok (.aload_n 0, 1) := by decide +kernel
theorem dX8_take_126 : decode cX8_take 126 = .ok (.dup, 1) := by decide +kernel
theorem dX8_take_127 : decode cX8_take 127 = .ok (.getfield 158, 3) := by decide +kernel
theorem dX8_take_130 : decode cX8_take 130 = .ok (.iconst 1, 1) := by decide +kernel
theorem dX8_take_131 : decode cX8_take 131 = .ok (.iadd, 1) := by decide +kernel
theorem dX8_take_132 : decode cX8_take 132 = .ok (.putfield 158, 3) := by decide +kernel
theorem dX8_take_135 : decode cX8_take 135 = .ok (.return_, 1) := by decide +kernel
theorem dX8_costNow_0 : decode cX8_costNow 0 = .ok (.aload_n 0, 1) := by decide +kernel
theorem dX8_costNow_1 : decode cX8_costNow 1 = .ok (.getfield 117, 3) := by decide +kernel
theorem dX8_costNow_4 : decode cX8_costNow 4 = .ok (.i2l, 1) := by decide +kernel
theorem dX8_costNow_5 : decode cX8_costNow 5 = .ok (.lconst 1, 1) := by decide +kernel
theorem dX8_costNow_6 : decode cX8_costNow 6 = .ok (.ladd, 1) := by decide +kernel
theorem dX8_costNow_7 : decode cX8_costNow 7 = .ok (.aload_n 0, 1) := by decide +kernel
theorem dX8_costNow_8 : decode cX8_costNow 8 = .ok (.getfield 81, 3) := by decide +kernel
theorem dX8_costNow_11 : decode cX8_costNow 11 = .ok (.i2l, 1) := by decide +kernel
theorem dX8_costNow_12 : decode cX8_costNow 12 = .ok (.lmul, 1) := by decide +kernel
theorem dX8_costNow_13 : decode cX8_costNow 13 = .ok (.lreturn, 1) := by decide +kernel
theorem dX8_ask_0 : decode cX8_ask 0 = .ok (.aload_n 0, 1) := by decide +kernel
theorem dX8_ask_1 : decode cX8_ask 1 = .ok (.iconst 0, 1) := by decide +kernel
theorem dX8_ask_2 : decode cX8_ask 2 = .ok (.putfield 85, 3) := by decide +kernel
theorem dX8_ask_5 : decode cX8_ask 5 = .ok (.iload_n 1, 1) := by decide +kernel
theorem dX8_ask_6 : decode cX8_ask 6 = .ok (.invokestatic 177, 3) := by decide +kernel
theorem dX8_ask_9 : decode cX8_ask 9 = .ok (.ifCond .ne 6, 3) := by decide +kernel
theorem dX8_ask_12 : decode cX8_ask 12 = .ok (.ldc 180, 2) := by decide +kernel
theorem dX8_ask_14 : decode cX8_ask 14 = .ok (.ireturn, 1) := by decide +kernel
theorem dX8_ask_15 : decode cX8_ask 15 = .ok (.aload_n 0, 1) := by decide +kernel
theorem dX8_ask_16 : decode cX8_ask 16 = .ok (.aload_n 0, 1) := by decide +kernel
theorem dX8_ask_17 : decode cX8_ask 17 = .ok (.getfield 32, 3) := by decide +kernel
theorem dX8_ask_20 : decode cX8_ask 20 = .ok (.iconst 0, 1) := by decide +kernel
theorem dX8_ask_21 : decode cX8_ask 21 = .ok (.aload_n 0, 1) := by decide +kernel
theorem dX8_ask_22 : decode cX8_ask 22 = .ok (.getfield 104, 3) := by decide +kernel
theorem dX8_ask_25 : decode cX8_ask 25 = .ok (.invokevirtual 181, 3) := by decide +kernel
theorem dX8_ask_28 : decode cX8_ask 28 = .ok (.aload_n 0, 1) := by decide +kernel
theorem dX8_ask_29 : decode cX8_ask 29 = .ok (.getfield 104, 3) := by decide +kernel
theorem dX8_ask_32 : decode cX8_ask 32 = .ok (.istore_n 2, 1) := by decide +kernel
theorem dX8_ask_33 : decode cX8_ask 33 = .ok (.aload_n 0, 1) := by decide +kernel
theorem dX8_ask_34 : decode cX8_ask 34 = .ok (.iconst 0, 1) := by decide +kernel
theorem dX8_ask_35 : decode cX8_ask 35 = .ok (.putfield 104, 3) := by decide +kernel
theorem dX8_ask_38 : decode cX8_ask 38 = .ok (.aload_n 0, 1) := by decide +kernel
theorem dX8_ask_39 : decode cX8_ask 39 = .ok (.getfield 114, 3) := by decide +kernel
theorem dX8_ask_42 : decode cX8_ask 42 = .ok (.ifCond .lt 10, 3) := by decide +kernel
theorem dX8_ask_45 : decode cX8_ask 45 = .ok (.iconst (-1), 1) := by decide +kernel
theorem dX8_ask_46 : decode cX8_ask 46 = .ok (.aload_n 0, 1) := by decide +kernel
theorem dX8_ask_47 : decode cX8_ask 47 = .ok (.getfield 114, 3) := by decide +kernel
theorem dX8_ask_50 : decode cX8_ask 50 = .ok (.isub, 1) := by decide +kernel
theorem dX8_ask_51 : decode cX8_ask 51 = .ok (.ireturn, 1) := by decide +kernel
theorem dX8_ask_52 : decode cX8_ask 52 = .ok (.aload_n 0, 1) := by decide +kernel
theorem dX8_ask_53 : decode cX8_ask 53 = .ok (.aload_n 0, 1) := by decide +kernel
theorem dX8_ask_54 : decode cX8_ask 54 = .ok (.invokevirtual 184, 3) := by decide +kernel
theorem dX8_ask_57 : decode cX8_ask 57 = .ok (.putfield 188, 3) := by decide +kernel
theorem dX8_ask_60 : decode cX8_ask 60 = .ok (.aload_n 0, 1) := by decide +kernel
theorem dX8_ask_61 : decode cX8_ask 61 = .ok (.getfield 188, 3) := by decide +kernel
theorem dX8_ask_64 : decode cX8_ask 64 = .ok (.aload_n 0, 1) := by decide +kernel
theorem dX8_ask_65 : decode cX8_ask 65 = .ok (.getfield 28, 3) := by decide +kernel
theorem dX8_ask_68 : decode cX8_ask 68 = .ok (.lcmp, 1) := by decide +kernel
theorem dX8_ask_69 : decode cX8_ask 69 = .ok (.ifCond .le 6, 3) := by decide +kernel
theorem dX8_ask_72 : decode cX8_ask 72 = .ok (.ldc 191, 2) := by decide +kernel
theorem dX8_ask_74 : decode cX8_ask 74 = .ok (.ireturn, 1) := by decide +kernel
theorem dX8_ask_75 : decode cX8_ask 75 = .ok (.aload_n 0, 1) := by decide +kernel
theorem dX8_ask_76 : decode cX8_ask 76 = .ok (.aload_n 0, 1) := by decide +kernel
theorem dX8_ask_77 : decode cX8_ask 77 = .ok (.getfield 32, 3) := by decide +kernel
theorem dX8_ask_80 : decode cX8_ask 80 = .ok (.iconst 0, 1) := by decide +kernel
theorem dX8_ask_81 : decode cX8_ask 81 = .ok (.iload_n 2, 1) := by decide +kernel
theorem dX8_ask_82 : decode cX8_ask 82 = .ok (.iload_n 1, 1) := by decide +kernel
theorem dX8_ask_83 : decode cX8_ask 83 = .ok (.aload_n 0, 1) := by decide +kernel
theorem dX8_ask_84 : decode cX8_ask 84 = .ok (.getfield 81, 3) := by decide +kernel
theorem dX8_ask_87 : decode cX8_ask 87 = .ok (.invokevirtual 192, 3) := by decide +kernel
theorem dX8_ask_90 : decode cX8_ask 90 = .ok (.aload_n 0, 1) := by decide +kernel
theorem dX8_ask_91 : decode cX8_ask 91 = .ok (.iconst 1, 1) := by decide +kernel
theorem dX8_ask_92 : decode cX8_ask 92 = .ok (.putfield 196, 3) := by decide +kernel
theorem dX8_ask_95 : decode cX8_ask 95 = .ok (.aload_n 0, 1) := by decide +kernel
theorem dX8_ask_96 : decode cX8_ask 96 = .ok (.iload_n 1, 1) := by decide +kernel
theorem dX8_ask_97 : decode cX8_ask 97 = .ok (.putfield 199, 3) := by decide +kernel
theorem dX8_ask_100 : decode cX8_ask 100 = .ok (.aload_n 0, 1) := by decide +kernel
theorem dX8_ask_101 : decode cX8_ask 101 = .ok (.iload_n 2, 1) := by decide +kernel
theorem dX8_ask_102 : decode cX8_ask 102 = .ok (.putfield 202, 3) := by decide +kernel
theorem dX8_ask_105 : decode cX8_ask 105 = .ok (.iconst 0, 1) := by decide +kernel
theorem dX8_ask_106 : decode cX8_ask 106 = .ok (.istore_n 3, 1) := by decide +kernel
theorem dX8_ask_107 : decode cX8_ask 107 = .ok (.iload_n 3, 1) := by decide +kernel
theorem dX8_ask_108 : decode cX8_ask 108 = .ok (.iload_n 2, 1) := by decide +kernel
theorem dX8_ask_109 : decode cX8_ask 109 = .ok (.if_icmp .ge 21, 3) := by decide +kernel
theorem dX8_ask_112 : decode cX8_ask 112 = .ok (.aload_n 0, 1) := by decide +kernel
theorem dX8_ask_113 : decode cX8_ask 113 = .ok (.getfield 35, 3) := by decide +kernel
theorem dX8_ask_116 : decode cX8_ask 116 = .ok (.iload_n 3, 1) := by decide +kernel
theorem dX8_ask_117 : decode cX8_ask 117 = .ok (.aload_n 0, 1) := by decide +kernel
theorem dX8_ask_118 : decode cX8_ask 118 = .ok (.getfield 32, 3) := by decide +kernel
theorem dX8_ask_121 : decode cX8_ask 121 = .ok (.iload_n 3, 1) := by decide +kernel
theorem dX8_ask_122 : decode cX8_ask 122 = .ok (.iaload, 1) := by decide +kernel
theorem dX8_ask_123 : decode cX8_ask 123 = .ok (.iastore, 1) := by decide +kernel
theorem dX8_ask_124 : decode cX8_ask 124 = .ok (.iinc 3 1, 3) := by decide +kernel
theorem dX8_ask_127 : decode cX8_ask 127 = .ok (.goto (-20), 3) := by decide +kernel
theorem dX8_ask_130 : decode cX8_ask 130 = .ok (.aload_n 0, 1) := by decide +kernel
theorem dX8_ask_131 : decode cX8_ask 131 = .ok (.aload_n 0, 1) := by decide +kernel
theorem dX8_ask_132 : decode cX8_ask 132 = .ok (.getfield 158, 3) := by decide +kernel
theorem dX8_ask_135 : decode cX8_ask 135 = .ok (.putfield 205, 3) := by decide +kernel
theorem dX8_ask_138 : decode cX8_ask 138 = .ok (.aload_n 0, 1) := by decide +kernel
theorem dX8_ask_139 : decode cX8_ask 139 = .ok (.aload_n 0, 1) := by decide +kernel
theorem dX8_ask_140 : decode cX8_ask 140 = .ok (.getfield 161, 3) := by decide +kernel
theorem dX8_ask_143 : decode cX8_ask 143 = .ok (.putfield 208, 3) := by decide +kernel
theorem dX8_ask_146 : decode cX8_ask 146 = .ok (.iconst 0, 1) := by decide +kernel
theorem dX8_ask_147 : decode cX8_ask 147 = .ok (.istore_n 3, 1) := by decide +kernel
theorem dX8_ask_148 : decode cX8_ask 148 = .ok (.iload_n 3, 1) := by decide +kernel
theorem dX8_ask_149 : decode cX8_ask 149 = .ok (.aload_n 0, 1) := by decide +kernel
theorem dX8_ask_150 : decode cX8_ask 150 = .ok (.getfield 158, 3) := by decide +kernel
theorem dX8_ask_153 : decode cX8_ask 153 = .ok (.if_icmp .ge 33, 3) := by decide +kernel
theorem dX8_ask_156 : decode cX8_ask 156 = .ok (.aload_n 0, 1) := by decide +kernel
theorem dX8_ask_157 : decode cX8_ask 157 = .ok (.getfield 66, 3) := by decide +kernel
theorem dX8_ask_160 : decode cX8_ask 160 = .ok (.iload_n 3, 1) := by decide +kernel
theorem dX8_ask_161 : decode cX8_ask 161 = .ok (.aload_n 0, 1) := by decide +kernel
theorem dX8_ask_162 : decode cX8_ask 162 = .ok (.getfield 72, 3) := by decide +kernel
theorem dX8_ask_165 : decode cX8_ask 165 = .ok (.iload_n 3, 1) := by decide +kernel
theorem dX8_ask_166 : decode cX8_ask 166 = .ok (.iaload, 1) := by decide +kernel
theorem dX8_ask_167 : decode cX8_ask 167 = .ok (.iastore, 1) := by decide +kernel
theorem dX8_ask_168 : decode cX8_ask 168 = .ok (.aload_n 0, 1) := by decide +kernel
theorem dX8_ask_169 : decode cX8_ask 169 = .ok (.getfield 69, 3) := by decide +kernel
theorem dX8_ask_172 : decode cX8_ask 172 = .ok (.iload_n 3, 1) := by decide +kernel
theorem dX8_ask_173 : decode cX8_ask 173 = .ok (.aload_n 0, 1) := by decide +kernel
theorem dX8_ask_174 : decode cX8_ask 174 = .ok (.getfield 75, 3) := by decide +kernel
theorem dX8_ask_177 : decode cX8_ask 177 = .ok (.iload_n 3, 1) := by decide +kernel
theorem dX8_ask_178 : decode cX8_ask 178 = .ok (.iaload, 1) := by decide +kernel
theorem dX8_ask_179 : decode cX8_ask 179 = .ok (.iastore, 1) := by decide +kernel
theorem dX8_ask_180 : decode cX8_ask 180 = .ok (.iinc 3 1, 3) := by decide +kernel
theorem dX8_ask_183 : decode cX8_ask 183 = .ok (.goto (-35), 3) := by decide +kernel
theorem dX8_ask_186 : decode cX8_ask 186 = .ok (.aload_n 0, 1) := by decide +kernel
theorem dX8_ask_187 : decode cX8_ask 187 = .ok (.getfield 205, 3) := by decide +kernel
theorem dX8_ask_190 : decode cX8_ask 190 = .ok (.ireturn, 1) := by decide +kernel
theorem dX8_found_0 : decode cX8_found 0 = .ok (.aload_n 0, 1) := by decide +kernel
theorem dX8_found_1 : decode cX8_found 1 = .ok (.iconst 0, 1) := by decide +kernel
theorem dX8_found_2 : decode cX8_found 2 = .ok (.putfield 85, 3) := by decide +kernel
theorem dX8_found_5 : decode cX8_found 5 = .ok (.iload_n 1, 1) := by decide +kernel
theorem dX8_found_6 : decode cX8_found 6 = .ok (.i2l, 1) := by decide +kernel
theorem dX8_found_7 : decode cX8_found 7 = .ok (.lconst 0, 1) := by decide +kernel
theorem dX8_found_8 : decode cX8_found 8 = .ok (.aload_n 0, 1) := by decide +kernel
theorem dX8_found_9 : decode cX8_found 9 = .ok (.getfield 205, 3) := by decide +kernel
theorem dX8_found_12 : decode cX8_found 12 = .ok (.iconst 1, 1) := by decide +kernel
theorem dX8_found_13 : decode cX8_found 13 = .ok (.isub, 1) := by decide +kernel
theorem dX8_found_14 : decode cX8_found 14 = .ok (.i2l, 1) := by decide +kernel
theorem dX8_found_15 : decode cX8_found 15 = .ok (.invokestatic 90, 3) := by decide +kernel
theorem dX8_found_18 : decode cX8_found 18 = .ok (.ifCond .eq 26, 3) := by decide +kernel
theorem dX8_found_21 : decode cX8_found 21 = .ok (.iload_n 2, 1) := by decide +kernel
theorem dX8_found_22 : decode cX8_found 22 = .ok (.i2l, 1) := by decide +kernel
theorem dX8_found_23 : decode cX8_found 23 = .ok (.lconst 0, 1) := by decide +kernel
theorem dX8_found_24 : decode cX8_found 24 = .ok (.aload_n 0, 1) := by decide +kernel
theorem dX8_found_25 : decode cX8_found 25 = .ok (.getfield 208, 3) := by decide +kernel
theorem dX8_found_28 : decode cX8_found 28 = .ok (.ifCond .eq 7, 3) := by decide +kernel
theorem dX8_found_31 : decode cX8_found 31 = .ok (.lconst 1, 1) := by decide +kernel
theorem dX8_found_32 : decode cX8_found 32 = .ok (.goto 6, 3) := by decide +kernel
theorem dX8_found_35 : decode cX8_found 35 = .ok (.ldc2_w 211, 3) := by decide +kernel
theorem dX8_found_38 : decode cX8_found 38 = .ok (.invokestatic 90, 3) := by decide +kernel
theorem dX8_found_41 : decode cX8_found 41 = .ok (.ifCond .ne 7, 3) := by decide +kernel
theorem dX8_found_44 : decode cX8_found 44 = .ok (.ldc2_w 213, 3) := by decide +kernel
theorem dX8_found_47 : decode cX8_found 47 = .ok (.lreturn, 1) := by decide +kernel
theorem dX8_found_48 : decode cX8_found 48 = .ok (.aload_n 0, 1) := by decide +kernel
theorem dX8_found_49 : decode cX8_found 49 = .ok (.getfield 208, 3) := by decide +kernel
theorem dX8_found_52 : decode cX8_found 52 = .ok (.ifCond .eq 25, 3) := by decide +kernel
theorem dX8_found_55 : decode cX8_found 55 = .ok (.iload_n 2, 1) := by decide +kernel
theorem dX8_found_56 : decode cX8_found 56 = .ok (.ifCond .ne 13, 3) := by decide +kernel
theorem dX8_found_59 : decode cX8_found 59 = .ok (.aload_n 0, 1) := by decide +kernel
theorem dX8_found_60 : decode cX8_found 60 = .ok (.getfield 66, 3) := by decide +kernel
theorem dX8_found_63 : decode cX8_found 63 = .ok (.iload_n 1, 1) := by decide +kernel
theorem dX8_found_64 : decode cX8_found 64 = .ok (.iaload, 1) := by decide +kernel
theorem dX8_found_65 : decode cX8_found 65 = .ok (.i2l, 1) := by decide +kernel
theorem dX8_found_66 : decode cX8_found 66 = .ok (.goto 10, 3) := by decide +kernel
theorem dX8_found_69 : decode cX8_found 69 = .ok (.aload_n 0, 1) := by decide +kernel
theorem dX8_found_70 : decode cX8_found 70 = .ok (.getfield 69, 3) := by decide +kernel
theorem dX8_found_73 : decode cX8_found 73 = .ok (.iload_n 1, 1) := by decide +kernel
theorem dX8_found_74 : decode cX8_found 74 = .ok (.iaload, 1) := by decide +kernel
theorem dX8_found_75 : decode cX8_found 75 = .ok (.i2l, 1) := by decide +kernel
theorem dX8_found_76 : decode cX8_found 76 = .ok (.lreturn, 1) := by decide +kernel
theorem dX8_found_77 : decode cX8_found 77 = .ok (.iload_n 2, 1) := by decide +kernel
theorem dX8_found_78 : decode cX8_found 78 = .ok (.ifCond .ne 13, 3) := by decide +kernel
theorem dX8_found_81 : decode cX8_found 81 = .ok (.aload_n 0, 1) := by decide +kernel
theorem dX8_found_82 : decode cX8_found 82 = .ok (.getfield 66, 3) := by decide +kernel
theorem dX8_found_85 : decode cX8_found 85 = .ok (.iload_n 1, 1) := by decide +kernel
theorem dX8_found_86 : decode cX8_found 86 = .ok (.iaload, 1) := by decide +kernel
theorem dX8_found_87 : decode cX8_found 87 = .ok (.i2l, 1) := by decide +kernel
theorem dX8_found_88 : decode cX8_found 88 = .ok (.goto 34, 3) := by decide +kernel
theorem dX8_found_91 : decode cX8_found 91 = .ok (.aload_n 0, 1) := by decide +kernel
theorem dX8_found_92 : decode cX8_found 92 = .ok (.getfield 22, 3) := by decide +kernel
theorem dX8_found_95 : decode cX8_found 95 = .ok (.iload_n 2, 1) := by decide +kernel
theorem dX8_found_96 : decode cX8_found 96 = .ok (.iconst 1, 1) := by decide +kernel
theorem dX8_found_97 : decode cX8_found 97 = .ok (.isub, 1) := by decide +kernel
theorem dX8_found_98 : decode cX8_found 98 = .ok (.baload, 1) := by decide +kernel
theorem dX8_found_99 : decode cX8_found 99 = .ok (.ifCond .eq 9, 3) := by decide +kernel
theorem dX8_found_102 : decode cX8_found 102 = .ok (.ldc2_w 213, 3) := by decide +kernel
theorem dX8_found_105 : decode cX8_found 105 = .ok (.goto 17, 3) := by decide +kernel
theorem dX8_found_108 : decode cX8_found 108 = .ok (.aload_n 0, 1) := by decide +kernel
theorem dX8_found_109 : decode cX8_found 109 = .ok (.aload_n 0, 1) := by decide +kernel
theorem dX8_found_110 : decode cX8_found 110 = .ok (.getfield 66, 3) := by decide +kernel
theorem dX8_found_113 : decode cX8_found 113 = .ok (.iload_n 1, 1) := by decide +kernel
theorem dX8_found_114 : decode cX8_found 114 = .ok (.iaload, 1) := by decide +kernel
theorem dX8_found_115 : decode cX8_found 115 = .ok (.iload_n 2, 1) := by decide +kernel
theorem dX8_found_116 : decode cX8_found 116 = .ok (.iconst 1, 1) := by decide +kernel
theorem dX8_found_117 : decode cX8_found 117 = .ok (.isub, 1) := by decide +kernel
theorem dX8_found_118 : decode cX8_found 118 = .ok (.invokevirtual 151, 3) := by decide +kernel
theorem dX8_found_121 : decode cX8_found 121 = .ok (.i2l, 1) := by decide +kernel
theorem dX8_found_122 : decode cX8_found 122 = .ok (.lreturn, 1) := by decide +kernel
theorem dX8_page_0 : decode cX8_page 0 = .ok (.aload_n 0, 1) := by decide +kernel
theorem dX8_page_1 : decode cX8_page 1 = .ok (.iconst 0, 1) := by decide +kernel
theorem dX8_page_2 : decode cX8_page 2 = .ok (.putfield 85, 3) := by decide +kernel
theorem dX8_page_5 : decode cX8_page 5 = .ok (.iload_n 1, 1) := by decide +kernel
theorem dX8_page_6 : decode cX8_page 6 = .ok (.ifCond .lt 29, 3) := by decide +kernel
theorem dX8_page_9 : decode cX8_page 9 = .ok (.lload_n 2, 1) := by decide +kernel
theorem dX8_page_10 : decode cX8_page 10 = .ok (.lconst 0, 1) := by decide +kernel
theorem dX8_page_11 : decode cX8_page 11 = .ok (.aload_n 0, 1) := by decide +kernel
theorem dX8_page_12 : decode cX8_page 12 = .ok (.getfield 81, 3) := by decide +kernel
theorem dX8_page_15 : decode cX8_page 15 = .ok (.i2l, 1) := by decide +kernel
theorem dX8_page_16 : decode cX8_page 16 = .ok (.invokestatic 90, 3) := by decide +kernel
theorem dX8_page_19 : decode cX8_page 19 = .ok (.ifCond .eq 16, 3) := by decide +kernel
theorem dX8_page_22 : decode cX8_page 22 = .ok (.iload 4, 2) := by decide +kernel
theorem dX8_page_24 : decode cX8_page 24 = .ok (.i2l, 1) := by decide +kernel
theorem dX8_page_25 : decode cX8_page 25 = .ok (.lconst 0, 1) := by decide +kernel
theorem dX8_page_26 : decode cX8_page 26 = .ok (.ldc2_w 215, 3) := by decide +kernel
theorem dX8_page_29 : decode cX8_page 29 = .ok (.invokestatic 90, 3) := by decide +kernel
theorem dX8_page_32 : decode cX8_page 32 = .ok (.ifCond .ne 6, 3) := by decide +kernel
theorem dX8_page_35 : decode cX8_page 35 = .ok (.ldc 102, 2) := by decide +kernel
theorem dX8_page_37 : decode cX8_page 37 = .ok (.ireturn, 1) := by decide +kernel
theorem dX8_page_38 : decode cX8_page 38 = .ok (.aload_n 0, 1) := by decide +kernel
theorem dX8_page_39 : decode cX8_page 39 = .ok (.getfield 196, 3) := by decide +kernel
theorem dX8_page_42 : decode cX8_page 42 = .ok (.ifCond .ne 5, 3) := by decide +kernel
theorem dX8_page_45 : decode cX8_page 45 = .ok (.iconst (-1), 1) := by decide +kernel
theorem dX8_page_46 : decode cX8_page 46 = .ok (.ireturn, 1) := by decide +kernel
theorem dX8_page_47 : decode cX8_page 47 = .ok (.aload_n 0, 1) := by decide +kernel
theorem dX8_page_48 : decode cX8_page 48 = .ok (.getfield 22, 3) := by decide +kernel
theorem dX8_page_51 : decode cX8_page 51 = .ok (.iconst 0, 1) := by decide +kernel
theorem dX8_page_52 : decode cX8_page 52 = .ok (.baload, 1) := by decide +kernel
theorem dX8_page_53 : decode cX8_page 53 = .ok (.istore 5, 2) := by decide +kernel
theorem dX8_page_55 : decode cX8_page 55 = .ok (.aload_n 0, 1) := by decide +kernel
theorem dX8_page_56 : decode cX8_page 56 = .ok (.getfield 22, 3) := by decide +kernel
theorem dX8_page_59 : decode cX8_page 59 = .ok (.iconst 1, 1) := by decide +kernel
theorem dX8_page_60 : decode cX8_page 60 = .ok (.baload, 1) := by decide +kernel
theorem dX8_page_61 : decode cX8_page 61 = .ok (.istore 6, 2) := by decide +kernel
theorem dX8_page_63 : decode cX8_page 63 = .ok (.aload_n 0, 1) := by decide +kernel
theorem dX8_page_64 : decode cX8_page 64 = .ok (.getfield 22, 3) := by decide +kernel
theorem dX8_page_67 : decode cX8_page 67 = .ok (.iconst 2, 1) := by decide +kernel
theorem dX8_page_68 : decode cX8_page 68 = .ok (.baload, 1) := by decide +kernel
theorem dX8_page_69 : decode cX8_page 69 = .ok (.istore 7, 2) := by decide +kernel
theorem dX8_page_71 : decode cX8_page 71 = .ok (.aload_n 0, 1) := by decide +kernel
theorem dX8_page_72 : decode cX8_page 72 = .ok (.getfield 22, 3) := by decide +kernel
theorem dX8_page_75 : decode cX8_page 75 = .ok (.iconst 3, 1) := by decide +kernel
theorem dX8_page_76 : decode cX8_page 76 = .ok (.baload, 1) := by decide +kernel
theorem dX8_page_77 : decode cX8_page 77 = .ok (.istore 8, 2) := by decide +kernel
theorem dX8_page_79 : decode cX8_page 79 = .ok (.aload_n 0, 1) := by decide +kernel
theorem dX8_page_80 : decode cX8_page 80 = .ok (.getfield 22, 3) := by decide +kernel
theorem dX8_page_83 : decode cX8_page 83 = .ok (.iconst 4, 1) := by decide +kernel
theorem dX8_page_84 : decode cX8_page 84 = .ok (.baload, 1) := by decide +kernel
theorem dX8_page_85 : decode cX8_page 85 = .ok (.istore 9, 2) := by decide +kernel
theorem dX8_page_87 : decode cX8_page 87 = .ok (.iconst 0, 1) := by decide +kernel
theorem dX8_page_88 : decode cX8_page 88 = .ok (.istore 10, 2) := by decide +kernel
theorem dX8_page_90 : decode cX8_page 90 = .ok (.iload 10, 2) := by decide +kernel
theorem dX8_page_92 : decode cX8_page 92 = .ok (.iconst 5, 1) := by decide +kernel
theorem dX8_page_93 : decode cX8_page 93 = .ok (.if_icmp .ge 17, 3) := by decide +kernel
theorem dX8_page_96 : decode cX8_page 96 = .ok (.aload_n 0, 1) := by decide +kernel
theorem dX8_page_97 : decode cX8_page 97 = .ok (.getfield 22, 3) := by decide +kernel
theorem dX8_page_100 : decode cX8_page 100 = .ok (.iload 10, 2) := by decide +kernel
theorem dX8_page_102 : decode cX8_page 102 = .ok (.iconst 0, 1) := by decide +kernel
theorem dX8_page_103 : decode cX8_page 103 = .ok (.bastore, 1) := by decide +kernel
theorem dX8_page_104 : decode cX8_page 104 = .ok (.iinc 10 1, 3) := by decide +kernel
theorem dX8_page_107 : decode cX8_page 107 = .ok (.goto (-17), 3) := by decide +kernel
theorem dX8_page_110 : decode cX8_page 110 = .ok (.aload_n 0, 1) := by decide +kernel
theorem dX8_page_111 : decode cX8_page 111 = .ok (.aload_n 0, 1) := by decide +kernel
theorem dX8_page_112 : decode cX8_page 112 = .ok (.getfield 35, 3) := by decide +kernel
theorem dX8_page_115 : decode cX8_page 115 = .ok (.iconst 0, 1) := by decide +kernel
theorem dX8_page_116 : decode cX8_page 116 = .ok (.aload_n 0, 1) := by decide +kernel
theorem dX8_page_117 : decode cX8_page 117 = .ok (.getfield 202, 3) := by decide +kernel
theorem dX8_page_120 : decode cX8_page 120 = .ok (.invokevirtual 181, 3) := by decide +kernel
theorem dX8_page_123 : decode cX8_page 123 = .ok (.aload_n 0, 1) := by decide +kernel
theorem dX8_page_124 : decode cX8_page 124 = .ok (.getfield 22, 3) := by decide +kernel
theorem dX8_page_127 : decode cX8_page 127 = .ok (.iconst 0, 1) := by decide +kernel
theorem dX8_page_128 : decode cX8_page 128 = .ok (.iload 5, 2) := by decide +kernel
theorem dX8_page_130 : decode cX8_page 130 = .ok (.bastore, 1) := by decide +kernel
theorem dX8_page_131 : decode cX8_page 131 = .ok (.aload_n 0, 1) := by decide +kernel
theorem dX8_page_132 : decode cX8_page 132 = .ok (.getfield 22, 3) := by decide +kernel
theorem dX8_page_135 : decode cX8_page 135 = .ok (.iconst 1, 1) := by decide +kernel
theorem dX8_page_136 : decode cX8_page 136 = .ok (.iload 6, 2) := by decide +kernel
theorem dX8_page_138 : decode cX8_page 138 = .ok (.bastore, 1) := by decide +kernel
theorem dX8_page_139 : decode cX8_page 139 = .ok (.aload_n 0, 1) := by decide +kernel
theorem dX8_page_140 : decode cX8_page 140 = .ok (.getfield 22, 3) := by decide +kernel
theorem dX8_page_143 : decode cX8_page 143 = .ok (.iconst 2, 1) := by decide +kernel
theorem dX8_page_144 : decode cX8_page 144 = .ok (.iload 7, 2) := by decide +kernel
theorem dX8_page_146 : decode cX8_page 146 = .ok (.bastore, 1) := by decide +kernel
theorem dX8_page_147 : decode cX8_page 147 = .ok (.aload_n 0, 1) := by decide +kernel
theorem dX8_page_148 : decode cX8_page 148 = .ok (.getfield 22, 3) := by decide +kernel
theorem dX8_page_151 : decode cX8_page 151 = .ok (.iconst 3, 1) := by decide +kernel
theorem dX8_page_152 : decode cX8_page 152 = .ok (.iload 8, 2) := by decide +kernel
theorem dX8_page_154 : decode cX8_page 154 = .ok (.bastore, 1) := by decide +kernel
theorem dX8_page_155 : decode cX8_page 155 = .ok (.aload_n 0, 1) := by decide +kernel
theorem dX8_page_156 : decode cX8_page 156 = .ok (.getfield 22, 3) := by decide +kernel
theorem dX8_page_159 : decode cX8_page 159 = .ok (.iconst 4, 1) := by decide +kernel
theorem dX8_page_160 : decode cX8_page 160 = .ok (.iload 9, 2) := by decide +kernel
theorem dX8_page_162 : decode cX8_page 162 = .ok (.bastore, 1) := by decide +kernel
theorem dX8_page_163 : decode cX8_page 163 = .ok (.aload_n 0, 1) := by decide +kernel
theorem dX8_page_164 : decode cX8_page 164 = .ok (.aload_n 0, 1) := by decide +kernel
theorem dX8_page_165 : decode cX8_page 165 = .ok (.getfield 35, 3) := by decide +kernel
theorem dX8_page_168 : decode cX8_page 168 = .ok (.iconst 0, 1) := by decide +kernel
theorem dX8_page_169 : decode cX8_page 169 = .ok (.aload_n 0, 1) := by decide +kernel
theorem dX8_page_170 : decode cX8_page 170 = .ok (.getfield 202, 3) := by decide +kernel
theorem dX8_page_173 : decode cX8_page 173 = .ok (.aload_n 0, 1) := by decide +kernel
theorem dX8_page_174 : decode cX8_page 174 = .ok (.getfield 199, 3) := by decide +kernel
theorem dX8_page_177 : decode cX8_page 177 = .ok (.lload_n 2, 1) := by decide +kernel
theorem dX8_page_178 : decode cX8_page 178 = .ok (.l2i, 1) := by decide +kernel
theorem dX8_page_179 : decode cX8_page 179 = .ok (.invokevirtual 192, 3) := by decide +kernel
theorem dX8_page_182 : decode cX8_page 182 = .ok (.ldc2_w 217, 3) := by decide +kernel
theorem dX8_page_185 : decode cX8_page 185 = .ok (.iload_n 1, 1) := by decide +kernel
theorem dX8_page_186 : decode cX8_page 186 = .ok (.i2l, 1) := by decide +kernel
theorem dX8_page_187 : decode cX8_page 187 = .ok (.lmul, 1) := by decide +kernel
theorem dX8_page_188 : decode cX8_page 188 = .ok (.iload 4, 2) := by decide +kernel
theorem dX8_page_190 : decode cX8_page 190 = .ok (.i2l, 1) := by decide +kernel
theorem dX8_page_191 : decode cX8_page 191 = .ok (.ladd, 1) := by decide +kernel
theorem dX8_page_192 : decode cX8_page 192 = .ok (.lstore 10, 2) := by decide +kernel
theorem dX8_page_194 : decode cX8_page 194 = .ok (.lload 10, 2) := by decide +kernel
theorem dX8_page_196 : decode cX8_page 196 = .ok (.aload_n 0, 1) := by decide +kernel
theorem dX8_page_197 : decode cX8_page 197 = .ok (.getfield 158, 3) := by decide +kernel
theorem dX8_page_200 : decode cX8_page 200 = .ok (.i2l, 1) := by decide +kernel
theorem dX8_page_201 : decode cX8_page 201 = .ok (.lcmp, 1) := by decide +kernel
theorem dX8_page_202 : decode cX8_page 202 = .ok (.ifCond .ge 14, 3) := by decide +kernel
theorem dX8_page_205 : decode cX8_page 205 = .ok (.aload_n 0, 1) := by decide +kernel
theorem dX8_page_206 : decode cX8_page 206 = .ok (.getfield 72, 3) := by decide +kernel
theorem dX8_page_209 : decode cX8_page 209 = .ok (.lload 10, 2) := by decide +kernel
theorem dX8_page_211 : decode cX8_page 211 = .ok (.l2i, 1) := by decide +kernel
theorem dX8_page_212 : decode cX8_page 212 = .ok (.iaload, 1) := by decide +kernel
theorem dX8_page_213 : decode cX8_page 213 = .ok (.goto 4, 3) := by decide +kernel
theorem dX8_page_216 : decode cX8_page 216 = .ok (.iconst (-1), 1) := by decide +kernel
theorem dX8_page_217 : decode cX8_page 217 = .ok (.ireturn, 1) := by decide +kernel
theorem dX8_right_0 : decode cX8_right 0 = .ok (.aload_n 0, 1) := by decide +kernel
theorem dX8_right_1 : decode cX8_right 1 = .ok (.iconst 0, 1) := by decide +kernel
theorem dX8_right_2 : decode cX8_right 2 = .ok (.putfield 85, 3) := by decide +kernel
theorem dX8_right_5 : decode cX8_right 5 = .ok (.iload_n 1, 1) := by decide +kernel
theorem dX8_right_6 : decode cX8_right 6 = .ok (.invokestatic 177, 3) := by decide +kernel
theorem dX8_right_9 : decode cX8_right 9 = .ok (.ifCond .ne 6, 3) := by decide +kernel
theorem dX8_right_12 : decode cX8_right 12 = .ok (.ldc 180, 2) := by decide +kernel
theorem dX8_right_14 : decode cX8_right 14 = .ok (.ireturn, 1) := by decide +kernel
theorem dX8_right_15 : decode cX8_right 15 = .ok (.iload_n 2, 1) := by decide +kernel
theorem dX8_right_16 : decode cX8_right 16 = .ok (.i2l, 1) := by decide +kernel
theorem dX8_right_17 : decode cX8_right 17 = .ok (.ldc2_w 213, 3) := by decide +kernel
theorem dX8_right_20 : decode cX8_right 20 = .ok (.ldc2_w 100, 3) := by decide +kernel
theorem dX8_right_23 : decode cX8_right 23 = .ok (.invokestatic 90, 3) := by decide +kernel
theorem dX8_right_26 : decode cX8_right 26 = .ok (.ifCond .eq 17, 3) := by decide +kernel
theorem dX8_right_29 : decode cX8_right 29 = .ok (.iload_n 3, 1) := by decide +kernel
theorem dX8_right_30 : decode cX8_right 30 = .ok (.i2l, 1) := by decide +kernel
theorem dX8_right_31 : decode cX8_right 31 = .ok (.ldc2_w 213, 3) := by decide +kernel
theorem dX8_right_34 : decode cX8_right 34 = .ok (.ldc2_w 96, 3) := by decide +kernel
theorem dX8_right_37 : decode cX8_right 37 = .ok (.invokestatic 90, 3) := by decide +kernel
theorem dX8_right_40 : decode cX8_right 40 = .ok (.ifCond .ne 6, 3) := by decide +kernel
theorem dX8_right_43 : decode cX8_right 43 = .ok (.ldc 102, 2) := by decide +kernel
theorem dX8_right_45 : decode cX8_right 45 = .ok (.ireturn, 1) := by decide +kernel
theorem dX8_right_46 : decode cX8_right 46 = .ok (.iconst 0, 1) := by decide +kernel
theorem dX8_right_47 : decode cX8_right 47 = .ok (.istore 4, 2) := by decide +kernel
theorem dX8_right_49 : decode cX8_right 49 = .ok (.iconst 0, 1) := by decide +kernel
theorem dX8_right_50 : decode cX8_right 50 = .ok (.istore 5, 2) := by decide +kernel
theorem dX8_right_52 : decode cX8_right 52 = .ok (.iconst 0, 1) := by decide +kernel
theorem dX8_right_53 : decode cX8_right 53 = .ok (.istore 6, 2) := by decide +kernel
theorem dX8_right_55 : decode cX8_right 55 = .ok (.iload 6, 2) := by decide +kernel
theorem dX8_right_57 : decode cX8_right 57 = .ok (.aload_n 0, 1) := by decide +kernel
theorem dX8_right_58 : decode cX8_right 58 = .ok (.getfield 155, 3) := by decide +kernel
theorem dX8_right_61 : decode cX8_right 61 = .ok (.if_icmp .ge 57, 3) := by decide +kernel
theorem dX8_right_64 : decode cX8_right 64 = .ok (.aload_n 0, 1) := by decide +kernel
theorem dX8_right_65 : decode cX8_right 65 = .ok (.getfield 13, 3) := by decide +kernel
theorem dX8_right_68 : decode cX8_right 68 = .ok (.iload 6, 2) := by decide +kernel
theorem dX8_right_70 : decode cX8_right 70 = .ok (.iaload, 1) := by decide +kernel
theorem dX8_right_71 : decode cX8_right 71 = .ok (.iload_n 1, 1) := by decide +kernel
theorem dX8_right_72 : decode cX8_right 72 = .ok (.if_icmp .ne 40, 3) := by decide +kernel
theorem dX8_right_75 : decode cX8_right 75 = .ok (.iinc 4 1, 3) := by decide +kernel
theorem dX8_right_78 : decode cX8_right 78 = .ok (.iload 5, 2) := by decide +kernel
theorem dX8_right_80 : decode cX8_right 80 = .ok (.ifCond .ne 25, 3) := by decide +kernel
theorem dX8_right_83 : decode cX8_right 83 = .ok (.aload_n 0, 1) := by decide +kernel
theorem dX8_right_84 : decode cX8_right 84 = .ok (.getfield 16, 3) := by decide +kernel
theorem dX8_right_87 : decode cX8_right 87 = .ok (.iload 6, 2) := by decide +kernel
theorem dX8_right_89 : decode cX8_right 89 = .ok (.iaload, 1) := by decide +kernel
theorem dX8_right_90 : decode cX8_right 90 = .ok (.iload_n 2, 1) := by decide +kernel
theorem dX8_right_91 : decode cX8_right 91 = .ok (.if_icmp .ne 18, 3) := by decide +kernel
theorem dX8_right_94 : decode cX8_right 94 = .ok (.aload_n 0, 1) := by decide +kernel
theorem dX8_right_95 : decode cX8_right 95 = .ok (.getfield 19, 3) := by decide +kernel
theorem dX8_right_98 : decode cX8_right 98 = .ok (.iload 6, 2) := by decide +kernel
theorem dX8_right_100 : decode cX8_right 100 = .ok (.iaload, 1) := by decide +kernel
theorem dX8_right_101 : decode cX8_right 101 = .ok (.iload_n 3, 1) := by decide +kernel
theorem dX8_right_102 : decode cX8_right 102 = .ok (.if_icmp .ne 7, 3) := by decide +kernel
theorem dX8_right_105 : decode cX8_right 105 = .ok (.iconst 1, 1) := by decide +kernel
theorem dX8_right_106 : decode cX8_right 106 = .ok (.goto 4, 3) := by decide +kernel
theorem dX8_right_109 : decode cX8_right 109 = .ok (.iconst 0, 1) := by decide +kernel
theorem dX8_right_110 : decode cX8_right 110 = .ok (.istore 5, 2) := by decide +kernel
theorem dX8_right_112 : decode cX8_right 112 = .ok (.iinc 6 1, 3) := by decide +kernel
theorem dX8_right_115 : decode cX8_right 115 = .ok (.goto (-60), 3) := by decide +kernel
theorem dX8_right_118 : decode cX8_right 118 = .ok (.iload 5, 2) := by decide +kernel
theorem dX8_right_120 : decode cX8_right 120 = .ok (.ifCond .eq 6, 3) := by decide +kernel
theorem dX8_right_123 : decode cX8_right 123 = .ok (.iload 4, 2) := by decide +kernel
theorem dX8_right_125 : decode cX8_right 125 = .ok (.ireturn, 1) := by decide +kernel
theorem dX8_right_126 : decode cX8_right 126 = .ok (.aload_n 0, 1) := by decide +kernel
theorem dX8_right_127 : decode cX8_right 127 = .ok (.getfield 155, 3) := by decide +kernel
theorem dX8_right_130 : decode cX8_right 130 = .ok (.bipush 100, 2) := by decide +kernel
theorem dX8_right_132 : decode cX8_right 132 = .ok (.if_icmp .ne 6, 3) := by decide +kernel
theorem dX8_right_135 : decode cX8_right 135 = .ok (.ldc 103, 2) := by decide +kernel
theorem dX8_right_137 : decode cX8_right 137 = .ok (.ireturn, 1) := by decide +kernel
theorem dX8_right_138 : decode cX8_right 138 = .ok (.aload_n 0, 1) := by decide +kernel
theorem dX8_right_139 : decode cX8_right 139 = .ok (.getfield 13, 3) := by decide +kernel
theorem dX8_right_142 : decode cX8_right 142 = .ok (.aload_n 0, 1) := by decide +kernel
theorem dX8_right_143 : decode cX8_right 143 = .ok (.getfield 155, 3) := by decide +kernel
theorem dX8_right_146 : decode cX8_right 146 = .ok (.iload_n 1, 1) := by decide +kernel
theorem dX8_right_147 : decode cX8_right 147 = .ok (.iastore, 1) := by decide +kernel
theorem dX8_right_148 : decode cX8_right 148 = .ok (.aload_n 0, 1) := by decide +kernel
theorem dX8_right_149 : decode cX8_right 149 = .ok (.getfield 16, 3) := by decide +kernel
theorem dX8_right_152 : decode cX8_right 152 = .ok (.aload_n 0, 1) := by decide +kernel
theorem dX8_right_153 : decode cX8_right 153 = .ok (.getfield 155, 3) := by decide +kernel
theorem dX8_right_156 : decode cX8_right 156 = .ok (.iload_n 2, 1) := by decide +kernel
theorem dX8_right_157 : decode cX8_right 157 = .ok (.iastore, 1) := by decide +kernel
theorem dX8_right_158 : decode cX8_right 158 = .ok (.aload_n 0, 1) := by decide +kernel
theorem dX8_right_159 : decode cX8_right 159 = .ok (.getfield 19, 3) := by decide +kernel
theorem dX8_right_162 : decode cX8_right 162 = .ok (.aload_n 0, 1) := by decide +kernel
theorem dX8_right_163 : decode cX8_right 163 = .ok (.getfield 155, 3) := by decide +kernel
theorem dX8_right_166 : decode cX8_right 166 = .ok (.iload_n 3, 1) := by decide +kernel
theorem dX8_right_167 : decode cX8_right 167 = .ok (.iastore, 1) := by decide +kernel
theorem dX8_right_168 : decode cX8_right 168 = .ok (.aload_n 0, 1) := by decide +kernel
theorem dX8_right_169 : decode cX8_right 169 = .ok (.dup, 1) := by decide +kernel
theorem dX8_right_170 : decode cX8_right 170 = .ok (.getfield 155, 3) := by decide +kernel
theorem dX8_right_173 : decode cX8_right 173 = .ok (.iconst 1, 1) := by decide +kernel
theorem dX8_right_174 : decode cX8_right 174 = .ok (.iadd, 1) := by decide +kernel
theorem dX8_right_175 : decode cX8_right 175 = .ok (.putfield 155, 3) := by decide +kernel
theorem dX8_right_178 : decode cX8_right 178 = .ok (.iload 4, 2) := by decide +kernel
theorem dX8_right_180 : decode cX8_right 180 = .ok (.iconst 1, 1) := by decide +kernel
theorem dX8_right_181 : decode cX8_right 181 = .ok (.iadd, 1) := by decide +kernel
theorem dX8_right_182 : decode cX8_right 182 = .ok (.ireturn, 1) := by decide +kernel
theorem dX8_masked_0 : decode cX8_masked 0 = .ok (.aload_n 0, 1) := by decide +kernel
theorem dX8_masked_1 : decode cX8_masked 1 = .ok (.iconst 0, 1) := by decide +kernel
theorem dX8_masked_2 : decode cX8_masked 2 = .ok (.putfield 85, 3) := by decide +kernel
theorem dX8_masked_5 : decode cX8_masked 5 = .ok (.iload_n 1, 1) := by decide +kernel
theorem dX8_masked_6 : decode cX8_masked 6 = .ok (.i2l, 1) := by decide +kernel
theorem dX8_masked_7 : decode cX8_masked 7 = .ok (.lconst 0, 1) := by decide +kernel
theorem dX8_masked_8 : decode cX8_masked 8 = .ok (.ldc2_w 219, 3) := by decide +kernel
theorem dX8_masked_11 : decode cX8_masked 11 = .ok (.invokestatic 90, 3) := by decide +kernel
theorem dX8_masked_14 : decode cX8_masked 14 = .ok (.ifCond .ne 6, 3) := by decide +kernel
theorem dX8_masked_17 : decode cX8_masked 17 = .ok (.ldc 102, 2) := by decide +kernel
theorem dX8_masked_19 : decode cX8_masked 19 = .ok (.ireturn, 1) := by decide +kernel
theorem dX8_masked_20 : decode cX8_masked 20 = .ok (.aload_n 0, 1) := by decide +kernel
theorem dX8_masked_21 : decode cX8_masked 21 = .ok (.getfield 22, 3) := by decide +kernel
theorem dX8_masked_24 : decode cX8_masked 24 = .ok (.iload_n 1, 1) := by decide +kernel
theorem dX8_masked_25 : decode cX8_masked 25 = .ok (.baload, 1) := by decide +kernel
theorem dX8_masked_26 : decode cX8_masked 26 = .ok (.iload_n 2, 1) := by decide +kernel
theorem dX8_masked_27 : decode cX8_masked 27 = .ok (.if_icmp .ne 7, 3) := by decide +kernel
theorem dX8_masked_30 : decode cX8_masked 30 = .ok (.iconst 0, 1) := by decide +kernel
theorem dX8_masked_31 : decode cX8_masked 31 = .ok (.goto 4, 3) := by decide +kernel
theorem dX8_masked_34 : decode cX8_masked 34 = .ok (.iconst 1, 1) := by decide +kernel
theorem dX8_masked_35 : decode cX8_masked 35 = .ok (.istore_n 3, 1) := by decide +kernel
theorem dX8_masked_36 : decode cX8_masked 36 = .ok (.aload_n 0, 1) := by decide +kernel
theorem dX8_masked_37 : decode cX8_masked 37 = .ok (.getfield 22, 3) := by decide +kernel
theorem dX8_masked_40 : decode cX8_masked 40 = .ok (.iload_n 1, 1) := by decide +kernel
theorem dX8_masked_41 : decode cX8_masked 41 = .ok (.iload_n 2, 1) := by decide +kernel
theorem dX8_masked_42 : decode cX8_masked 42 = .ok (.bastore, 1) := by decide +kernel
theorem dX8_masked_43 : decode cX8_masked 43 = .ok (.iload_n 3, 1) := by decide +kernel
theorem dX8_masked_44 : decode cX8_masked 44 = .ok (.ireturn, 1) := by decide +kernel
theorem dX8_cost_0 : decode cX8_cost 0 = .ok (.aload_n 0, 1) := by decide +kernel
theorem dX8_cost_1 : decode cX8_cost 1 = .ok (.iconst 0, 1) := by decide +kernel
theorem dX8_cost_2 : decode cX8_cost 2 = .ok (.putfield 85, 3) := by decide +kernel
theorem dX8_cost_5 : decode cX8_cost 5 = .ok (.aload_n 0, 1) := by decide +kernel
theorem dX8_cost_6 : decode cX8_cost 6 = .ok (.getfield 188, 3) := by decide +kernel
theorem dX8_cost_9 : decode cX8_cost 9 = .ok (.lreturn, 1) := by decide +kernel
theorem dX8_bound_0 : decode cX8_bound 0 = .ok (.aload_n 0, 1) := by decide +kernel
theorem dX8_bound_1 : decode cX8_bound 1 = .ok (.iconst 0, 1) := by decide +kernel
theorem dX8_bound_2 : decode cX8_bound 2 = .ok (.putfield 85, 3) := by decide +kernel
theorem dX8_bound_5 : decode cX8_bound 5 = .ok (.lload_n 1, 1) := by decide +kernel
theorem dX8_bound_6 : decode cX8_bound 6 = .ok (.lconst 0, 1) := by decide +kernel
theorem dX8_bound_7 : decode cX8_bound 7 = .ok (.ldc2_w 221, 3) := by decide +kernel
theorem dX8_bound_10 : decode cX8_bound 10 = .ok (.invokestatic 90, 3) := by decide +kernel
theorem dX8_bound_13 : decode cX8_bound 13 = .ok (.ifCond .ne 6, 3) := by decide +kernel
theorem dX8_bound_16 : decode cX8_bound 16 = .ok (.ldc 102, 2) := by decide +kernel
theorem dX8_bound_18 : decode cX8_bound 18 = .ok (.ireturn, 1) := by decide +kernel
theorem dX8_bound_19 : decode cX8_bound 19 = .ok (.aload_n 0, 1) := by decide +kernel
theorem dX8_bound_20 : decode cX8_bound 20 = .ok (.getfield 28, 3) := by decide +kernel
theorem dX8_bound_23 : decode cX8_bound 23 = .ok (.lstore_n 3, 1) := by decide +kernel
theorem dX8_bound_24 : decode cX8_bound 24 = .ok (.aload_n 0, 1) := by decide +kernel
theorem dX8_bound_25 : decode cX8_bound 25 = .ok (.lload_n 1, 1) := by decide +kernel
theorem dX8_bound_26 : decode cX8_bound 26 = .ok (.putfield 28, 3) := by decide +kernel
theorem dX8_bound_29 : decode cX8_bound 29 = .ok (.lload_n 3, 1) := by decide +kernel
theorem dX8_bound_30 : decode cX8_bound 30 = .ok (.l2i, 1) := by decide +kernel
theorem dX8_bound_31 : decode cX8_bound 31 = .ok (.ireturn, 1) := by decide +kernel
theorem dX8_save_0 : decode cX8_save 0 = .ok (.aload_n 0, 1) := by decide +kernel
theorem dX8_save_1 : decode cX8_save 1 = .ok (.iconst 0, 1) := by decide +kernel
theorem dX8_save_2 : decode cX8_save 2 = .ok (.putfield 85, 3) := by decide +kernel
theorem dX8_save_5 : decode cX8_save 5 = .ok (.iload_n 1, 1) := by decide +kernel
theorem dX8_save_6 : decode cX8_save 6 = .ok (.invokestatic 177, 3) := by decide +kernel
theorem dX8_save_9 : decode cX8_save 9 = .ok (.ifCond .ne 6, 3) := by decide +kernel
theorem dX8_save_12 : decode cX8_save 12 = .ok (.ldc 180, 2) := by decide +kernel
theorem dX8_save_14 : decode cX8_save 14 = .ok (.ireturn, 1) := by decide +kernel
theorem dX8_save_15 : decode cX8_save 15 = .ok (.lload_n 2, 1) := by decide +kernel
theorem dX8_save_16 : decode cX8_save 16 = .ok (.lconst 1, 1) := by decide +kernel
theorem dX8_save_17 : decode cX8_save 17 = .ok (.ldc2_w 223, 3) := by decide +kernel
theorem dX8_save_20 : decode cX8_save 20 = .ok (.invokestatic 90, 3) := by decide +kernel
theorem dX8_save_23 : decode cX8_save 23 = .ok (.ifCond .ne 6, 3) := by decide +kernel
theorem dX8_save_26 : decode cX8_save 26 = .ok (.ldc 102, 2) := by decide +kernel
theorem dX8_save_28 : decode cX8_save 28 = .ok (.ireturn, 1) := by decide +kernel
theorem dX8_save_29 : decode cX8_save 29 = .ok (.aload_n 0, 1) := by decide +kernel
theorem dX8_save_30 : decode cX8_save 30 = .ok (.aload_n 0, 1) := by decide +kernel
theorem dX8_save_31 : decode cX8_save 31 = .ok (.getfield 32, 3) := by decide +kernel
theorem dX8_save_34 : decode cX8_save 34 = .ok (.iconst 0, 1) := by decide +kernel
theorem dX8_save_35 : decode cX8_save 35 = .ok (.aload_n 0, 1) := by decide +kernel
theorem dX8_save_36 : decode cX8_save 36 = .ok (.getfield 104, 3) := by decide +kernel
theorem dX8_save_39 : decode cX8_save 39 = .ok (.invokevirtual 181, 3) := by decide +kernel
theorem dX8_save_42 : decode cX8_save 42 = .ok (.aload_n 0, 1) := by decide +kernel
theorem dX8_save_43 : decode cX8_save 43 = .ok (.getfield 104, 3) := by decide +kernel
theorem dX8_save_46 : decode cX8_save 46 = .ok (.istore 4, 2) := by decide +kernel
theorem dX8_save_48 : decode cX8_save 48 = .ok (.aload_n 0, 1) := by decide +kernel
theorem dX8_save_49 : decode cX8_save 49 = .ok (.iconst 0, 1) := by decide +kernel
theorem dX8_save_50 : decode cX8_save 50 = .ok (.putfield 104, 3) := by decide +kernel
theorem dX8_save_53 : decode cX8_save 53 = .ok (.aload_n 0, 1) := by decide +kernel
theorem dX8_save_54 : decode cX8_save 54 = .ok (.getfield 114, 3) := by decide +kernel
theorem dX8_save_57 : decode cX8_save 57 = .ok (.ifCond .lt 10, 3) := by decide +kernel
theorem dX8_save_60 : decode cX8_save 60 = .ok (.iconst (-1), 1) := by decide +kernel
theorem dX8_save_61 : decode cX8_save 61 = .ok (.aload_n 0, 1) := by decide +kernel
theorem dX8_save_62 : decode cX8_save 62 = .ok (.getfield 114, 3) := by decide +kernel
theorem dX8_save_65 : decode cX8_save 65 = .ok (.isub, 1) := by decide +kernel
theorem dX8_save_66 : decode cX8_save 66 = .ok (.ireturn, 1) := by decide +kernel
theorem dX8_save_67 : decode cX8_save 67 = .ok (.aload_n 0, 1) := by decide +kernel
theorem dX8_save_68 : decode cX8_save 68 = .ok (.getfield 225, 3) := by decide +kernel
theorem dX8_save_71 : decode cX8_save 71 = .ok (.bipush 20, 2) := by decide +kernel
theorem dX8_save_73 : decode cX8_save 73 = .ok (.if_icmp .ne 6, 3) := by decide +kernel
theorem dX8_save_76 : decode cX8_save 76 = .ok (.ldc 103, 2) := by decide +kernel
theorem dX8_save_78 : decode cX8_save 78 = .ok (.ireturn, 1) := by decide +kernel
theorem dX8_save_79 : decode cX8_save 79 = .ok (.iconst 0, 1) := by decide +kernel
theorem dX8_save_80 : decode cX8_save 80 = .ok (.istore 5, 2) := by decide +kernel
theorem dX8_save_82 : decode cX8_save 82 = .ok (.iload 5, 2) := by decide +kernel
theorem dX8_save_84 : decode cX8_save 84 = .ok (.iload 4, 2) := by decide +kernel
theorem dX8_save_86 : decode cX8_save 86 = .ok (.if_icmp .ge 32, 3) := by decide +kernel
theorem dX8_save_89 : decode cX8_save 89 = .ok (.aload_n 0, 1) := by decide +kernel
theorem dX8_save_90 : decode cX8_save 90 = .ok (.getfield 41, 3) := by decide +kernel
theorem dX8_save_93 : decode cX8_save 93 = .ok (.sipush 200, 3) := by decide +kernel
theorem dX8_save_96 : decode cX8_save 96 = .ok (.aload_n 0, 1) := by decide +kernel
theorem dX8_save_97 : decode cX8_save 97 = .ok (.getfield 225, 3) := by decide +kernel
theorem dX8_save_100 : decode cX8_save 100 = .ok (.imul, 1) := by decide +kernel
theorem dX8_save_101 : decode cX8_save 101 = .ok (.iload 5, 2) := by decide +kernel
theorem dX8_save_103 : decode cX8_save 103 = .ok (.iadd, 1) := by decide +kernel
theorem dX8_save_104 : decode cX8_save 104 = .ok (.aload_n 0, 1) := by decide +kernel
theorem dX8_save_105 : decode cX8_save 105 = .ok (.getfield 32, 3) := by decide +kernel
theorem dX8_save_108 : decode cX8_save 108 = .ok (.iload 5, 2) := by decide +kernel
theorem dX8_save_110 : decode cX8_save 110 = .ok (.iaload, 1) := by decide +kernel
theorem dX8_save_111 : decode cX8_save 111 = .ok (.iastore, 1) := by decide +kernel
theorem dX8_save_112 : decode cX8_save 112 = .ok (.iinc 5 1, 3) := by decide +kernel
theorem dX8_save_115 : decode cX8_save 115 = .ok (.goto (-33), 3) := by decide +kernel
theorem dX8_save_118 : decode cX8_save 118 = .ok (.aload_n 0, 1) := by decide +kernel
theorem dX8_save_119 : decode cX8_save 119 = .ok (.getfield 38, 3) := by decide +kernel
theorem dX8_save_122 : decode cX8_save 122 = .ok (.aload_n 0, 1) := by decide +kernel
theorem dX8_save_123 : decode cX8_save 123 = .ok (.getfield 225, 3) := by decide +kernel
theorem dX8_save_126 : decode cX8_save 126 = .ok (.iload 4, 2) := by decide +kernel
theorem dX8_save_128 : decode cX8_save 128 = .ok (.iastore, 1) := by decide +kernel
theorem dX8_save_129 : decode cX8_save 129 = .ok (.aload_n 0, 1) := by decide +kernel
theorem dX8_save_130 : decode cX8_save 130 = .ok (.getfield 44, 3) := by decide +kernel
theorem dX8_save_133 : decode cX8_save 133 = .ok (.aload_n 0, 1) := by decide +kernel
theorem dX8_save_134 : decode cX8_save 134 = .ok (.getfield 225, 3) := by decide +kernel
theorem dX8_save_137 : decode cX8_save 137 = .ok (.iload_n 1, 1) := by decide +kernel
theorem dX8_save_138 : decode cX8_save 138 = .ok (.iastore, 1) := by decide +kernel
theorem dX8_save_139 : decode cX8_save 139 = .ok (.aload_n 0, 1) := by decide +kernel
theorem dX8_save_140 : decode cX8_save 140 = .ok (.getfield 47, 3) := by decide +kernel
theorem dX8_save_143 : decode cX8_save 143 = .ok (.aload_n 0, 1) := by decide +kernel
theorem dX8_save_144 : decode cX8_save 144 = .ok (.getfield 225, 3) := by decide +kernel
theorem dX8_save_147 : decode cX8_save 147 = .ok (.lload_n 2, 1) := by decide +kernel
theorem dX8_save_148 : decode cX8_save 148 = .ok (.lastore, 1) := by decide +kernel
theorem dX8_save_149 : decode cX8_save 149 = .ok (.aload_n 0, 1) := by decide +kernel
theorem dX8_save_150 : decode cX8_save 150 = .ok (.getfield 51, 3) := by decide +kernel
theorem dX8_save_153 : decode cX8_save 153 = .ok (.aload_n 0, 1) := by decide +kernel
theorem dX8_save_154 : decode cX8_save 154 = .ok (.getfield 225, 3) := by decide +kernel
theorem dX8_save_157 : decode cX8_save 157 = .ok (.aload_n 0, 1) := by decide +kernel
theorem dX8_save_158 : decode cX8_save 158 = .ok (.getfield 228, 3) := by decide +kernel
theorem dX8_save_161 : decode cX8_save 161 = .ok (.lload_n 2, 1) := by decide +kernel
theorem dX8_save_162 : decode cX8_save 162 = .ok (.ladd, 1) := by decide +kernel
theorem dX8_save_163 : decode cX8_save 163 = .ok (.lastore, 1) := by decide +kernel
theorem dX8_save_164 : decode cX8_save 164 = .ok (.aload_n 0, 1) := by decide +kernel
theorem dX8_save_165 : decode cX8_save 165 = .ok (.getfield 54, 3) := by decide +kernel
theorem dX8_save_168 : decode cX8_save 168 = .ok (.aload_n 0, 1) := by decide +kernel
theorem dX8_save_169 : decode cX8_save 169 = .ok (.getfield 225, 3) := by decide +kernel
theorem dX8_save_172 : decode cX8_save 172 = .ok (.iconst (-1), 1) := by decide +kernel
theorem dX8_save_173 : decode cX8_save 173 = .ok (.iastore, 1) := by decide +kernel
theorem dX8_save_174 : decode cX8_save 174 = .ok (.aload_n 0, 1) := by decide +kernel
theorem dX8_save_175 : decode cX8_save 175 = .ok (.dup, 1) := by decide +kernel
theorem dX8_save_176 : decode cX8_save 176 = .ok (.getfield 225, 3) := by decide +kernel
theorem dX8_save_179 : decode cX8_save 179 = .ok (.iconst 1, 1) := by decide +kernel
theorem dX8_save_180 : decode cX8_save 180 = .ok (.iadd, 1) := by decide +kernel
theorem dX8_save_181 : decode cX8_save 181 = .ok (.putfield 225, 3) := by decide +kernel
theorem dX8_save_184 : decode cX8_save 184 = .ok (.aload_n 0, 1) := by decide +kernel
theorem dX8_save_185 : decode cX8_save 185 = .ok (.getfield 225, 3) := by decide +kernel
theorem dX8_save_188 : decode cX8_save 188 = .ok (.ireturn, 1) := by decide +kernel
theorem dX8_askKept_0 : decode cX8_askKept 0 = .ok (.aload_n 0, 1) := by decide +kernel
theorem dX8_askKept_1 : decode cX8_askKept 1 = .ok (.aload_n 0, 1) := by decide +kernel
theorem dX8_askKept_2 : decode cX8_askKept 2 = .ok (.getfield 41, 3) := by decide +kernel
theorem dX8_askKept_5 : decode cX8_askKept 5 = .ok (.sipush 200, 3) := by decide +kernel
theorem dX8_askKept_8 : decode cX8_askKept 8 = .ok (.iload_n 1, 1) := by decide +kernel
theorem dX8_askKept_9 : decode cX8_askKept 9 = .ok (.imul, 1) := by decide +kernel
theorem dX8_askKept_10 : decode cX8_askKept 10 = .ok (.aload_n 0, 1) := by decide +kernel
theorem dX8_askKept_11 : decode cX8_askKept 11 = .ok (.getfield 38, 3) := by decide +kernel
theorem dX8_askKept_14 : decode cX8_askKept 14 = .ok (.iload_n 1, 1) := by decide +kernel
theorem dX8_askKept_15 : decode cX8_askKept 15 = .ok (.iaload, 1) := by decide +kernel
theorem dX8_askKept_16 : decode cX8_askKept 16 = .ok (.invokevirtual 181, 3) := by decide +kernel
theorem dX8_askKept_19 : decode cX8_askKept 19 = .ok (.aload_n 0, 1) := by decide +kernel
theorem dX8_askKept_20 : decode cX8_askKept 20 = .ok (.getfield 54, 3) := by decide +kernel
theorem dX8_askKept_23 : decode cX8_askKept 23 = .ok (.iload_n 1, 1) := by decide +kernel
theorem dX8_askKept_24 : decode cX8_askKept 24 = .ok (.iconst (-1), 1) := by decide +kernel
theorem dX8_askKept_25 : decode cX8_askKept 25 = .ok (.iastore, 1) := by decide +kernel
theorem dX8_askKept_26 : decode cX8_askKept 26 = .ok (.aload_n 0, 1) := by decide +kernel
theorem dX8_askKept_27 : decode cX8_askKept 27 = .ok (.getfield 114, 3) := by decide +kernel
theorem dX8_askKept_30 : decode cX8_askKept 30 = .ok (.ifCond .ge 54, 3) := by decide +kernel
theorem dX8_askKept_33 : decode cX8_askKept 33 = .ok (.aload_n 0, 1) := by decide +kernel
theorem dX8_askKept_34 : decode cX8_askKept 34 = .ok (.invokevirtual 184, 3) := by decide +kernel
theorem dX8_askKept_37 : decode cX8_askKept 37 = .ok (.aload_n 0, 1) := by decide +kernel
theorem dX8_askKept_38 : decode cX8_askKept 38 = .ok (.getfield 28, 3) := by decide +kernel
theorem dX8_askKept_41 : decode cX8_askKept 41 = .ok (.lcmp, 1) := by decide +kernel
theorem dX8_askKept_42 : decode cX8_askKept 42 = .ok (.ifCond .gt 42, 3) := by decide +kernel
theorem dX8_askKept_45 : decode cX8_askKept 45 = .ok (.aload_n 0, 1) := by decide +kernel
theorem dX8_askKept_46 : decode cX8_askKept 46 = .ok (.aload_n 0, 1) := by decide +kernel
theorem dX8_askKept_47 : decode cX8_askKept 47 = .ok (.getfield 41, 3) := by decide +kernel
theorem dX8_askKept_50 : decode cX8_askKept 50 = .ok (.sipush 200, 3) := by decide +kernel
theorem dX8_askKept_53 : decode cX8_askKept 53 = .ok (.iload_n 1, 1) := by decide +kernel
theorem dX8_askKept_54 : decode cX8_askKept 54 = .ok (.imul, 1) := by decide +kernel
theorem dX8_askKept_55 : decode cX8_askKept 55 = .ok (.aload_n 0, 1) := by decide +kernel
theorem dX8_askKept_56 : decode cX8_askKept 56 = .ok (.getfield 38, 3) := by decide +kernel
theorem dX8_askKept_59 : decode cX8_askKept 59 = .ok (.iload_n 1, 1) := by decide +kernel
theorem dX8_askKept_60 : decode cX8_askKept 60 = .ok (.iaload, 1) := by decide +kernel
theorem dX8_askKept_61 : decode cX8_askKept 61 = .ok (.aload_n 0, 1) := by decide +kernel
theorem dX8_askKept_62 : decode cX8_askKept 62 = .ok (.getfield 44, 3) := by decide +kernel
theorem dX8_askKept_65 : decode cX8_askKept 65 = .ok (.iload_n 1, 1) := by decide +kernel
theorem dX8_askKept_66 : decode cX8_askKept 66 = .ok (.iaload, 1) := by decide +kernel
theorem dX8_askKept_67 : decode cX8_askKept 67 = .ok (.aload_n 0, 1) := by decide +kernel
theorem dX8_askKept_68 : decode cX8_askKept 68 = .ok (.getfield 81, 3) := by decide +kernel
theorem dX8_askKept_71 : decode cX8_askKept 71 = .ok (.invokevirtual 192, 3) := by decide +kernel
theorem dX8_askKept_74 : decode cX8_askKept 74 = .ok (.aload_n 0, 1) := by decide +kernel
theorem dX8_askKept_75 : decode cX8_askKept 75 = .ok (.getfield 54, 3) := by decide +kernel
theorem dX8_askKept_78 : decode cX8_askKept 78 = .ok (.iload_n 1, 1) := by decide +kernel
theorem dX8_askKept_79 : decode cX8_askKept 79 = .ok (.aload_n 0, 1) := by decide +kernel
theorem dX8_askKept_80 : decode cX8_askKept 80 = .ok (.getfield 158, 3) := by decide +kernel
theorem dX8_askKept_83 : decode cX8_askKept 83 = .ok (.iastore, 1) := by decide +kernel
theorem dX8_askKept_84 : decode cX8_askKept 84 = .ok (.return_, 1) := by decide +kernel
theorem dX8_tick_0 : decode cX8_tick 0 = .ok (.aload_n 0, 1) := by decide +kernel
theorem dX8_tick_1 : decode cX8_tick 1 = .ok (.iconst 0, 1) := by decide +kernel
theorem dX8_tick_2 : decode cX8_tick 2 = .ok (.putfield 85, 3) := by decide +kernel
theorem dX8_tick_5 : decode cX8_tick 5 = .ok (.lload_n 1, 1) := by decide +kernel
theorem dX8_tick_6 : decode cX8_tick 6 = .ok (.aload_n 0, 1) := by decide +kernel
theorem dX8_tick_7 : decode cX8_tick 7 = .ok (.getfield 228, 3) := by decide +kernel
theorem dX8_tick_10 : decode cX8_tick 10 = .ok (.lcmp, 1) := by decide +kernel
theorem dX8_tick_11 : decode cX8_tick 11 = .ok (.ifCond .lt 16, 3) := by decide +kernel
theorem dX8_tick_14 : decode cX8_tick 14 = .ok (.lload_n 1, 1) := by decide +kernel
theorem dX8_tick_15 : decode cX8_tick 15 = .ok (.aload_n 0, 1) := by decide +kernel
theorem dX8_tick_16 : decode cX8_tick 16 = .ok (.getfield 228, 3) := by decide +kernel
theorem dX8_tick_19 : decode cX8_tick 19 = .ok (.lsub, 1) := by decide +kernel
theorem dX8_tick_20 : decode cX8_tick 20 = .ok (.ldc2_w 223, 3) := by decide +kernel
theorem dX8_tick_23 : decode cX8_tick 23 = .ok (.lcmp, 1) := by decide +kernel
theorem dX8_tick_24 : decode cX8_tick 24 = .ok (.ifCond .le 6, 3) := by decide +kernel
theorem dX8_tick_27 : decode cX8_tick 27 = .ok (.ldc 102, 2) := by decide +kernel
theorem dX8_tick_29 : decode cX8_tick 29 = .ok (.ireturn, 1) := by decide +kernel
theorem dX8_tick_30 : decode cX8_tick 30 = .ok (.aload_n 0, 1) := by decide +kernel
theorem dX8_tick_31 : decode cX8_tick 31 = .ok (.lload_n 1, 1) := by decide +kernel
theorem dX8_tick_32 : decode cX8_tick 32 = .ok (.putfield 228, 3) := by decide +kernel
theorem dX8_tick_35 : decode cX8_tick 35 = .ok (.iconst 0, 1) := by decide +kernel
theorem dX8_tick_36 : decode cX8_tick 36 = .ok (.istore_n 3, 1) := by decide +kernel
theorem dX8_tick_37 : decode cX8_tick 37 = .ok (.iconst 0, 1) := by decide +kernel
theorem dX8_tick_38 : decode cX8_tick 38 = .ok (.istore 4, 2) := by decide +kernel
theorem dX8_tick_40 : decode cX8_tick 40 = .ok (.iload 4, 2) := by decide +kernel
theorem dX8_tick_42 : decode cX8_tick 42 = .ok (.aload_n 0, 1) := by decide +kernel
theorem dX8_tick_43 : decode cX8_tick 43 = .ok (.getfield 225, 3) := by decide +kernel
theorem dX8_tick_46 : decode cX8_tick 46 = .ok (.if_icmp .ge 79, 3) := by decide +kernel
theorem dX8_tick_49 : decode cX8_tick 49 = .ok (.aload_n 0, 1) := by decide +kernel
theorem dX8_tick_50 : decode cX8_tick 50 = .ok (.getfield 51, 3) := by decide +kernel
theorem dX8_tick_53 : decode cX8_tick 53 = .ok (.iload 4, 2) := by decide +kernel
theorem dX8_tick_55 : decode cX8_tick 55 = .ok (.laload, 1) := by decide +kernel
theorem dX8_tick_56 : decode cX8_tick 56 = .ok (.lload_n 1, 1) := by decide +kernel
theorem dX8_tick_57 : decode cX8_tick 57 = .ok (.lcmp, 1) := by decide +kernel
theorem dX8_tick_58 : decode cX8_tick 58 = .ok (.ifCond .gt 7, 3) := by decide +kernel
theorem dX8_tick_61 : decode cX8_tick 61 = .ok (.iconst 1, 1) := by decide +kernel
theorem dX8_tick_62 : decode cX8_tick 62 = .ok (.goto 4, 3) := by decide +kernel
theorem dX8_tick_65 : decode cX8_tick 65 = .ok (.iconst 0, 1) := by decide +kernel
theorem dX8_tick_66 : decode cX8_tick 66 = .ok (.istore 5, 2) := by decide +kernel
theorem dX8_tick_68 : decode cX8_tick 68 = .ok (.aload_n 0, 1) := by decide +kernel
theorem dX8_tick_69 : decode cX8_tick 69 = .ok (.getfield 51, 3) := by decide +kernel
theorem dX8_tick_72 : decode cX8_tick 72 = .ok (.iload 4, 2) := by decide +kernel
theorem dX8_tick_74 : decode cX8_tick 74 = .ok (.laload, 1) := by decide +kernel
theorem dX8_tick_75 : decode cX8_tick 75 = .ok (.lload_n 1, 1) := by decide +kernel
theorem dX8_tick_76 : decode cX8_tick 76 = .ok (.lcmp, 1) := by decide +kernel
theorem dX8_tick_77 : decode cX8_tick 77 = .ok (.ifCond .gt 31, 3) := by decide +kernel
theorem dX8_tick_80 : decode cX8_tick 80 = .ok (.aload_n 0, 1) := by decide +kernel
theorem dX8_tick_81 : decode cX8_tick 81 = .ok (.getfield 51, 3) := by decide +kernel
theorem dX8_tick_84 : decode cX8_tick 84 = .ok (.iload 4, 2) := by decide +kernel
theorem dX8_tick_86 : decode cX8_tick 86 = .ok (.aload_n 0, 1) := by decide +kernel
theorem dX8_tick_87 : decode cX8_tick 87 = .ok (.getfield 51, 3) := by decide +kernel
theorem dX8_tick_90 : decode cX8_tick 90 = .ok (.iload 4, 2) := by decide +kernel
theorem dX8_tick_92 : decode cX8_tick 92 = .ok (.laload, 1) := by decide +kernel
theorem dX8_tick_93 : decode cX8_tick 93 = .ok (.aload_n 0, 1) := by decide +kernel
theorem dX8_tick_94 : decode cX8_tick 94 = .ok (.getfield 47, 3) := by decide +kernel
theorem dX8_tick_97 : decode cX8_tick 97 = .ok (.iload 4, 2) := by decide +kernel
theorem dX8_tick_99 : decode cX8_tick 99 = .ok (.laload, 1) := by decide +kernel
theorem dX8_tick_100 : decode cX8_tick 100 = .ok (.ladd, 1) := by decide +kernel
theorem dX8_tick_101 : decode cX8_tick 101 = .ok (.lastore, 1) := by decide +kernel
theorem dX8_tick_102 : decode cX8_tick 102 = .ok (.iinc 3 1, 3) := by decide +kernel
theorem dX8_tick_105 : decode cX8_tick 105 = .ok (.goto (-37), 3) := by decide +kernel
theorem dX8_tick_108 : decode cX8_tick 108 = .ok (.iload 5, 2) := by decide +kernel
theorem dX8_tick_110 : decode cX8_tick 110 = .ok (.ifCond .eq 9, 3) := by decide +kernel
theorem dX8_tick_113 : decode cX8_tick 113 = .ok (.aload_n 0, 1) := by decide +kernel
theorem dX8_tick_114 : decode cX8_tick 114 = .ok (.iload 4, 2) := by decide +kernel
theorem dX8_tick_116 : decode cX8_tick 116 = .ok (.invokevirtual 231, 3) := by decide +kernel
theorem dX8_tick_119 : decode cX8_tick 119 = .ok (.iinc 4 1, 3) := by decide +kernel
theorem dX8_tick_122 : decode cX8_tick 122 = .ok (.goto (-82), 3) := by decide +kernel
theorem dX8_tick_125 : decode cX8_tick 125 = .ok (.iload_n 3, 1) := by decide +kernel
theorem dX8_tick_126 : decode cX8_tick 126 = .ok (.ireturn, 1) := by decide +kernel
theorem dX8_saved_0 : decode cX8_saved 0 = .ok (.aload_n 0, 1) := by decide +kernel
theorem dX8_saved_1 : decode cX8_saved 1 = .ok (.iconst 0, 1) := by decide +kernel
theorem dX8_saved_2 : decode cX8_saved 2 = .ok (.putfield 85, 3) := by decide +kernel
theorem dX8_saved_5 : decode cX8_saved 5 = .ok (.iload_n 1, 1) := by decide +kernel
theorem dX8_saved_6 : decode cX8_saved 6 = .ok (.i2l, 1) := by decide +kernel
theorem dX8_saved_7 : decode cX8_saved 7 = .ok (.lconst 1, 1) := by decide +kernel
theorem dX8_saved_8 : decode cX8_saved 8 = .ok (.aload_n 0, 1) := by decide +kernel
theorem dX8_saved_9 : decode cX8_saved 9 = .ok (.getfield 225, 3) := by decide +kernel
theorem dX8_saved_12 : decode cX8_saved 12 = .ok (.i2l, 1) := by decide +kernel
theorem dX8_saved_13 : decode cX8_saved 13 = .ok (.invokestatic 90, 3) := by decide +kernel
theorem dX8_saved_16 : decode cX8_saved 16 = .ok (.ifCond .eq 14, 3) := by decide +kernel
theorem dX8_saved_19 : decode cX8_saved 19 = .ok (.aload_n 0, 1) := by decide +kernel
theorem dX8_saved_20 : decode cX8_saved 20 = .ok (.getfield 54, 3) := by decide +kernel
theorem dX8_saved_23 : decode cX8_saved 23 = .ok (.iload_n 1, 1) := by decide +kernel
theorem dX8_saved_24 : decode cX8_saved 24 = .ok (.iconst 1, 1) := by decide +kernel
theorem dX8_saved_25 : decode cX8_saved 25 = .ok (.isub, 1) := by decide +kernel
theorem dX8_saved_26 : decode cX8_saved 26 = .ok (.iaload, 1) := by decide +kernel
theorem dX8_saved_27 : decode cX8_saved 27 = .ok (.goto 5, 3) := by decide +kernel
theorem dX8_saved_30 : decode cX8_saved 30 = .ok (.ldc 180, 2) := by decide +kernel
theorem dX8_saved_32 : decode cX8_saved 32 = .ok (.ireturn, 1) := by decide +kernel
theorem dX8_scan_0 : decode cX8_scan 0 = .ok (.aload_n 0, 1) := by decide +kernel
theorem dX8_scan_1 : decode cX8_scan 1 = .ok (.iconst 0, 1) := by decide +kernel
theorem dX8_scan_2 : decode cX8_scan 2 = .ok (.putfield 85, 3) := by decide +kernel
theorem dX8_scan_5 : decode cX8_scan 5 = .ok (.iload_n 1, 1) := by decide +kernel
theorem dX8_scan_6 : decode cX8_scan 6 = .ok (.invokestatic 177, 3) := by decide +kernel
theorem dX8_scan_9 : decode cX8_scan 9 = .ok (.ifCond .ne 6, 3) := by decide +kernel
theorem dX8_scan_12 : decode cX8_scan 12 = .ok (.ldc 180, 2) := by decide +kernel
theorem dX8_scan_14 : decode cX8_scan 14 = .ok (.ireturn, 1) := by decide +kernel
theorem dX8_scan_15 : decode cX8_scan 15 = .ok (.iconst 0, 1) := by decide +kernel
theorem dX8_scan_16 : decode cX8_scan 16 = .ok (.istore_n 2, 1) := by decide +kernel
theorem dX8_scan_17 : decode cX8_scan 17 = .ok (.iconst 1, 1) := by decide +kernel
theorem dX8_scan_18 : decode cX8_scan 18 = .ok (.istore_n 3, 1) := by decide +kernel
theorem dX8_scan_19 : decode cX8_scan 19 = .ok (.iload_n 3, 1) := by decide +kernel
theorem dX8_scan_20 : decode cX8_scan 20 = .ok (.aload_n 0, 1) := by decide +kernel
theorem dX8_scan_21 : decode cX8_scan 21 = .ok (.getfield 81, 3) := by decide +kernel
theorem dX8_scan_24 : decode cX8_scan 24 = .ok (.if_icmp .gt 26, 3) := by decide +kernel
theorem dX8_scan_27 : decode cX8_scan 27 = .ok (.aload_n 0, 1) := by decide +kernel
theorem dX8_scan_28 : decode cX8_scan 28 = .ok (.iload_n 1, 1) := by decide +kernel
theorem dX8_scan_29 : decode cX8_scan 29 = .ok (.iload_n 3, 1) := by decide +kernel
theorem dX8_scan_30 : decode cX8_scan 30 = .ok (.invokevirtual 165, 3) := by decide +kernel
theorem dX8_scan_33 : decode cX8_scan 33 = .ok (.ifCond .eq 9, 3) := by decide +kernel
theorem dX8_scan_36 : decode cX8_scan 36 = .ok (.iload_n 2, 1) := by decide +kernel
theorem dX8_scan_37 : decode cX8_scan 37 = .ok (.iconst 1, 1) := by decide +kernel
theorem dX8_scan_38 : decode cX8_scan 38 = .ok (.iadd, 1) := by decide +kernel
theorem dX8_scan_39 : decode cX8_scan 39 = .ok (.goto 4, 3) := by decide +kernel
theorem dX8_scan_42 : decode cX8_scan 42 = .ok (.iload_n 2, 1) := by decide +kernel
theorem dX8_scan_43 : decode cX8_scan 43 = .ok (.istore_n 2, 1) := by decide +kernel
theorem dX8_scan_44 : decode cX8_scan 44 = .ok (.iinc 3 1, 3) := by decide +kernel
theorem dX8_scan_47 : decode cX8_scan 47 = .ok (.goto (-28), 3) := by decide +kernel
theorem dX8_scan_50 : decode cX8_scan 50 = .ok (.iload_n 2, 1) := by decide +kernel
theorem dX8_scan_51 : decode cX8_scan 51 = .ok (.ireturn, 1) := by decide +kernel
theorem dL_law_0 : decode cL_law 0 = .ok (.new 7, 3) := by decide +kernel
theorem dL_law_3 : decode cL_law 3 = .ok (.dup, 1) := by decide +kernel
theorem dL_law_4 : decode cL_law 4 = .ok (.invokespecial 9, 3) := by decide +kernel
theorem dL_law_7 : decode cL_law 7 = .ok (.astore_n 1, 1) := by decide +kernel
theorem dL_law_8 : decode cL_law 8 = .ok (.new 10, 3) := by decide +kernel
theorem dL_law_11 : decode cL_law 11 = .ok (.dup, 1) := by decide +kernel
theorem dL_law_12 : decode cL_law 12 = .ok (.invokespecial 12, 3) := by decide +kernel
theorem dL_law_15 : decode cL_law 15 = .ok (.astore_n 2, 1) := by decide +kernel
theorem dL_law_16 : decode cL_law 16 = .ok (.iconst 0, 1) := by decide +kernel
theorem dL_law_17 : decode cL_law 17 = .ok (.istore_n 3, 1) := by decide +kernel
theorem dL_law_18 : decode cL_law 18 = .ok (.iload_n 3, 1) := by decide +kernel
theorem dL_law_19 : decode cL_law 19 = .ok (.aload_n 0, 1) := by decide +kernel
theorem dL_law_20 : decode cL_law 20 = .ok (.arraylength, 1) := by decide +kernel
theorem dL_law_21 : decode cL_law 21 = .ok (.bipush 7, 2) := by decide +kernel
theorem dL_law_23 : decode cL_law 23 = .ok (.isub, 1) := by decide +kernel
theorem dL_law_24 : decode cL_law 24 = .ok (.if_icmp .gt 649, 3) := by decide +kernel
theorem dL_law_27 : decode cL_law 27 = .ok (.aload_n 0, 1) := by decide +kernel
theorem dL_law_28 : decode cL_law 28 = .ok (.iload_n 3, 1) := by decide +kernel
theorem dL_law_29 : decode cL_law 29 = .ok (.iaload, 1) := by decide +kernel
theorem dL_law_30 : decode cL_law 30 = .ok (.bipush 15, 2) := by decide +kernel
theorem dL_law_32 : decode cL_law 32 = .ok (.iand, 1) := by decide +kernel
theorem dL_law_33 : decode cL_law 33 = .ok (.tableswitch 634 0 12 #[67, 162, 183, 206, 240, 313, 356, 405, 419, 472, 535, 588, 611], 67) := by decide +kernel
theorem dL_law_100 : decode cL_law 100 = .ok (.aload_n 1, 1) := by decide +kernel
theorem dL_law_101 : decode cL_law 101 = .ok (.aload_n 0, 1) := by decide +kernel
theorem dL_law_102 : decode cL_law 102 = .ok (.iload_n 3, 1) := by decide +kernel
theorem dL_law_103 : decode cL_law 103 = .ok (.iconst 1, 1) := by decide +kernel
theorem dL_law_104 : decode cL_law 104 = .ok (.iadd, 1) := by decide +kernel
theorem dL_law_105 : decode cL_law 105 = .ok (.iaload, 1) := by decide +kernel
theorem dL_law_106 : decode cL_law 106 = .ok (.aload_n 0, 1) := by decide +kernel
theorem dL_law_107 : decode cL_law 107 = .ok (.iload_n 3, 1) := by decide +kernel
theorem dL_law_108 : decode cL_law 108 = .ok (.iconst 2, 1) := by decide +kernel
theorem dL_law_109 : decode cL_law 109 = .ok (.iadd, 1) := by decide +kernel
theorem dL_law_110 : decode cL_law 110 = .ok (.iaload, 1) := by decide +kernel
theorem dL_law_111 : decode cL_law 111 = .ok (.aload_n 0, 1) := by decide +kernel
theorem dL_law_112 : decode cL_law 112 = .ok (.iload_n 3, 1) := by decide +kernel
theorem dL_law_113 : decode cL_law 113 = .ok (.iconst 3, 1) := by decide +kernel
theorem dL_law_114 : decode cL_law 114 = .ok (.iadd, 1) := by decide +kernel
theorem dL_law_115 : decode cL_law 115 = .ok (.iaload, 1) := by decide +kernel
theorem dL_law_116 : decode cL_law 116 = .ok (.aload_n 0, 1) := by decide +kernel
theorem dL_law_117 : decode cL_law 117 = .ok (.iload_n 3, 1) := by decide +kernel
theorem dL_law_118 : decode cL_law 118 = .ok (.iconst 4, 1) := by decide +kernel
theorem dL_law_119 : decode cL_law 119 = .ok (.iadd, 1) := by decide +kernel
theorem dL_law_120 : decode cL_law 120 = .ok (.iaload, 1) := by decide +kernel
theorem dL_law_121 : decode cL_law 121 = .ok (.i2l, 1) := by decide +kernel
theorem dL_law_122 : decode cL_law 122 = .ok (.bipush 32, 2) := by decide +kernel
theorem dL_law_124 : decode cL_law 124 = .ok (.lshl, 1) := by decide +kernel
theorem dL_law_125 : decode cL_law 125 = .ok (.aload_n 0, 1) := by decide +kernel
theorem dL_law_126 : decode cL_law 126 = .ok (.iload_n 3, 1) := by decide +kernel
theorem dL_law_127 : decode cL_law 127 = .ok (.iconst 5, 1) := by decide +kernel
theorem dL_law_128 : decode cL_law 128 = .ok (.iadd, 1) := by decide +kernel
theorem dL_law_129 : decode cL_law 129 = .ok (.iaload, 1) := by decide +kernel
theorem dL_law_130 : decode cL_law 130 = .ok (.i2l, 1) := by decide +kernel
theorem dL_law_131 : decode cL_law 131 = .ok (.ldc2_w 13, 3) := by decide +kernel
theorem dL_law_134 : decode cL_law 134 = .ok (.land, 1) := by decide +kernel
theorem dL_law_135 : decode cL_law 135 = .ok (.lor, 1) := by decide +kernel
theorem dL_law_136 : decode cL_law 136 = .ok (.aload_n 0, 1) := by decide +kernel
theorem dL_law_137 : decode cL_law 137 = .ok (.iload_n 3, 1) := by decide +kernel
theorem dL_law_138 : decode cL_law 138 = .ok (.bipush 6, 2) := by decide +kernel
theorem dL_law_140 : decode cL_law 140 = .ok (.iadd, 1) := by decide +kernel
theorem dL_law_141 : decode cL_law 141 = .ok (.iaload, 1) := by decide +kernel
theorem dL_law_142 : decode cL_law 142 = .ok (.invokevirtual 15, 3) := by decide +kernel
theorem dL_law_145 : decode cL_law 145 = .ok (.aload_n 2, 1) := by decide +kernel
theorem dL_law_146 : decode cL_law 146 = .ok (.aload_n 0, 1) := by decide +kernel
theorem dL_law_147 : decode cL_law 147 = .ok (.iload_n 3, 1) := by decide +kernel
theorem dL_law_148 : decode cL_law 148 = .ok (.iconst 1, 1) := by decide +kernel
theorem dL_law_149 : decode cL_law 149 = .ok (.iadd, 1) := by decide +kernel
theorem dL_law_150 : decode cL_law 150 = .ok (.iaload, 1) := by decide +kernel
theorem dL_law_151 : decode cL_law 151 = .ok (.aload_n 0, 1) := by decide +kernel
theorem dL_law_152 : decode cL_law 152 = .ok (.iload_n 3, 1) := by decide +kernel
theorem dL_law_153 : decode cL_law 153 = .ok (.iconst 2, 1) := by decide +kernel
theorem dL_law_154 : decode cL_law 154 = .ok (.iadd, 1) := by decide +kernel
theorem dL_law_155 : decode cL_law 155 = .ok (.iaload, 1) := by decide +kernel
theorem dL_law_156 : decode cL_law 156 = .ok (.aload_n 0, 1) := by decide +kernel
theorem dL_law_157 : decode cL_law 157 = .ok (.iload_n 3, 1) := by decide +kernel
theorem dL_law_158 : decode cL_law 158 = .ok (.iconst 3, 1) := by decide +kernel
theorem dL_law_159 : decode cL_law 159 = .ok (.iadd, 1) := by decide +kernel
theorem dL_law_160 : decode cL_law 160 = .ok (.iaload, 1) := by decide +kernel
theorem dL_law_161 : decode cL_law 161 = .ok (.aload_n 0, 1) := by decide +kernel
theorem dL_law_162 : decode cL_law 162 = .ok (.iload_n 3, 1) := by decide +kernel
theorem dL_law_163 : decode cL_law 163 = .ok (.iconst 4, 1) := by decide +kernel
theorem dL_law_164 : decode cL_law 164 = .ok (.iadd, 1) := by decide +kernel
theorem dL_law_165 : decode cL_law 165 = .ok (.iaload, 1) := by decide +kernel
theorem dL_law_166 : decode cL_law 166 = .ok (.i2l, 1) := by decide +kernel
theorem dL_law_167 : decode cL_law 167 = .ok (.bipush 32, 2) := by decide +kernel
theorem dL_law_169 : decode cL_law 169 = .ok (.lshl, 1) := by decide +kernel
theorem dL_law_170 : decode cL_law 170 = .ok (.aload_n 0, 1) := by decide +kernel
theorem dL_law_171 : decode cL_law 171 = .ok (.iload_n 3, 1) := by decide +kernel
theorem dL_law_172 : decode cL_law 172 = .ok (.iconst 5, 1) := by decide +kernel
theorem dL_law_173 : decode cL_law 173 = .ok (.iadd, 1) := by decide +kernel
theorem dL_law_174 : decode cL_law 174 = .ok (.iaload, 1) := by decide +kernel
theorem dL_law_175 : decode cL_law 175 = .ok (.i2l, 1) := by decide +kernel
theorem dL_law_176 : decode cL_law 176 = .ok (.ldc2_w 13, 3) := by decide +kernel
theorem dL_law_179 : decode cL_law 179 = .ok (.land, 1) := by decide +kernel
theorem dL_law_180 : decode cL_law 180 = .ok (.lor, 1) := by decide +kernel
theorem dL_law_181 : decode cL_law 181 = .ok (.aload_n 0, 1) := by decide +kernel
theorem dL_law_182 : decode cL_law 182 = .ok (.iload_n 3, 1) := by decide +kernel
theorem dL_law_183 : decode cL_law 183 = .ok (.bipush 6, 2) := by decide +kernel
theorem dL_law_185 : decode cL_law 185 = .ok (.iadd, 1) := by decide +kernel
theorem dL_law_186 : decode cL_law 186 = .ok (.iaload, 1) := by decide +kernel
theorem dL_law_187 : decode cL_law 187 = .ok (.invokevirtual 19, 3) := by decide +kernel
theorem dL_law_190 : decode cL_law 190 = .ok (.if_icmp .eq 477, 3) := by decide +kernel
theorem dL_law_193 : decode cL_law 193 = .ok (.iconst 0, 1) := by decide +kernel
theorem dL_law_194 : decode cL_law 194 = .ok (.ireturn, 1) := by decide +kernel
theorem dL_law_195 : decode cL_law 195 = .ok (.aload_n 1, 1) := by decide +kernel
theorem dL_law_196 : decode cL_law 196 = .ok (.aload_n 0, 1) := by decide +kernel
theorem dL_law_197 : decode cL_law 197 = .ok (.iload_n 3, 1) := by decide +kernel
theorem dL_law_198 : decode cL_law 198 = .ok (.iconst 1, 1) := by decide +kernel
theorem dL_law_199 : decode cL_law 199 = .ok (.iadd, 1) := by decide +kernel
theorem dL_law_200 : decode cL_law 200 = .ok (.iaload, 1) := by decide +kernel
theorem dL_law_201 : decode cL_law 201 = .ok (.invokevirtual 20, 3) := by decide +kernel
theorem dL_law_204 : decode cL_law 204 = .ok (.aload_n 2, 1) := by decide +kernel
theorem dL_law_205 : decode cL_law 205 = .ok (.aload_n 0, 1) := by decide +kernel
theorem dL_law_206 : decode cL_law 206 = .ok (.iload_n 3, 1) := by decide +kernel
theorem dL_law_207 : decode cL_law 207 = .ok (.iconst 1, 1) := by decide +kernel
theorem dL_law_208 : decode cL_law 208 = .ok (.iadd, 1) := by decide +kernel
theorem dL_law_209 : decode cL_law 209 = .ok (.iaload, 1) := by decide +kernel
theorem dL_law_210 : decode cL_law 210 = .ok (.invokevirtual 24, 3) := by decide +kernel
theorem dL_law_213 : decode cL_law 213 = .ok (.goto 454, 3) := by decide +kernel
theorem dL_law_216 : decode cL_law 216 = .ok (.aload_n 1, 1) := by decide +kernel
theorem dL_law_217 : decode cL_law 217 = .ok (.aload_n 0, 1) := by decide +kernel
theorem dL_law_218 : decode cL_law 218 = .ok (.iload_n 3, 1) := by decide +kernel
theorem dL_law_219 : decode cL_law 219 = .ok (.iconst 1, 1) := by decide +kernel
theorem dL_law_220 : decode cL_law 220 = .ok (.iadd, 1) := by decide +kernel
theorem dL_law_221 : decode cL_law 221 = .ok (.iaload, 1) := by decide +kernel
theorem dL_law_222 : decode cL_law 222 = .ok (.invokevirtual 25, 3) := by decide +kernel
theorem dL_law_225 : decode cL_law 225 = .ok (.aload_n 2, 1) := by decide +kernel
theorem dL_law_226 : decode cL_law 226 = .ok (.aload_n 0, 1) := by decide +kernel
theorem dL_law_227 : decode cL_law 227 = .ok (.iload_n 3, 1) := by decide +kernel
theorem dL_law_228 : decode cL_law 228 = .ok (.iconst 1, 1) := by decide +kernel
theorem dL_law_229 : decode cL_law 229 = .ok (.iadd, 1) := by decide +kernel
theorem dL_law_230 : decode cL_law 230 = .ok (.iaload, 1) := by decide +kernel
theorem dL_law_231 : decode cL_law 231 = .ok (.invokevirtual 29, 3) := by decide +kernel
theorem dL_law_234 : decode cL_law 234 = .ok (.if_icmp .eq 433, 3) := by decide +kernel
theorem dL_law_237 : decode cL_law 237 = .ok (.iconst 0, 1) := by decide +kernel
theorem dL_law_238 : decode cL_law 238 = .ok (.ireturn, 1) := by decide +kernel
theorem dL_law_239 : decode cL_law 239 = .ok (.aload_n 1, 1) := by decide +kernel
theorem dL_law_240 : decode cL_law 240 = .ok (.aload_n 0, 1) := by decide +kernel
theorem dL_law_241 : decode cL_law 241 = .ok (.iload_n 3, 1) := by decide +kernel
theorem dL_law_242 : decode cL_law 242 = .ok (.iconst 1, 1) := by decide +kernel
theorem dL_law_243 : decode cL_law 243 = .ok (.iadd, 1) := by decide +kernel
theorem dL_law_244 : decode cL_law 244 = .ok (.iaload, 1) := by decide +kernel
theorem dL_law_245 : decode cL_law 245 = .ok (.aload_n 0, 1) := by decide +kernel
theorem dL_law_246 : decode cL_law 246 = .ok (.iload_n 3, 1) := by decide +kernel
theorem dL_law_247 : decode cL_law 247 = .ok (.iconst 2, 1) := by decide +kernel
theorem dL_law_248 : decode cL_law 248 = .ok (.iadd, 1) := by decide +kernel
theorem dL_law_249 : decode cL_law 249 = .ok (.iaload, 1) := by decide +kernel
theorem dL_law_250 : decode cL_law 250 = .ok (.invokevirtual 30, 3) := by decide +kernel
theorem dL_law_253 : decode cL_law 253 = .ok (.aload_n 2, 1) := by decide +kernel
theorem dL_law_254 : decode cL_law 254 = .ok (.aload_n 0, 1) := by decide +kernel
theorem dL_law_255 : decode cL_law 255 = .ok (.iload_n 3, 1) := by decide +kernel
theorem dL_law_256 : decode cL_law 256 = .ok (.iconst 1, 1) := by decide +kernel
theorem dL_law_257 : decode cL_law 257 = .ok (.iadd, 1) := by decide +kernel
theorem dL_law_258 : decode cL_law 258 = .ok (.iaload, 1) := by decide +kernel
theorem dL_law_259 : decode cL_law 259 = .ok (.aload_n 0, 1) := by decide +kernel
theorem dL_law_260 : decode cL_law 260 = .ok (.iload_n 3, 1) := by decide +kernel
theorem dL_law_261 : decode cL_law 261 = .ok (.iconst 2, 1) := by decide +kernel
theorem dL_law_262 : decode cL_law 262 = .ok (.iadd, 1) := by decide +kernel
theorem dL_law_263 : decode cL_law 263 = .ok (.iaload, 1) := by decide +kernel
theorem dL_law_264 : decode cL_law 264 = .ok (.invokevirtual 34, 3) := by decide +kernel
theorem dL_law_267 : decode cL_law 267 = .ok (.lcmp, 1) := by decide +kernel
theorem dL_law_268 : decode cL_law 268 = .ok (.ifCond .eq 399, 3) := by decide +kernel
theorem dL_law_271 : decode cL_law 271 = .ok (.iconst 0, 1) := by decide +kernel
theorem dL_law_272 : decode cL_law 272 = .ok (.ireturn, 1) := by decide +kernel
theorem dL_law_273 : decode cL_law 273 = .ok (.aload_n 1, 1) := by decide +kernel
theorem dL_law_274 : decode cL_law 274 = .ok (.aload_n 0, 1) := by decide +kernel
theorem dL_law_275 : decode cL_law 275 = .ok (.iload_n 3, 1) := by decide +kernel
theorem dL_law_276 : decode cL_law 276 = .ok (.iconst 1, 1) := by decide +kernel
theorem dL_law_277 : decode cL_law 277 = .ok (.iadd, 1) := by decide +kernel
theorem dL_law_278 : decode cL_law 278 = .ok (.iaload, 1) := by decide +kernel
theorem dL_law_279 : decode cL_law 279 = .ok (.aload_n 0, 1) := by decide +kernel
theorem dL_law_280 : decode cL_law 280 = .ok (.iload_n 3, 1) := by decide +kernel
theorem dL_law_281 : decode cL_law 281 = .ok (.iconst 2, 1) := by decide +kernel
theorem dL_law_282 : decode cL_law 282 = .ok (.iadd, 1) := by decide +kernel
theorem dL_law_283 : decode cL_law 283 = .ok (.iaload, 1) := by decide +kernel
theorem dL_law_284 : decode cL_law 284 = .ok (.i2l, 1) := by decide +kernel
theorem dL_law_285 : decode cL_law 285 = .ok (.bipush 32, 2) := by decide +kernel
theorem dL_law_287 : decode cL_law 287 = .ok (.lshl, 1) := by decide +kernel
theorem dL_law_288 : decode cL_law 288 = .ok (.aload_n 0, 1) := by decide +kernel
theorem dL_law_289 : decode cL_law 289 = .ok (.iload_n 3, 1) := by decide +kernel
theorem dL_law_290 : decode cL_law 290 = .ok (.iconst 3, 1) := by decide +kernel
theorem dL_law_291 : decode cL_law 291 = .ok (.iadd, 1) := by decide +kernel
theorem dL_law_292 : decode cL_law 292 = .ok (.iaload, 1) := by decide +kernel
theorem dL_law_293 : decode cL_law 293 = .ok (.i2l, 1) := by decide +kernel
theorem dL_law_294 : decode cL_law 294 = .ok (.ldc2_w 13, 3) := by decide +kernel
theorem dL_law_297 : decode cL_law 297 = .ok (.land, 1) := by decide +kernel
theorem dL_law_298 : decode cL_law 298 = .ok (.lor, 1) := by decide +kernel
theorem dL_law_299 : decode cL_law 299 = .ok (.aload_n 0, 1) := by decide +kernel
theorem dL_law_300 : decode cL_law 300 = .ok (.iload_n 3, 1) := by decide +kernel
theorem dL_law_301 : decode cL_law 301 = .ok (.iconst 4, 1) := by decide +kernel
theorem dL_law_302 : decode cL_law 302 = .ok (.iadd, 1) := by decide +kernel
theorem dL_law_303 : decode cL_law 303 = .ok (.iaload, 1) := by decide +kernel
theorem dL_law_304 : decode cL_law 304 = .ok (.invokevirtual 35, 3) := by decide +kernel
theorem dL_law_307 : decode cL_law 307 = .ok (.aload_n 2, 1) := by decide +kernel
theorem dL_law_308 : decode cL_law 308 = .ok (.aload_n 0, 1) := by decide +kernel
theorem dL_law_309 : decode cL_law 309 = .ok (.iload_n 3, 1) := by decide +kernel
theorem dL_law_310 : decode cL_law 310 = .ok (.iconst 1, 1) := by decide +kernel
theorem dL_law_311 : decode cL_law 311 = .ok (.iadd, 1) := by decide +kernel
theorem dL_law_312 : decode cL_law 312 = .ok (.iaload, 1) := by decide +kernel
theorem dL_law_313 : decode cL_law 313 = .ok (.aload_n 0, 1) := by decide +kernel
theorem dL_law_314 : decode cL_law 314 = .ok (.iload_n 3, 1) := by decide +kernel
theorem dL_law_315 : decode cL_law 315 = .ok (.iconst 2, 1) := by decide +kernel
theorem dL_law_316 : decode cL_law 316 = .ok (.iadd, 1) := by decide +kernel
theorem dL_law_317 : decode cL_law 317 = .ok (.iaload, 1) := by decide +kernel
theorem dL_law_318 : decode cL_law 318 = .ok (.i2l, 1) := by decide +kernel
theorem dL_law_319 : decode cL_law 319 = .ok (.bipush 32, 2) := by decide +kernel
theorem dL_law_321 : decode cL_law 321 = .ok (.lshl, 1) := by decide +kernel
theorem dL_law_322 : decode cL_law 322 = .ok (.aload_n 0, 1) := by decide +kernel
theorem dL_law_323 : decode cL_law 323 = .ok (.iload_n 3, 1) := by decide +kernel
theorem dL_law_324 : decode cL_law 324 = .ok (.iconst 3, 1) := by decide +kernel
theorem dL_law_325 : decode cL_law 325 = .ok (.iadd, 1) := by decide +kernel
theorem dL_law_326 : decode cL_law 326 = .ok (.iaload, 1) := by decide +kernel
theorem dL_law_327 : decode cL_law 327 = .ok (.i2l, 1) := by decide +kernel
theorem dL_law_328 : decode cL_law 328 = .ok (.ldc2_w 13, 3) := by decide +kernel
theorem dL_law_331 : decode cL_law 331 = .ok (.land, 1) := by decide +kernel
theorem dL_law_332 : decode cL_law 332 = .ok (.lor, 1) := by decide +kernel
theorem dL_law_333 : decode cL_law 333 = .ok (.aload_n 0, 1) := by decide +kernel
theorem dL_law_334 : decode cL_law 334 = .ok (.iload_n 3, 1) := by decide +kernel
theorem dL_law_335 : decode cL_law 335 = .ok (.iconst 4, 1) := by decide +kernel
theorem dL_law_336 : decode cL_law 336 = .ok (.iadd, 1) := by decide +kernel
theorem dL_law_337 : decode cL_law 337 = .ok (.iaload, 1) := by decide +kernel
theorem dL_law_338 : decode cL_law 338 = .ok (.invokevirtual 39, 3) := by decide +kernel
theorem dL_law_341 : decode cL_law 341 = .ok (.if_icmp .eq 326, 3) := by decide +kernel
theorem dL_law_344 : decode cL_law 344 = .ok (.iconst 0, 1) := by decide +kernel
theorem dL_law_345 : decode cL_law 345 = .ok (.ireturn, 1) := by decide +kernel
theorem dL_law_346 : decode cL_law 346 = .ok (.aload_n 1, 1) := by decide +kernel
theorem dL_law_347 : decode cL_law 347 = .ok (.aload_n 0, 1) := by decide +kernel
theorem dL_law_348 : decode cL_law 348 = .ok (.iload_n 3, 1) := by decide +kernel
theorem dL_law_349 : decode cL_law 349 = .ok (.iconst 1, 1) := by decide +kernel
theorem dL_law_350 : decode cL_law 350 = .ok (.iadd, 1) := by decide +kernel
theorem dL_law_351 : decode cL_law 351 = .ok (.iaload, 1) := by decide +kernel
theorem dL_law_352 : decode cL_law 352 = .ok (.aload_n 0, 1) := by decide +kernel
theorem dL_law_353 : decode cL_law 353 = .ok (.iload_n 3, 1) := by decide +kernel
theorem dL_law_354 : decode cL_law 354 = .ok (.iconst 2, 1) := by decide +kernel
theorem dL_law_355 : decode cL_law 355 = .ok (.iadd, 1) := by decide +kernel
theorem dL_law_356 : decode cL_law 356 = .ok (.iaload, 1) := by decide +kernel
theorem dL_law_357 : decode cL_law 357 = .ok (.aload_n 0, 1) := by decide +kernel
theorem dL_law_358 : decode cL_law 358 = .ok (.iload_n 3, 1) := by decide +kernel
theorem dL_law_359 : decode cL_law 359 = .ok (.iconst 3, 1) := by decide +kernel
theorem dL_law_360 : decode cL_law 360 = .ok (.iadd, 1) := by decide +kernel
theorem dL_law_361 : decode cL_law 361 = .ok (.iaload, 1) := by decide +kernel
theorem dL_law_362 : decode cL_law 362 = .ok (.invokevirtual 40, 3) := by decide +kernel
theorem dL_law_365 : decode cL_law 365 = .ok (.aload_n 2, 1) := by decide +kernel
theorem dL_law_366 : decode cL_law 366 = .ok (.aload_n 0, 1) := by decide +kernel
theorem dL_law_367 : decode cL_law 367 = .ok (.iload_n 3, 1) := by decide +kernel
theorem dL_law_368 : decode cL_law 368 = .ok (.iconst 1, 1) := by decide +kernel
theorem dL_law_369 : decode cL_law 369 = .ok (.iadd, 1) := by decide +kernel
theorem dL_law_370 : decode cL_law 370 = .ok (.iaload, 1) := by decide +kernel
theorem dL_law_371 : decode cL_law 371 = .ok (.aload_n 0, 1) := by decide +kernel
theorem dL_law_372 : decode cL_law 372 = .ok (.iload_n 3, 1) := by decide +kernel
theorem dL_law_373 : decode cL_law 373 = .ok (.iconst 2, 1) := by decide +kernel
theorem dL_law_374 : decode cL_law 374 = .ok (.iadd, 1) := by decide +kernel
theorem dL_law_375 : decode cL_law 375 = .ok (.iaload, 1) := by decide +kernel
theorem dL_law_376 : decode cL_law 376 = .ok (.aload_n 0, 1) := by decide +kernel
theorem dL_law_377 : decode cL_law 377 = .ok (.iload_n 3, 1) := by decide +kernel
theorem dL_law_378 : decode cL_law 378 = .ok (.iconst 3, 1) := by decide +kernel
theorem dL_law_379 : decode cL_law 379 = .ok (.iadd, 1) := by decide +kernel
theorem dL_law_380 : decode cL_law 380 = .ok (.iaload, 1) := by decide +kernel
theorem dL_law_381 : decode cL_law 381 = .ok (.invokevirtual 44, 3) := by decide +kernel
theorem dL_law_384 : decode cL_law 384 = .ok (.if_icmp .eq 283, 3) := by decide +kernel
theorem dL_law_387 : decode cL_law 387 = .ok (.iconst 0, 1) := by decide +kernel
theorem dL_law_388 : decode cL_law 388 = .ok (.ireturn, 1) := by decide +kernel
theorem dL_law_389 : decode cL_law 389 = .ok (.aload_n 1, 1) := by decide +kernel
theorem dL_law_390 : decode cL_law 390 = .ok (.aload_n 0, 1) := by decide +kernel
theorem dL_law_391 : decode cL_law 391 = .ok (.iload_n 3, 1) := by decide +kernel
theorem dL_law_392 : decode cL_law 392 = .ok (.iconst 1, 1) := by decide +kernel
theorem dL_law_393 : decode cL_law 393 = .ok (.iadd, 1) := by decide +kernel
theorem dL_law_394 : decode cL_law 394 = .ok (.iaload, 1) := by decide +kernel
theorem dL_law_395 : decode cL_law 395 = .ok (.aload_n 0, 1) := by decide +kernel
theorem dL_law_396 : decode cL_law 396 = .ok (.iload_n 3, 1) := by decide +kernel
theorem dL_law_397 : decode cL_law 397 = .ok (.iconst 2, 1) := by decide +kernel
theorem dL_law_398 : decode cL_law 398 = .ok (.iadd, 1) := by decide +kernel
theorem dL_law_399 : decode cL_law 399 = .ok (.iaload, 1) := by decide +kernel
theorem dL_law_400 : decode cL_law 400 = .ok (.ifCond .eq 7, 3) := by decide +kernel
theorem dL_law_403 : decode cL_law 403 = .ok (.iconst 1, 1) := by decide +kernel
theorem dL_law_404 : decode cL_law 404 = .ok (.goto 4, 3) := by decide +kernel
theorem dL_law_407 : decode cL_law 407 = .ok (.iconst 0, 1) := by decide +kernel
theorem dL_law_408 : decode cL_law 408 = .ok (.invokevirtual 45, 3) := by decide +kernel
theorem dL_law_411 : decode cL_law 411 = .ok (.aload_n 2, 1) := by decide +kernel
theorem dL_law_412 : decode cL_law 412 = .ok (.aload_n 0, 1) := by decide +kernel
theorem dL_law_413 : decode cL_law 413 = .ok (.iload_n 3, 1) := by decide +kernel
theorem dL_law_414 : decode cL_law 414 = .ok (.iconst 1, 1) := by decide +kernel
theorem dL_law_415 : decode cL_law 415 = .ok (.iadd, 1) := by decide +kernel
theorem dL_law_416 : decode cL_law 416 = .ok (.iaload, 1) := by decide +kernel
theorem dL_law_417 : decode cL_law 417 = .ok (.aload_n 0, 1) := by decide +kernel
theorem dL_law_418 : decode cL_law 418 = .ok (.iload_n 3, 1) := by decide +kernel
theorem dL_law_419 : decode cL_law 419 = .ok (.iconst 2, 1) := by decide +kernel
theorem dL_law_420 : decode cL_law 420 = .ok (.iadd, 1) := by decide +kernel
theorem dL_law_421 : decode cL_law 421 = .ok (.iaload, 1) := by decide +kernel
theorem dL_law_422 : decode cL_law 422 = .ok (.ifCond .eq 7, 3) := by decide +kernel
theorem dL_law_425 : decode cL_law 425 = .ok (.iconst 1, 1) := by decide +kernel
theorem dL_law_426 : decode cL_law 426 = .ok (.goto 4, 3) := by decide +kernel
theorem dL_law_429 : decode cL_law 429 = .ok (.iconst 0, 1) := by decide +kernel
theorem dL_law_430 : decode cL_law 430 = .ok (.invokevirtual 49, 3) := by decide +kernel
theorem dL_law_433 : decode cL_law 433 = .ok (.if_icmp .eq 234, 3) := by decide +kernel
theorem dL_law_436 : decode cL_law 436 = .ok (.iconst 0, 1) := by decide +kernel
theorem dL_law_437 : decode cL_law 437 = .ok (.ireturn, 1) := by decide +kernel
theorem dL_law_438 : decode cL_law 438 = .ok (.aload_n 1, 1) := by decide +kernel
theorem dL_law_439 : decode cL_law 439 = .ok (.invokevirtual 50, 3) := by decide +kernel
theorem dL_law_442 : decode cL_law 442 = .ok (.aload_n 2, 1) := by decide +kernel
theorem dL_law_443 : decode cL_law 443 = .ok (.invokevirtual 54, 3) := by decide +kernel
theorem dL_law_446 : decode cL_law 446 = .ok (.lcmp, 1) := by decide +kernel
theorem dL_law_447 : decode cL_law 447 = .ok (.ifCond .eq 220, 3) := by decide +kernel
theorem dL_law_450 : decode cL_law 450 = .ok (.iconst 0, 1) := by decide +kernel
theorem dL_law_451 : decode cL_law 451 = .ok (.ireturn, 1) := by decide +kernel
theorem dL_law_452 : decode cL_law 452 = .ok (.aload_n 1, 1) := by decide +kernel
theorem dL_law_453 : decode cL_law 453 = .ok (.aload_n 0, 1) := by decide +kernel
theorem dL_law_454 : decode cL_law 454 = .ok (.iload_n 3, 1) := by decide +kernel
theorem dL_law_455 : decode cL_law 455 = .ok (.iconst 1, 1) := by decide +kernel
theorem dL_law_456 : decode cL_law 456 = .ok (.iadd, 1) := by decide +kernel
theorem dL_law_457 : decode cL_law 457 = .ok (.iaload, 1) := by decide +kernel
theorem dL_law_458 : decode cL_law 458 = .ok (.i2l, 1) := by decide +kernel
theorem dL_law_459 : decode cL_law 459 = .ok (.bipush 32, 2) := by decide +kernel
theorem dL_law_461 : decode cL_law 461 = .ok (.lshl, 1) := by decide +kernel
theorem dL_law_462 : decode cL_law 462 = .ok (.aload_n 0, 1) := by decide +kernel
theorem dL_law_463 : decode cL_law 463 = .ok (.iload_n 3, 1) := by decide +kernel
theorem dL_law_464 : decode cL_law 464 = .ok (.iconst 2, 1) := by decide +kernel
theorem dL_law_465 : decode cL_law 465 = .ok (.iadd, 1) := by decide +kernel
theorem dL_law_466 : decode cL_law 466 = .ok (.iaload, 1) := by decide +kernel
theorem dL_law_467 : decode cL_law 467 = .ok (.i2l, 1) := by decide +kernel
theorem dL_law_468 : decode cL_law 468 = .ok (.ldc2_w 13, 3) := by decide +kernel
theorem dL_law_471 : decode cL_law 471 = .ok (.land, 1) := by decide +kernel
theorem dL_law_472 : decode cL_law 472 = .ok (.lor, 1) := by decide +kernel
theorem dL_law_473 : decode cL_law 473 = .ok (.invokevirtual 55, 3) := by decide +kernel
theorem dL_law_476 : decode cL_law 476 = .ok (.aload_n 2, 1) := by decide +kernel
theorem dL_law_477 : decode cL_law 477 = .ok (.aload_n 0, 1) := by decide +kernel
theorem dL_law_478 : decode cL_law 478 = .ok (.iload_n 3, 1) := by decide +kernel
theorem dL_law_479 : decode cL_law 479 = .ok (.iconst 1, 1) := by decide +kernel
theorem dL_law_480 : decode cL_law 480 = .ok (.iadd, 1) := by decide +kernel
theorem dL_law_481 : decode cL_law 481 = .ok (.iaload, 1) := by decide +kernel
theorem dL_law_482 : decode cL_law 482 = .ok (.i2l, 1) := by decide +kernel
theorem dL_law_483 : decode cL_law 483 = .ok (.bipush 32, 2) := by decide +kernel
theorem dL_law_485 : decode cL_law 485 = .ok (.lshl, 1) := by decide +kernel
theorem dL_law_486 : decode cL_law 486 = .ok (.aload_n 0, 1) := by decide +kernel
theorem dL_law_487 : decode cL_law 487 = .ok (.iload_n 3, 1) := by decide +kernel
theorem dL_law_488 : decode cL_law 488 = .ok (.iconst 2, 1) := by decide +kernel
theorem dL_law_489 : decode cL_law 489 = .ok (.iadd, 1) := by decide +kernel
theorem dL_law_490 : decode cL_law 490 = .ok (.iaload, 1) := by decide +kernel
theorem dL_law_491 : decode cL_law 491 = .ok (.i2l, 1) := by decide +kernel
theorem dL_law_492 : decode cL_law 492 = .ok (.ldc2_w 13, 3) := by decide +kernel
theorem dL_law_495 : decode cL_law 495 = .ok (.land, 1) := by decide +kernel
theorem dL_law_496 : decode cL_law 496 = .ok (.lor, 1) := by decide +kernel
theorem dL_law_497 : decode cL_law 497 = .ok (.invokevirtual 59, 3) := by decide +kernel
theorem dL_law_500 : decode cL_law 500 = .ok (.if_icmp .eq 167, 3) := by decide +kernel
theorem dL_law_503 : decode cL_law 503 = .ok (.iconst 0, 1) := by decide +kernel
theorem dL_law_504 : decode cL_law 504 = .ok (.ireturn, 1) := by decide +kernel
theorem dL_law_505 : decode cL_law 505 = .ok (.aload_n 1, 1) := by decide +kernel
theorem dL_law_506 : decode cL_law 506 = .ok (.aload_n 0, 1) := by decide +kernel
theorem dL_law_507 : decode cL_law 507 = .ok (.iload_n 3, 1) := by decide +kernel
theorem dL_law_508 : decode cL_law 508 = .ok (.iconst 1, 1) := by decide +kernel
theorem dL_law_509 : decode cL_law 509 = .ok (.iadd, 1) := by decide +kernel
theorem dL_law_510 : decode cL_law 510 = .ok (.iaload, 1) := by decide +kernel
theorem dL_law_511 : decode cL_law 511 = .ok (.aload_n 0, 1) := by decide +kernel
theorem dL_law_512 : decode cL_law 512 = .ok (.iload_n 3, 1) := by decide +kernel
theorem dL_law_513 : decode cL_law 513 = .ok (.iconst 2, 1) := by decide +kernel
theorem dL_law_514 : decode cL_law 514 = .ok (.iadd, 1) := by decide +kernel
theorem dL_law_515 : decode cL_law 515 = .ok (.iaload, 1) := by decide +kernel
theorem dL_law_516 : decode cL_law 516 = .ok (.i2l, 1) := by decide +kernel
theorem dL_law_517 : decode cL_law 517 = .ok (.bipush 32, 2) := by decide +kernel
theorem dL_law_519 : decode cL_law 519 = .ok (.lshl, 1) := by decide +kernel
theorem dL_law_520 : decode cL_law 520 = .ok (.aload_n 0, 1) := by decide +kernel
theorem dL_law_521 : decode cL_law 521 = .ok (.iload_n 3, 1) := by decide +kernel
theorem dL_law_522 : decode cL_law 522 = .ok (.iconst 3, 1) := by decide +kernel
theorem dL_law_523 : decode cL_law 523 = .ok (.iadd, 1) := by decide +kernel
theorem dL_law_524 : decode cL_law 524 = .ok (.iaload, 1) := by decide +kernel
theorem dL_law_525 : decode cL_law 525 = .ok (.i2l, 1) := by decide +kernel
theorem dL_law_526 : decode cL_law 526 = .ok (.ldc2_w 13, 3) := by decide +kernel
theorem dL_law_529 : decode cL_law 529 = .ok (.land, 1) := by decide +kernel
theorem dL_law_530 : decode cL_law 530 = .ok (.lor, 1) := by decide +kernel
theorem dL_law_531 : decode cL_law 531 = .ok (.invokevirtual 60, 3) := by decide +kernel
theorem dL_law_534 : decode cL_law 534 = .ok (.aload_n 2, 1) := by decide +kernel
theorem dL_law_535 : decode cL_law 535 = .ok (.aload_n 0, 1) := by decide +kernel
theorem dL_law_536 : decode cL_law 536 = .ok (.iload_n 3, 1) := by decide +kernel
theorem dL_law_537 : decode cL_law 537 = .ok (.iconst 1, 1) := by decide +kernel
theorem dL_law_538 : decode cL_law 538 = .ok (.iadd, 1) := by decide +kernel
theorem dL_law_539 : decode cL_law 539 = .ok (.iaload, 1) := by decide +kernel
theorem dL_law_540 : decode cL_law 540 = .ok (.aload_n 0, 1) := by decide +kernel
theorem dL_law_541 : decode cL_law 541 = .ok (.iload_n 3, 1) := by decide +kernel
theorem dL_law_542 : decode cL_law 542 = .ok (.iconst 2, 1) := by decide +kernel
theorem dL_law_543 : decode cL_law 543 = .ok (.iadd, 1) := by decide +kernel
theorem dL_law_544 : decode cL_law 544 = .ok (.iaload, 1) := by decide +kernel
theorem dL_law_545 : decode cL_law 545 = .ok (.i2l, 1) := by decide +kernel
theorem dL_law_546 : decode cL_law 546 = .ok (.bipush 32, 2) := by decide +kernel
theorem dL_law_548 : decode cL_law 548 = .ok (.lshl, 1) := by decide +kernel
theorem dL_law_549 : decode cL_law 549 = .ok (.aload_n 0, 1) := by decide +kernel
theorem dL_law_550 : decode cL_law 550 = .ok (.iload_n 3, 1) := by decide +kernel
theorem dL_law_551 : decode cL_law 551 = .ok (.iconst 3, 1) := by decide +kernel
theorem dL_law_552 : decode cL_law 552 = .ok (.iadd, 1) := by decide +kernel
theorem dL_law_553 : decode cL_law 553 = .ok (.iaload, 1) := by decide +kernel
theorem dL_law_554 : decode cL_law 554 = .ok (.i2l, 1) := by decide +kernel
theorem dL_law_555 : decode cL_law 555 = .ok (.ldc2_w 13, 3) := by decide +kernel
theorem dL_law_558 : decode cL_law 558 = .ok (.land, 1) := by decide +kernel
theorem dL_law_559 : decode cL_law 559 = .ok (.lor, 1) := by decide +kernel
theorem dL_law_560 : decode cL_law 560 = .ok (.invokevirtual 64, 3) := by decide +kernel
theorem dL_law_563 : decode cL_law 563 = .ok (.if_icmp .eq 104, 3) := by decide +kernel
theorem dL_law_566 : decode cL_law 566 = .ok (.iconst 0, 1) := by decide +kernel
theorem dL_law_567 : decode cL_law 567 = .ok (.ireturn, 1) := by decide +kernel
theorem dL_law_568 : decode cL_law 568 = .ok (.aload_n 1, 1) := by decide +kernel
theorem dL_law_569 : decode cL_law 569 = .ok (.aload_n 0, 1) := by decide +kernel
theorem dL_law_570 : decode cL_law 570 = .ok (.iload_n 3, 1) := by decide +kernel
theorem dL_law_571 : decode cL_law 571 = .ok (.iconst 1, 1) := by decide +kernel
theorem dL_law_572 : decode cL_law 572 = .ok (.iadd, 1) := by decide +kernel
theorem dL_law_573 : decode cL_law 573 = .ok (.iaload, 1) := by decide +kernel
theorem dL_law_574 : decode cL_law 574 = .ok (.i2l, 1) := by decide +kernel
theorem dL_law_575 : decode cL_law 575 = .ok (.bipush 32, 2) := by decide +kernel
theorem dL_law_577 : decode cL_law 577 = .ok (.lshl, 1) := by decide +kernel
theorem dL_law_578 : decode cL_law 578 = .ok (.aload_n 0, 1) := by decide +kernel
theorem dL_law_579 : decode cL_law 579 = .ok (.iload_n 3, 1) := by decide +kernel
theorem dL_law_580 : decode cL_law 580 = .ok (.iconst 2, 1) := by decide +kernel
theorem dL_law_581 : decode cL_law 581 = .ok (.iadd, 1) := by decide +kernel
theorem dL_law_582 : decode cL_law 582 = .ok (.iaload, 1) := by decide +kernel
theorem dL_law_583 : decode cL_law 583 = .ok (.i2l, 1) := by decide +kernel
theorem dL_law_584 : decode cL_law 584 = .ok (.ldc2_w 13, 3) := by decide +kernel
theorem dL_law_587 : decode cL_law 587 = .ok (.land, 1) := by decide +kernel
theorem dL_law_588 : decode cL_law 588 = .ok (.lor, 1) := by decide +kernel
theorem dL_law_589 : decode cL_law 589 = .ok (.invokevirtual 65, 3) := by decide +kernel
theorem dL_law_592 : decode cL_law 592 = .ok (.aload_n 2, 1) := by decide +kernel
theorem dL_law_593 : decode cL_law 593 = .ok (.aload_n 0, 1) := by decide +kernel
theorem dL_law_594 : decode cL_law 594 = .ok (.iload_n 3, 1) := by decide +kernel
theorem dL_law_595 : decode cL_law 595 = .ok (.iconst 1, 1) := by decide +kernel
theorem dL_law_596 : decode cL_law 596 = .ok (.iadd, 1) := by decide +kernel
theorem dL_law_597 : decode cL_law 597 = .ok (.iaload, 1) := by decide +kernel
theorem dL_law_598 : decode cL_law 598 = .ok (.i2l, 1) := by decide +kernel
theorem dL_law_599 : decode cL_law 599 = .ok (.bipush 32, 2) := by decide +kernel
theorem dL_law_601 : decode cL_law 601 = .ok (.lshl, 1) := by decide +kernel
theorem dL_law_602 : decode cL_law 602 = .ok (.aload_n 0, 1) := by decide +kernel
theorem dL_law_603 : decode cL_law 603 = .ok (.iload_n 3, 1) := by decide +kernel
theorem dL_law_604 : decode cL_law 604 = .ok (.iconst 2, 1) := by decide +kernel
theorem dL_law_605 : decode cL_law 605 = .ok (.iadd, 1) := by decide +kernel
theorem dL_law_606 : decode cL_law 606 = .ok (.iaload, 1) := by decide +kernel
theorem dL_law_607 : decode cL_law 607 = .ok (.i2l, 1) := by decide +kernel
theorem dL_law_608 : decode cL_law 608 = .ok (.ldc2_w 13, 3) := by decide +kernel
theorem dL_law_611 : decode cL_law 611 = .ok (.land, 1) := by decide +kernel
theorem dL_law_612 : decode cL_law 612 = .ok (.lor, 1) := by decide +kernel
theorem dL_law_613 : decode cL_law 613 = .ok (.invokevirtual 68, 3) := by decide +kernel
theorem dL_law_616 : decode cL_law 616 = .ok (.if_icmp .eq 51, 3) := by decide +kernel
theorem dL_law_619 : decode cL_law 619 = .ok (.iconst 0, 1) := by decide +kernel
theorem dL_law_620 : decode cL_law 620 = .ok (.ireturn, 1) := by decide +kernel
theorem dL_law_621 : decode cL_law 621 = .ok (.aload_n 1, 1) := by decide +kernel
theorem dL_law_622 : decode cL_law 622 = .ok (.aload_n 0, 1) := by decide +kernel
theorem dL_law_623 : decode cL_law 623 = .ok (.iload_n 3, 1) := by decide +kernel
theorem dL_law_624 : decode cL_law 624 = .ok (.iconst 1, 1) := by decide +kernel
theorem dL_law_625 : decode cL_law 625 = .ok (.iadd, 1) := by decide +kernel
theorem dL_law_626 : decode cL_law 626 = .ok (.iaload, 1) := by decide +kernel
theorem dL_law_627 : decode cL_law 627 = .ok (.invokevirtual 69, 3) := by decide +kernel
theorem dL_law_630 : decode cL_law 630 = .ok (.aload_n 2, 1) := by decide +kernel
theorem dL_law_631 : decode cL_law 631 = .ok (.aload_n 0, 1) := by decide +kernel
theorem dL_law_632 : decode cL_law 632 = .ok (.iload_n 3, 1) := by decide +kernel
theorem dL_law_633 : decode cL_law 633 = .ok (.iconst 1, 1) := by decide +kernel
theorem dL_law_634 : decode cL_law 634 = .ok (.iadd, 1) := by decide +kernel
theorem dL_law_635 : decode cL_law 635 = .ok (.iaload, 1) := by decide +kernel
theorem dL_law_636 : decode cL_law 636 = .ok (.invokevirtual 72, 3) := by decide +kernel
theorem dL_law_639 : decode cL_law 639 = .ok (.if_icmp .eq 28, 3) := by decide +kernel
theorem dL_law_642 : decode cL_law 642 = .ok (.iconst 0, 1) := by decide +kernel
theorem dL_law_643 : decode cL_law 643 = .ok (.ireturn, 1) := by decide +kernel
theorem dL_law_644 : decode cL_law 644 = .ok (.aload_n 1, 1) := by decide +kernel
theorem dL_law_645 : decode cL_law 645 = .ok (.aload_n 0, 1) := by decide +kernel
theorem dL_law_646 : decode cL_law 646 = .ok (.iload_n 3, 1) := by decide +kernel
theorem dL_law_647 : decode cL_law 647 = .ok (.iconst 1, 1) := by decide +kernel
theorem dL_law_648 : decode cL_law 648 = .ok (.iadd, 1) := by decide +kernel
theorem dL_law_649 : decode cL_law 649 = .ok (.iaload, 1) := by decide +kernel
theorem dL_law_650 : decode cL_law 650 = .ok (.invokevirtual 73, 3) := by decide +kernel
theorem dL_law_653 : decode cL_law 653 = .ok (.aload_n 2, 1) := by decide +kernel
theorem dL_law_654 : decode cL_law 654 = .ok (.aload_n 0, 1) := by decide +kernel
theorem dL_law_655 : decode cL_law 655 = .ok (.iload_n 3, 1) := by decide +kernel
theorem dL_law_656 : decode cL_law 656 = .ok (.iconst 1, 1) := by decide +kernel
theorem dL_law_657 : decode cL_law 657 = .ok (.iadd, 1) := by decide +kernel
theorem dL_law_658 : decode cL_law 658 = .ok (.iaload, 1) := by decide +kernel
theorem dL_law_659 : decode cL_law 659 = .ok (.invokevirtual 76, 3) := by decide +kernel
theorem dL_law_662 : decode cL_law 662 = .ok (.if_icmp .eq 5, 3) := by decide +kernel
theorem dL_law_665 : decode cL_law 665 = .ok (.iconst 0, 1) := by decide +kernel
theorem dL_law_666 : decode cL_law 666 = .ok (.ireturn, 1) := by decide +kernel
theorem dL_law_667 : decode cL_law 667 = .ok (.iinc 3 7, 3) := by decide +kernel
theorem dL_law_670 : decode cL_law 670 = .ok (.goto (-652), 3) := by decide +kernel
theorem dL_law_673 : decode cL_law 673 = .ok (.iconst 1, 1) := by decide +kernel
theorem dL_law_674 : decode cL_law 674 = .ok (.ireturn, 1) := by decide +kernel
