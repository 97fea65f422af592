theorem dX11_init_0 : decode cX11_init 0 = .ok (.aload_n 0, 1) := by decide +kernel
theorem dX11_init_1 : decode cX11_init 1 = .ok (.invokespecial 1, 3) := by decide +kernel
theorem dX11_init_4 : decode cX11_init 4 = .ok (.aload_n 0, 1) := by decide +kernel
theorem dX11_init_5 : decode cX11_init 5 = .ok (.bipush 60, 2) := by decide +kernel
theorem dX11_init_7 : decode cX11_init 7 = .ok (.newarray .int, 2) := by decide +kernel
theorem dX11_init_9 : decode cX11_init 9 = .ok (.putfield 7, 3) := by decide +kernel
theorem dX11_init_12 : decode cX11_init 12 = .ok (.aload_n 0, 1) := by decide +kernel
theorem dX11_init_13 : decode cX11_init 13 = .ok (.iconst 4, 1) := by decide +kernel
theorem dX11_init_14 : decode cX11_init 14 = .ok (.newarray .int, 2) := by decide +kernel
theorem dX11_init_16 : decode cX11_init 16 = .ok (.putfield 13, 3) := by decide +kernel
theorem dX11_init_19 : decode cX11_init 19 = .ok (.aload_n 0, 1) := by decide +kernel
theorem dX11_init_20 : decode cX11_init 20 = .ok (.bipush 100, 2) := by decide +kernel
theorem dX11_init_22 : decode cX11_init 22 = .ok (.newarray .boolean, 2) := by decide +kernel
theorem dX11_init_24 : decode cX11_init 24 = .ok (.putfield 16, 3) := by decide +kernel
theorem dX11_init_27 : decode cX11_init 27 = .ok (.aload_n 0, 1) := by decide +kernel
theorem dX11_init_28 : decode cX11_init 28 = .ok (.bipush 20, 2) := by decide +kernel
theorem dX11_init_30 : decode cX11_init 30 = .ok (.newarray .int, 2) := by decide +kernel
theorem dX11_init_32 : decode cX11_init 32 = .ok (.putfield 20, 3) := by decide +kernel
theorem dX11_init_35 : decode cX11_init 35 = .ok (.aload_n 0, 1) := by decide +kernel
theorem dX11_init_36 : decode cX11_init 36 = .ok (.bipush 20, 2) := by decide +kernel
theorem dX11_init_38 : decode cX11_init 38 = .ok (.newarray .int, 2) := by decide +kernel
theorem dX11_init_40 : decode cX11_init 40 = .ok (.putfield 23, 3) := by decide +kernel
theorem dX11_init_43 : decode cX11_init 43 = .ok (.aload_n 0, 1) := by decide +kernel
theorem dX11_init_44 : decode cX11_init 44 = .ok (.bipush 60, 2) := by decide +kernel
theorem dX11_init_46 : decode cX11_init 46 = .ok (.newarray .int, 2) := by decide +kernel
theorem dX11_init_48 : decode cX11_init 48 = .ok (.putfield 26, 3) := by decide +kernel
theorem dX11_init_51 : decode cX11_init 51 = .ok (.aload_n 0, 1) := by decide +kernel
theorem dX11_init_52 : decode cX11_init 52 = .ok (.sipush 2400, 3) := by decide +kernel
theorem dX11_init_55 : decode cX11_init 55 = .ok (.newarray .int, 2) := by decide +kernel
theorem dX11_init_57 : decode cX11_init 57 = .ok (.putfield 29, 3) := by decide +kernel
theorem dX11_init_60 : decode cX11_init 60 = .ok (.aload_n 0, 1) := by decide +kernel
theorem dX11_init_61 : decode cX11_init 61 = .ok (.bipush 40, 2) := by decide +kernel
theorem dX11_init_63 : decode cX11_init 63 = .ok (.newarray .int, 2) := by decide +kernel
theorem dX11_init_65 : decode cX11_init 65 = .ok (.putfield 32, 3) := by decide +kernel
theorem dX11_init_68 : decode cX11_init 68 = .ok (.aload_n 0, 1) := by decide +kernel
theorem dX11_init_69 : decode cX11_init 69 = .ok (.sipush 2400, 3) := by decide +kernel
theorem dX11_init_72 : decode cX11_init 72 = .ok (.newarray .int, 2) := by decide +kernel
theorem dX11_init_74 : decode cX11_init 74 = .ok (.putfield 35, 3) := by decide +kernel
theorem dX11_init_77 : decode cX11_init 77 = .ok (.aload_n 0, 1) := by decide +kernel
theorem dX11_init_78 : decode cX11_init 78 = .ok (.bipush 40, 2) := by decide +kernel
theorem dX11_init_80 : decode cX11_init 80 = .ok (.newarray .int, 2) := by decide +kernel
theorem dX11_init_82 : decode cX11_init 82 = .ok (.putfield 38, 3) := by decide +kernel
theorem dX11_init_85 : decode cX11_init 85 = .ok (.aload_n 0, 1) := by decide +kernel
theorem dX11_init_86 : decode cX11_init 86 = .ok (.bipush 40, 2) := by decide +kernel
theorem dX11_init_88 : decode cX11_init 88 = .ok (.newarray .boolean, 2) := by decide +kernel
theorem dX11_init_90 : decode cX11_init 90 = .ok (.putfield 41, 3) := by decide +kernel
theorem dX11_init_93 : decode cX11_init 93 = .ok (.aload_n 0, 1) := by decide +kernel
theorem dX11_init_94 : decode cX11_init 94 = .ok (.bipush 60, 2) := by decide +kernel
theorem dX11_init_96 : decode cX11_init 96 = .ok (.newarray .int, 2) := by decide +kernel
theorem dX11_init_98 : decode cX11_init 98 = .ok (.putfield 44, 3) := by decide +kernel
theorem dX11_init_101 : decode cX11_init 101 = .ok (.aload_n 0, 1) := by decide +kernel
theorem dX11_init_102 : decode cX11_init 102 = .ok (.bipush 61, 2) := by decide +kernel
theorem dX11_init_104 : decode cX11_init 104 = .ok (.newarray .int, 2) := by decide +kernel
theorem dX11_init_106 : decode cX11_init 106 = .ok (.putfield 47, 3) := by decide +kernel
theorem dX11_init_109 : decode cX11_init 109 = .ok (.aload_n 0, 1) := by decide +kernel
theorem dX11_init_110 : decode cX11_init 110 = .ok (.bipush 60, 2) := by decide +kernel
theorem dX11_init_112 : decode cX11_init 112 = .ok (.newarray .char, 2) := by decide +kernel
theorem dX11_init_114 : decode cX11_init 114 = .ok (.putfield 50, 3) := by decide +kernel
theorem dX11_init_117 : decode cX11_init 117 = .ok (.aload_n 0, 1) := by decide +kernel
theorem dX11_init_118 : decode cX11_init 118 = .ok (.bipush 60, 2) := by decide +kernel
theorem dX11_init_120 : decode cX11_init 120 = .ok (.newarray .int, 2) := by decide +kernel
theorem dX11_init_122 : decode cX11_init 122 = .ok (.putfield 54, 3) := by decide +kernel
theorem dX11_init_125 : decode cX11_init 125 = .ok (.aload_n 0, 1) := by decide +kernel
theorem dX11_init_126 : decode cX11_init 126 = .ok (.bipush 60, 2) := by decide +kernel
theorem dX11_init_128 : decode cX11_init 128 = .ok (.newarray .int, 2) := by decide +kernel
theorem dX11_init_130 : decode cX11_init 130 = .ok (.putfield 57, 3) := by decide +kernel
theorem dX11_init_133 : decode cX11_init 133 = .ok (.aload_n 0, 1) := by decide +kernel
theorem dX11_init_134 : decode cX11_init 134 = .ok (.sipush 3600, 3) := by decide +kernel
theorem dX11_init_137 : decode cX11_init 137 = .ok (.newarray .int, 2) := by decide +kernel
theorem dX11_init_139 : decode cX11_init 139 = .ok (.putfield 60, 3) := by decide +kernel
theorem dX11_init_142 : decode cX11_init 142 = .ok (.aload_n 0, 1) := by decide +kernel
theorem dX11_init_143 : decode cX11_init 143 = .ok (.bipush 60, 2) := by decide +kernel
theorem dX11_init_145 : decode cX11_init 145 = .ok (.newarray .int, 2) := by decide +kernel
theorem dX11_init_147 : decode cX11_init 147 = .ok (.putfield 63, 3) := by decide +kernel
theorem dX11_init_150 : decode cX11_init 150 = .ok (.aload_n 0, 1) := by decide +kernel
theorem dX11_init_151 : decode cX11_init 151 = .ok (.bipush 60, 2) := by decide +kernel
theorem dX11_init_153 : decode cX11_init 153 = .ok (.newarray .int, 2) := by decide +kernel
theorem dX11_init_155 : decode cX11_init 155 = .ok (.putfield 66, 3) := by decide +kernel
theorem dX11_init_158 : decode cX11_init 158 = .ok (.aload_n 0, 1) := by decide +kernel
theorem dX11_init_159 : decode cX11_init 159 = .ok (.sipush 3721, 3) := by decide +kernel
theorem dX11_init_162 : decode cX11_init 162 = .ok (.newarray .int, 2) := by decide +kernel
theorem dX11_init_164 : decode cX11_init 164 = .ok (.putfield 69, 3) := by decide +kernel
theorem dX11_init_167 : decode cX11_init 167 = .ok (.aload_n 0, 1) := by decide +kernel
theorem dX11_init_168 : decode cX11_init 168 = .ok (.bipush 60, 2) := by decide +kernel
theorem dX11_init_170 : decode cX11_init 170 = .ok (.newarray .int, 2) := by decide +kernel
theorem dX11_init_172 : decode cX11_init 172 = .ok (.putfield 72, 3) := by decide +kernel
theorem dX11_init_175 : decode cX11_init 175 = .ok (.aload_n 0, 1) := by decide +kernel
theorem dX11_init_176 : decode cX11_init 176 = .ok (.bipush 60, 2) := by decide +kernel
theorem dX11_init_178 : decode cX11_init 178 = .ok (.newarray .int, 2) := by decide +kernel
theorem dX11_init_180 : decode cX11_init 180 = .ok (.putfield 75, 3) := by decide +kernel
theorem dX11_init_183 : decode cX11_init 183 = .ok (.aload_n 0, 1) := by decide +kernel
theorem dX11_init_184 : decode cX11_init 184 = .ok (.getfield 13, 3) := by decide +kernel
theorem dX11_init_187 : decode cX11_init 187 = .ok (.iconst 0, 1) := by decide +kernel
theorem dX11_init_188 : decode cX11_init 188 = .ok (.iconst 4, 1) := by decide +kernel
theorem dX11_init_189 : decode cX11_init 189 = .ok (.iastore, 1) := by decide +kernel
theorem dX11_init_190 : decode cX11_init 190 = .ok (.aload_n 0, 1) := by decide +kernel
theorem dX11_init_191 : decode cX11_init 191 = .ok (.getfield 13, 3) := by decide +kernel
theorem dX11_init_194 : decode cX11_init 194 = .ok (.iconst 1, 1) := by decide +kernel
theorem dX11_init_195 : decode cX11_init 195 = .ok (.iconst 2, 1) := by decide +kernel
theorem dX11_init_196 : decode cX11_init 196 = .ok (.iastore, 1) := by decide +kernel
theorem dX11_init_197 : decode cX11_init 197 = .ok (.aload_n 0, 1) := by decide +kernel
theorem dX11_init_198 : decode cX11_init 198 = .ok (.getfield 13, 3) := by decide +kernel
theorem dX11_init_201 : decode cX11_init 201 = .ok (.iconst 2, 1) := by decide +kernel
theorem dX11_init_202 : decode cX11_init 202 = .ok (.iconst 1, 1) := by decide +kernel
theorem dX11_init_203 : decode cX11_init 203 = .ok (.iastore, 1) := by decide +kernel
theorem dX11_init_204 : decode cX11_init 204 = .ok (.aload_n 0, 1) := by decide +kernel
theorem dX11_init_205 : decode cX11_init 205 = .ok (.getfield 13, 3) := by decide +kernel
theorem dX11_init_208 : decode cX11_init 208 = .ok (.iconst 3, 1) := by decide +kernel
theorem dX11_init_209 : decode cX11_init 209 = .ok (.iconst 1, 1) := by decide +kernel
theorem dX11_init_210 : decode cX11_init 210 = .ok (.iastore, 1) := by decide +kernel
theorem dX11_init_211 : decode cX11_init 211 = .ok (.return_, 1) := by decide +kernel
theorem dX11_thrown_0 : decode cX11_thrown 0 = .ok (.aload_n 0, 1) := by decide +kernel
theorem dX11_thrown_1 : decode cX11_thrown 1 = .ok (.getfield 78, 3) := by decide +kernel
theorem dX11_thrown_4 : decode cX11_thrown 4 = .ok (.ireturn, 1) := by decide +kernel
theorem dX11_in_0 : decode cX11_in 0 = .ok (.iload_n 0, 1) := by decide +kernel
theorem dX11_in_1 : decode cX11_in 1 = .ok (.iload_n 1, 1) := by decide +kernel
theorem dX11_in_2 : decode cX11_in 2 = .ok (.if_icmp .lt 12, 3) := by decide +kernel
theorem dX11_in_5 : decode cX11_in 5 = .ok (.iload_n 0, 1) := by decide +kernel
theorem dX11_in_6 : decode cX11_in 6 = .ok (.iload_n 2, 1) := by decide +kernel
theorem dX11_in_7 : decode cX11_in 7 = .ok (.if_icmp .gt 7, 3) := by decide +kernel
theorem dX11_in_10 : decode cX11_in 10 = .ok (.iconst 1, 1) := by decide +kernel
theorem dX11_in_11 : decode cX11_in 11 = .ok (.goto 4, 3) := by decide +kernel
theorem dX11_in_14 : decode cX11_in 14 = .ok (.iconst 0, 1) := by decide +kernel
theorem dX11_in_15 : decode cX11_in 15 = .ok (.ireturn, 1) := by decide +kernel
theorem dX11_fails_0 : decode cX11_fails 0 = .ok (.iload_n 1, 1) := by decide +kernel
theorem dX11_fails_1 : decode cX11_fails 1 = .ok (.ifCond .eq 15, 3) := by decide +kernel
theorem dX11_fails_4 : decode cX11_fails 4 = .ok (.aload_n 0, 1) := by decide +kernel
theorem dX11_fails_5 : decode cX11_fails 5 = .ok (.getfield 78, 3) := by decide +kernel
theorem dX11_fails_8 : decode cX11_fails 8 = .ok (.ifCond .ne 8, 3) := by decide +kernel
theorem dX11_fails_11 : decode cX11_fails 11 = .ok (.aload_n 0, 1) := by decide +kernel
theorem dX11_fails_12 : decode cX11_fails 12 = .ok (.iload_n 2, 1) := by decide +kernel
theorem dX11_fails_13 : decode cX11_fails 13 = .ok (.putfield 78, 3) := by decide +kernel
theorem dX11_fails_16 : decode cX11_fails 16 = .ok (.aload_n 0, 1) := by decide +kernel
theorem dX11_fails_17 : decode cX11_fails 17 = .ok (.getfield 78, 3) := by decide +kernel
theorem dX11_fails_20 : decode cX11_fails 20 = .ok (.ifCond .eq 7, 3) := by decide +kernel
theorem dX11_fails_23 : decode cX11_fails 23 = .ok (.iconst 1, 1) := by decide +kernel
theorem dX11_fails_24 : decode cX11_fails 24 = .ok (.goto 4, 3) := by decide +kernel
theorem dX11_fails_27 : decode cX11_fails 27 = .ok (.iconst 0, 1) := by decide +kernel
theorem dX11_fails_28 : decode cX11_fails 28 = .ok (.ireturn, 1) := by decide +kernel
theorem dX11_puts_0 : decode cX11_puts 0 = .ok (.aload_n 0, 1) := by decide +kernel
theorem dX11_puts_1 : decode cX11_puts 1 = .ok (.iconst 0, 1) := by decide +kernel
theorem dX11_puts_2 : decode cX11_puts 2 = .ok (.putfield 78, 3) := by decide +kernel
theorem dX11_puts_5 : decode cX11_puts 5 = .ok (.aload_n 0, 1) := by decide +kernel
theorem dX11_puts_6 : decode cX11_puts 6 = .ok (.iload_n 3, 1) := by decide +kernel
theorem dX11_puts_7 : decode cX11_puts 7 = .ok (.ifCond .ne 7, 3) := by decide +kernel
theorem dX11_puts_10 : decode cX11_puts 10 = .ok (.iconst 1, 1) := by decide +kernel
theorem dX11_puts_11 : decode cX11_puts 11 = .ok (.goto 4, 3) := by decide +kernel
theorem dX11_puts_14 : decode cX11_puts 14 = .ok (.iconst 0, 1) := by decide +kernel
theorem dX11_puts_15 : decode cX11_puts 15 = .ok (.iconst 1, 1) := by decide +kernel
theorem dX11_puts_16 : decode cX11_puts 16 = .ok (.invokevirtual 82, 3) := by decide +kernel
theorem dX11_puts_19 : decode cX11_puts 19 = .ok (.ifCond .ne 25, 3) := by decide +kernel
theorem dX11_puts_22 : decode cX11_puts 22 = .ok (.aload_n 0, 1) := by decide +kernel
theorem dX11_puts_23 : decode cX11_puts 23 = .ok (.aload_n 0, 1) := by decide +kernel
theorem dX11_puts_24 : decode cX11_puts 24 = .ok (.getfield 86, 3) := by decide +kernel
theorem dX11_puts_27 : decode cX11_puts 27 = .ok (.bipush 60, 2) := by decide +kernel
theorem dX11_puts_29 : decode cX11_puts 29 = .ok (.if_icmp .ne 7, 3) := by decide +kernel
theorem dX11_puts_32 : decode cX11_puts 32 = .ok (.iconst 1, 1) := by decide +kernel
theorem dX11_puts_33 : decode cX11_puts 33 = .ok (.goto 4, 3) := by decide +kernel
theorem dX11_puts_36 : decode cX11_puts 36 = .ok (.iconst 0, 1) := by decide +kernel
theorem dX11_puts_37 : decode cX11_puts 37 = .ok (.iconst 2, 1) := by decide +kernel
theorem dX11_puts_38 : decode cX11_puts 38 = .ok (.invokevirtual 82, 3) := by decide +kernel
theorem dX11_puts_41 : decode cX11_puts 41 = .ok (.ifCond .eq 5, 3) := by decide +kernel
theorem dX11_puts_44 : decode cX11_puts 44 = .ok (.iconst 0, 1) := by decide +kernel
theorem dX11_puts_45 : decode cX11_puts 45 = .ok (.ireturn, 1) := by decide +kernel
theorem dX11_puts_46 : decode cX11_puts 46 = .ok (.aload_n 0, 1) := by decide +kernel
theorem dX11_puts_47 : decode cX11_puts 47 = .ok (.getfield 7, 3) := by decide +kernel
theorem dX11_puts_50 : decode cX11_puts 50 = .ok (.aload_n 0, 1) := by decide +kernel
theorem dX11_puts_51 : decode cX11_puts 51 = .ok (.getfield 86, 3) := by decide +kernel
theorem dX11_puts_54 : decode cX11_puts 54 = .ok (.iload_n 1, 1) := by decide +kernel
theorem dX11_puts_55 : decode cX11_puts 55 = .ok (.sipush 10000, 3) := by decide +kernel
theorem dX11_puts_58 : decode cX11_puts 58 = .ok (.imul, 1) := by decide +kernel
theorem dX11_puts_59 : decode cX11_puts 59 = .ok (.iload_n 2, 1) := by decide +kernel
theorem dX11_puts_60 : decode cX11_puts 60 = .ok (.iadd, 1) := by decide +kernel
theorem dX11_puts_61 : decode cX11_puts 61 = .ok (.iastore, 1) := by decide +kernel
theorem dX11_puts_62 : decode cX11_puts 62 = .ok (.aload_n 0, 1) := by decide +kernel
theorem dX11_puts_63 : decode cX11_puts 63 = .ok (.dup, 1) := by decide +kernel
theorem dX11_puts_64 : decode cX11_puts 64 = .ok (.getfield 86, 3) := by decide +kernel
theorem dX11_puts_67 : decode cX11_puts 67 = .ok (.iconst 1, 1) := by decide +kernel
theorem dX11_puts_68 : decode cX11_puts 68 = .ok (.iadd, 1) := by decide +kernel
theorem dX11_puts_69 : decode cX11_puts 69 = .ok (.putfield 86, 3) := by decide +kernel
theorem dX11_puts_72 : decode cX11_puts 72 = .ok (.aload_n 0, 1) := by decide +kernel
theorem dX11_puts_73 : decode cX11_puts 73 = .ok (.getfield 86, 3) := by decide +kernel
theorem dX11_puts_76 : decode cX11_puts 76 = .ok (.ireturn, 1) := by decide +kernel
theorem dX11_word_0 : decode cX11_word 0 = .ok (.aload_n 0, 1) := by decide +kernel
theorem dX11_word_1 : decode cX11_word 1 = .ok (.iconst 0, 1) := by decide +kernel
theorem dX11_word_2 : decode cX11_word 2 = .ok (.iload_n 1, 1) := by decide +kernel
theorem dX11_word_3 : decode cX11_word 3 = .ok (.iload_n 1, 1) := by decide +kernel
theorem dX11_word_4 : decode cX11_word 4 = .ok (.iconst 0, 1) := by decide +kernel
theorem dX11_word_5 : decode cX11_word 5 = .ok (.bipush 99, 2) := by decide +kernel
theorem dX11_word_7 : decode cX11_word 7 = .ok (.invokestatic 89, 3) := by decide +kernel
theorem dX11_word_10 : decode cX11_word 10 = .ok (.invokevirtual 93, 3) := by decide +kernel
theorem dX11_word_13 : decode cX11_word 13 = .ok (.ireturn, 1) := by decide +kernel
theorem dX11_number_0 : decode cX11_number 0 = .ok (.aload_n 0, 1) := by decide +kernel
theorem dX11_number_1 : decode cX11_number 1 = .ok (.iconst 1, 1) := by decide +kernel
theorem dX11_number_2 : decode cX11_number 2 = .ok (.iload_n 1, 1) := by decide +kernel
theorem dX11_number_3 : decode cX11_number 3 = .ok (.iload_n 1, 1) := by decide +kernel
theorem dX11_number_4 : decode cX11_number 4 = .ok (.iconst 0, 1) := by decide +kernel
theorem dX11_number_5 : decode cX11_number 5 = .ok (.sipush 9999, 3) := by decide +kernel
theorem dX11_number_8 : decode cX11_number 8 = .ok (.invokestatic 89, 3) := by decide +kernel
theorem dX11_number_11 : decode cX11_number 11 = .ok (.invokevirtual 93, 3) := by decide +kernel
theorem dX11_number_14 : decode cX11_number 14 = .ok (.ireturn, 1) := by decide +kernel
theorem dX11_tag_0 : decode cX11_tag 0 = .ok (.aload_n 0, 1) := by decide +kernel
theorem dX11_tag_1 : decode cX11_tag 1 = .ok (.iconst 2, 1) := by decide +kernel
theorem dX11_tag_2 : decode cX11_tag 2 = .ok (.iload_n 1, 1) := by decide +kernel
theorem dX11_tag_3 : decode cX11_tag 3 = .ok (.iload_n 1, 1) := by decide +kernel
theorem dX11_tag_4 : decode cX11_tag 4 = .ok (.iconst 0, 1) := by decide +kernel
theorem dX11_tag_5 : decode cX11_tag 5 = .ok (.bipush 9, 2) := by decide +kernel
theorem dX11_tag_7 : decode cX11_tag 7 = .ok (.invokestatic 89, 3) := by decide +kernel
theorem dX11_tag_10 : decode cX11_tag 10 = .ok (.invokevirtual 93, 3) := by decide +kernel
theorem dX11_tag_13 : decode cX11_tag 13 = .ok (.ireturn, 1) := by decide +kernel
theorem dX11_mark_0 : decode cX11_mark 0 = .ok (.aload_n 0, 1) := by decide +kernel
theorem dX11_mark_1 : decode cX11_mark 1 = .ok (.iconst 3, 1) := by decide +kernel
theorem dX11_mark_2 : decode cX11_mark 2 = .ok (.iload_n 1, 1) := by decide +kernel
theorem dX11_mark_3 : decode cX11_mark 3 = .ok (.iload_n 1, 1) := by decide +kernel
theorem dX11_mark_4 : decode cX11_mark 4 = .ok (.bipush 46, 2) := by decide +kernel
theorem dX11_mark_6 : decode cX11_mark 6 = .ok (.if_icmp .eq 27, 3) := by decide +kernel
theorem dX11_mark_9 : decode cX11_mark 9 = .ok (.iload_n 1, 1) := by decide +kernel
theorem dX11_mark_10 : decode cX11_mark 10 = .ok (.bipush 33, 2) := by decide +kernel
theorem dX11_mark_12 : decode cX11_mark 12 = .ok (.if_icmp .eq 21, 3) := by decide +kernel
theorem dX11_mark_15 : decode cX11_mark 15 = .ok (.iload_n 1, 1) := by decide +kernel
theorem dX11_mark_16 : decode cX11_mark 16 = .ok (.bipush 63, 2) := by decide +kernel
theorem dX11_mark_18 : decode cX11_mark 18 = .ok (.if_icmp .eq 15, 3) := by decide +kernel
theorem dX11_mark_21 : decode cX11_mark 21 = .ok (.iload_n 1, 1) := by decide +kernel
theorem dX11_mark_22 : decode cX11_mark 22 = .ok (.bipush 44, 2) := by decide +kernel
theorem dX11_mark_24 : decode cX11_mark 24 = .ok (.if_icmp .eq 9, 3) := by decide +kernel
theorem dX11_mark_27 : decode cX11_mark 27 = .ok (.iload_n 1, 1) := by decide +kernel
theorem dX11_mark_28 : decode cX11_mark 28 = .ok (.bipush 59, 2) := by decide +kernel
theorem dX11_mark_30 : decode cX11_mark 30 = .ok (.if_icmp .ne 7, 3) := by decide +kernel
theorem dX11_mark_33 : decode cX11_mark 33 = .ok (.iconst 1, 1) := by decide +kernel
theorem dX11_mark_34 : decode cX11_mark 34 = .ok (.goto 4, 3) := by decide +kernel
theorem dX11_mark_37 : decode cX11_mark 37 = .ok (.iconst 0, 1) := by decide +kernel
theorem dX11_mark_38 : decode cX11_mark 38 = .ok (.invokevirtual 93, 3) := by decide +kernel
theorem dX11_mark_41 : decode cX11_mark 41 = .ok (.ireturn, 1) := by decide +kernel
theorem dX11_clear_0 : decode cX11_clear 0 = .ok (.aload_n 0, 1) := by decide +kernel
theorem dX11_clear_1 : decode cX11_clear 1 = .ok (.iconst 0, 1) := by decide +kernel
theorem dX11_clear_2 : decode cX11_clear 2 = .ok (.putfield 78, 3) := by decide +kernel
theorem dX11_clear_5 : decode cX11_clear 5 = .ok (.aload_n 0, 1) := by decide +kernel
theorem dX11_clear_6 : decode cX11_clear 6 = .ok (.getfield 86, 3) := by decide +kernel
theorem dX11_clear_9 : decode cX11_clear 9 = .ok (.istore_n 1, 1) := by decide +kernel
theorem dX11_clear_10 : decode cX11_clear 10 = .ok (.aload_n 0, 1) := by decide +kernel
theorem dX11_clear_11 : decode cX11_clear 11 = .ok (.iconst 0, 1) := by decide +kernel
theorem dX11_clear_12 : decode cX11_clear 12 = .ok (.putfield 86, 3) := by decide +kernel
theorem dX11_clear_15 : decode cX11_clear 15 = .ok (.iload_n 1, 1) := by decide +kernel
theorem dX11_clear_16 : decode cX11_clear 16 = .ok (.ireturn, 1) := by decide +kernel
theorem dX11_setWeights_0 : decode cX11_setWeights 0 = .ok (.aload_n 0, 1) := by decide +kernel
theorem dX11_setWeights_1 : decode cX11_setWeights 1 = .ok (.iconst 0, 1) := by decide +kernel
theorem dX11_setWeights_2 : decode cX11_setWeights 2 = .ok (.putfield 78, 3) := by decide +kernel
theorem dX11_setWeights_5 : decode cX11_setWeights 5 = .ok (.aload_n 0, 1) := by decide +kernel
theorem dX11_setWeights_6 : decode cX11_setWeights 6 = .ok (.iload_n 1, 1) := by decide +kernel
theorem dX11_setWeights_7 : decode cX11_setWeights 7 = .ok (.iconst 1, 1) := by decide +kernel
theorem dX11_setWeights_8 : decode cX11_setWeights 8 = .ok (.bipush 9, 2) := by decide +kernel
theorem dX11_setWeights_10 : decode cX11_setWeights 10 = .ok (.invokestatic 89, 3) := by decide +kernel
theorem dX11_setWeights_13 : decode cX11_setWeights 13 = .ok (.ifCond .eq 34, 3) := by decide +kernel
theorem dX11_setWeights_16 : decode cX11_setWeights 16 = .ok (.iload_n 2, 1) := by decide +kernel
theorem dX11_setWeights_17 : decode cX11_setWeights 17 = .ok (.iconst 1, 1) := by decide +kernel
theorem dX11_setWeights_18 : decode cX11_setWeights 18 = .ok (.bipush 9, 2) := by decide +kernel
theorem dX11_setWeights_20 : decode cX11_setWeights 20 = .ok (.invokestatic 89, 3) := by decide +kernel
theorem dX11_setWeights_23 : decode cX11_setWeights 23 = .ok (.ifCond .eq 24, 3) := by decide +kernel
theorem dX11_setWeights_26 : decode cX11_setWeights 26 = .ok (.iload_n 3, 1) := by decide +kernel
theorem dX11_setWeights_27 : decode cX11_setWeights 27 = .ok (.iconst 1, 1) := by decide +kernel
theorem dX11_setWeights_28 : decode cX11_setWeights 28 = .ok (.bipush 9, 2) := by decide +kernel
theorem dX11_setWeights_30 : decode cX11_setWeights 30 = .ok (.invokestatic 89, 3) := by decide +kernel
theorem dX11_setWeights_33 : decode cX11_setWeights 33 = .ok (.ifCond .eq 14, 3) := by decide +kernel
theorem dX11_setWeights_36 : decode cX11_setWeights 36 = .ok (.iload 4, 2) := by decide +kernel
theorem dX11_setWeights_38 : decode cX11_setWeights 38 = .ok (.iconst 1, 1) := by decide +kernel
theorem dX11_setWeights_39 : decode cX11_setWeights 39 = .ok (.bipush 9, 2) := by decide +kernel
theorem dX11_setWeights_41 : decode cX11_setWeights 41 = .ok (.invokestatic 89, 3) := by decide +kernel
theorem dX11_setWeights_44 : decode cX11_setWeights 44 = .ok (.ifCond .ne 7, 3) := by decide +kernel
theorem dX11_setWeights_47 : decode cX11_setWeights 47 = .ok (.iconst 1, 1) := by decide +kernel
theorem dX11_setWeights_48 : decode cX11_setWeights 48 = .ok (.goto 4, 3) := by decide +kernel
theorem dX11_setWeights_51 : decode cX11_setWeights 51 = .ok (.iconst 0, 1) := by decide +kernel
theorem dX11_setWeights_52 : decode cX11_setWeights 52 = .ok (.iconst 1, 1) := by decide +kernel
theorem dX11_setWeights_53 : decode cX11_setWeights 53 = .ok (.invokevirtual 82, 3) := by decide +kernel
theorem dX11_setWeights_56 : decode cX11_setWeights 56 = .ok (.ifCond .eq 5, 3) := by decide +kernel
theorem dX11_setWeights_59 : decode cX11_setWeights 59 = .ok (.iconst 0, 1) := by decide +kernel
theorem dX11_setWeights_60 : decode cX11_setWeights 60 = .ok (.ireturn, 1) := by decide +kernel
theorem dX11_setWeights_61 : decode cX11_setWeights 61 = .ok (.aload_n 0, 1) := by decide +kernel
theorem dX11_setWeights_62 : decode cX11_setWeights 62 = .ok (.getfield 13, 3) := by decide +kernel
theorem dX11_setWeights_65 : decode cX11_setWeights 65 = .ok (.iconst 0, 1) := by decide +kernel
theorem dX11_setWeights_66 : decode cX11_setWeights 66 = .ok (.iaload, 1) := by decide +kernel
theorem dX11_setWeights_67 : decode cX11_setWeights 67 = .ok (.istore 5, 2) := by decide +kernel
theorem dX11_setWeights_69 : decode cX11_setWeights 69 = .ok (.aload_n 0, 1) := by decide +kernel
theorem dX11_setWeights_70 : decode cX11_setWeights 70 = .ok (.getfield 13, 3) := by decide +kernel
theorem dX11_setWeights_73 : decode cX11_setWeights 73 = .ok (.iconst 0, 1) := by decide +kernel
theorem dX11_setWeights_74 : decode cX11_setWeights 74 = .ok (.iload_n 1, 1) := by decide +kernel
theorem dX11_setWeights_75 : decode cX11_setWeights 75 = .ok (.iastore, 1) := by decide +kernel
theorem dX11_setWeights_76 : decode cX11_setWeights 76 = .ok (.aload_n 0, 1) := by decide +kernel
theorem dX11_setWeights_77 : decode cX11_setWeights 77 = .ok (.getfield 13, 3) := by decide +kernel
theorem dX11_setWeights_80 : decode cX11_setWeights 80 = .ok (.iconst 1, 1) := by decide +kernel
theorem dX11_setWeights_81 : decode cX11_setWeights 81 = .ok (.iload_n 2, 1) := by decide +kernel
theorem dX11_setWeights_82 : decode cX11_setWeights 82 = .ok (.iastore, 1) := by decide +kernel
theorem dX11_setWeights_83 : decode cX11_setWeights 83 = .ok (.aload_n 0, 1) := by decide +kernel
theorem dX11_setWeights_84 : decode cX11_setWeights 84 = .ok (.getfield 13, 3) := by decide +kernel
theorem dX11_setWeights_87 : decode cX11_setWeights 87 = .ok (.iconst 2, 1) := by decide +kernel
theorem dX11_setWeights_88 : decode cX11_setWeights 88 = .ok (.iload_n 3, 1) := by decide +kernel
theorem dX11_setWeights_89 : decode cX11_setWeights 89 = .ok (.iastore, 1) := by decide +kernel
theorem dX11_setWeights_90 : decode cX11_setWeights 90 = .ok (.aload_n 0, 1) := by decide +kernel
theorem dX11_setWeights_91 : decode cX11_setWeights 91 = .ok (.getfield 13, 3) := by decide +kernel
theorem dX11_setWeights_94 : decode cX11_setWeights 94 = .ok (.iconst 3, 1) := by decide +kernel
theorem dX11_setWeights_95 : decode cX11_setWeights 95 = .ok (.iload 4, 2) := by decide +kernel
theorem dX11_setWeights_97 : decode cX11_setWeights 97 = .ok (.iastore, 1) := by decide +kernel
theorem dX11_setWeights_98 : decode cX11_setWeights 98 = .ok (.iload 5, 2) := by decide +kernel
theorem dX11_setWeights_100 : decode cX11_setWeights 100 = .ok (.ireturn, 1) := by decide +kernel
theorem dX11_addAbbreviation_0 : decode cX11_addAbbreviation 0 = .ok (.aload_n 0, 1) := by decide +kernel
theorem dX11_addAbbreviation_1 : decode cX11_addAbbreviation 1 = .ok (.iconst 0, 1) := by decide +kernel
theorem dX11_addAbbreviation_2 : decode cX11_addAbbreviation 2 = .ok (.putfield 78, 3) := by decide +kernel
theorem dX11_addAbbreviation_5 : decode cX11_addAbbreviation 5 = .ok (.aload_n 0, 1) := by decide +kernel
theorem dX11_addAbbreviation_6 : decode cX11_addAbbreviation 6 = .ok (.iload_n 1, 1) := by decide +kernel
theorem dX11_addAbbreviation_7 : decode cX11_addAbbreviation 7 = .ok (.iconst 0, 1) := by decide +kernel
theorem dX11_addAbbreviation_8 : decode cX11_addAbbreviation 8 = .ok (.bipush 99, 2) := by decide +kernel
theorem dX11_addAbbreviation_10 : decode cX11_addAbbreviation 10 = .ok (.invokestatic 89, 3) := by decide +kernel
theorem dX11_addAbbreviation_13 : decode cX11_addAbbreviation 13 = .ok (.ifCond .ne 7, 3) := by decide +kernel
theorem dX11_addAbbreviation_16 : decode cX11_addAbbreviation 16 = .ok (.iconst 1, 1) := by decide +kernel
theorem dX11_addAbbreviation_17 : decode cX11_addAbbreviation 17 = .ok (.goto 4, 3) := by decide +kernel
theorem dX11_addAbbreviation_20 : decode cX11_addAbbreviation 20 = .ok (.iconst 0, 1) := by decide +kernel
theorem dX11_addAbbreviation_21 : decode cX11_addAbbreviation 21 = .ok (.iconst 1, 1) := by decide +kernel
theorem dX11_addAbbreviation_22 : decode cX11_addAbbreviation 22 = .ok (.invokevirtual 82, 3) := by decide +kernel
theorem dX11_addAbbreviation_25 : decode cX11_addAbbreviation 25 = .ok (.ifCond .eq 5, 3) := by decide +kernel
theorem dX11_addAbbreviation_28 : decode cX11_addAbbreviation 28 = .ok (.iconst 0, 1) := by decide +kernel
theorem dX11_addAbbreviation_29 : decode cX11_addAbbreviation 29 = .ok (.ireturn, 1) := by decide +kernel
theorem dX11_addAbbreviation_30 : decode cX11_addAbbreviation 30 = .ok (.aload_n 0, 1) := by decide +kernel
theorem dX11_addAbbreviation_31 : decode cX11_addAbbreviation 31 = .ok (.getfield 16, 3) := by decide +kernel
theorem dX11_addAbbreviation_34 : decode cX11_addAbbreviation 34 = .ok (.iload_n 1, 1) := by decide +kernel
theorem dX11_addAbbreviation_35 : decode cX11_addAbbreviation 35 = .ok (.baload, 1) := by decide +kernel
theorem dX11_addAbbreviation_36 : decode cX11_addAbbreviation 36 = .ok (.istore_n 2, 1) := by decide +kernel
theorem dX11_addAbbreviation_37 : decode cX11_addAbbreviation 37 = .ok (.aload_n 0, 1) := by decide +kernel
theorem dX11_addAbbreviation_38 : decode cX11_addAbbreviation 38 = .ok (.getfield 16, 3) := by decide +kernel
theorem dX11_addAbbreviation_41 : decode cX11_addAbbreviation 41 = .ok (.iload_n 1, 1) := by decide +kernel
theorem dX11_addAbbreviation_42 : decode cX11_addAbbreviation 42 = .ok (.iconst 1, 1) := by decide +kernel
theorem dX11_addAbbreviation_43 : decode cX11_addAbbreviation 43 = .ok (.bastore, 1) := by decide +kernel
theorem dX11_addAbbreviation_44 : decode cX11_addAbbreviation 44 = .ok (.iload_n 2, 1) := by decide +kernel
theorem dX11_addAbbreviation_45 : decode cX11_addAbbreviation 45 = .ok (.ifCond .ne 7, 3) := by decide +kernel
theorem dX11_addAbbreviation_48 : decode cX11_addAbbreviation 48 = .ok (.iconst 1, 1) := by decide +kernel
theorem dX11_addAbbreviation_49 : decode cX11_addAbbreviation 49 = .ok (.goto 4, 3) := by decide +kernel
theorem dX11_addAbbreviation_52 : decode cX11_addAbbreviation 52 = .ok (.iconst 0, 1) := by decide +kernel
theorem dX11_addAbbreviation_53 : decode cX11_addAbbreviation 53 = .ok (.ireturn, 1) := by decide +kernel
theorem dX11_addTerm_0 : decode cX11_addTerm 0 = .ok (.aload_n 0, 1) := by decide +kernel
theorem dX11_addTerm_1 : decode cX11_addTerm 1 = .ok (.iconst 0, 1) := by decide +kernel
theorem dX11_addTerm_2 : decode cX11_addTerm 2 = .ok (.putfield 78, 3) := by decide +kernel
theorem dX11_addTerm_5 : decode cX11_addTerm 5 = .ok (.iconst 0, 1) := by decide +kernel
theorem dX11_addTerm_6 : decode cX11_addTerm 6 = .ok (.istore_n 3, 1) := by decide +kernel
theorem dX11_addTerm_7 : decode cX11_addTerm 7 = .ok (.iconst 0, 1) := by decide +kernel
theorem dX11_addTerm_8 : decode cX11_addTerm 8 = .ok (.istore 4, 2) := by decide +kernel
theorem dX11_addTerm_10 : decode cX11_addTerm 10 = .ok (.iload 4, 2) := by decide +kernel
theorem dX11_addTerm_12 : decode cX11_addTerm 12 = .ok (.aload_n 0, 1) := by decide +kernel
theorem dX11_addTerm_13 : decode cX11_addTerm 13 = .ok (.getfield 97, 3) := by decide +kernel
theorem dX11_addTerm_16 : decode cX11_addTerm 16 = .ok (.if_icmp .ge 41, 3) := by decide +kernel
theorem dX11_addTerm_19 : decode cX11_addTerm 19 = .ok (.iload_n 3, 1) := by decide +kernel
theorem dX11_addTerm_20 : decode cX11_addTerm 20 = .ok (.ifCond .ne 25, 3) := by decide +kernel
theorem dX11_addTerm_23 : decode cX11_addTerm 23 = .ok (.aload_n 0, 1) := by decide +kernel
theorem dX11_addTerm_24 : decode cX11_addTerm 24 = .ok (.getfield 20, 3) := by decide +kernel
theorem dX11_addTerm_27 : decode cX11_addTerm 27 = .ok (.iload 4, 2) := by decide +kernel
theorem dX11_addTerm_29 : decode cX11_addTerm 29 = .ok (.iaload, 1) := by decide +kernel
theorem dX11_addTerm_30 : decode cX11_addTerm 30 = .ok (.iload_n 1, 1) := by decide +kernel
theorem dX11_addTerm_31 : decode cX11_addTerm 31 = .ok (.if_icmp .ne 18, 3) := by decide +kernel
theorem dX11_addTerm_34 : decode cX11_addTerm 34 = .ok (.aload_n 0, 1) := by decide +kernel
theorem dX11_addTerm_35 : decode cX11_addTerm 35 = .ok (.getfield 23, 3) := by decide +kernel
theorem dX11_addTerm_38 : decode cX11_addTerm 38 = .ok (.iload 4, 2) := by decide +kernel
theorem dX11_addTerm_40 : decode cX11_addTerm 40 = .ok (.iaload, 1) := by decide +kernel
theorem dX11_addTerm_41 : decode cX11_addTerm 41 = .ok (.iload_n 2, 1) := by decide +kernel
theorem dX11_addTerm_42 : decode cX11_addTerm 42 = .ok (.if_icmp .ne 7, 3) := by decide +kernel
theorem dX11_addTerm_45 : decode cX11_addTerm 45 = .ok (.iconst 1, 1) := by decide +kernel
theorem dX11_addTerm_46 : decode cX11_addTerm 46 = .ok (.goto 4, 3) := by decide +kernel
theorem dX11_addTerm_49 : decode cX11_addTerm 49 = .ok (.iconst 0, 1) := by decide +kernel
theorem dX11_addTerm_50 : decode cX11_addTerm 50 = .ok (.istore_n 3, 1) := by decide +kernel
theorem dX11_addTerm_51 : decode cX11_addTerm 51 = .ok (.iinc 4 1, 3) := by decide +kernel
theorem dX11_addTerm_54 : decode cX11_addTerm 54 = .ok (.goto (-44), 3) := by decide +kernel
theorem dX11_addTerm_57 : decode cX11_addTerm 57 = .ok (.aload_n 0, 1) := by decide +kernel
theorem dX11_addTerm_58 : decode cX11_addTerm 58 = .ok (.iload_n 1, 1) := by decide +kernel
theorem dX11_addTerm_59 : decode cX11_addTerm 59 = .ok (.iconst 0, 1) := by decide +kernel
theorem dX11_addTerm_60 : decode cX11_addTerm 60 = .ok (.bipush 99, 2) := by decide +kernel
theorem dX11_addTerm_62 : decode cX11_addTerm 62 = .ok (.invokestatic 89, 3) := by decide +kernel
theorem dX11_addTerm_65 : decode cX11_addTerm 65 = .ok (.ifCond .eq 13, 3) := by decide +kernel
theorem dX11_addTerm_68 : decode cX11_addTerm 68 = .ok (.iload_n 2, 1) := by decide +kernel
theorem dX11_addTerm_69 : decode cX11_addTerm 69 = .ok (.iconst 0, 1) := by decide +kernel
theorem dX11_addTerm_70 : decode cX11_addTerm 70 = .ok (.bipush 99, 2) := by decide +kernel
theorem dX11_addTerm_72 : decode cX11_addTerm 72 = .ok (.invokestatic 89, 3) := by decide +kernel
theorem dX11_addTerm_75 : decode cX11_addTerm 75 = .ok (.ifCond .ne 7, 3) := by decide +kernel
theorem dX11_addTerm_78 : decode cX11_addTerm 78 = .ok (.iconst 1, 1) := by decide +kernel
theorem dX11_addTerm_79 : decode cX11_addTerm 79 = .ok (.goto 4, 3) := by decide +kernel
theorem dX11_addTerm_82 : decode cX11_addTerm 82 = .ok (.iconst 0, 1) := by decide +kernel
theorem dX11_addTerm_83 : decode cX11_addTerm 83 = .ok (.iconst 1, 1) := by decide +kernel
theorem dX11_addTerm_84 : decode cX11_addTerm 84 = .ok (.invokevirtual 82, 3) := by decide +kernel
theorem dX11_addTerm_87 : decode cX11_addTerm 87 = .ok (.ifCond .ne 34, 3) := by decide +kernel
theorem dX11_addTerm_90 : decode cX11_addTerm 90 = .ok (.aload_n 0, 1) := by decide +kernel
theorem dX11_addTerm_91 : decode cX11_addTerm 91 = .ok (.iload_n 3, 1) := by decide +kernel
theorem dX11_addTerm_92 : decode cX11_addTerm 92 = .ok (.iconst 2, 1) := by decide +kernel
theorem dX11_addTerm_93 : decode cX11_addTerm 93 = .ok (.invokevirtual 82, 3) := by decide +kernel
theorem dX11_addTerm_96 : decode cX11_addTerm 96 = .ok (.ifCond .ne 25, 3) := by decide +kernel
theorem dX11_addTerm_99 : decode cX11_addTerm 99 = .ok (.aload_n 0, 1) := by decide +kernel
theorem dX11_addTerm_100 : decode cX11_addTerm 100 = .ok (.aload_n 0, 1) := by decide +kernel
theorem dX11_addTerm_101 : decode cX11_addTerm 101 = .ok (.getfield 97, 3) := by decide +kernel
theorem dX11_addTerm_104 : decode cX11_addTerm 104 = .ok (.bipush 20, 2) := by decide +kernel
theorem dX11_addTerm_106 : decode cX11_addTerm 106 = .ok (.if_icmp .ne 7, 3) := by decide +kernel
theorem dX11_addTerm_109 : decode cX11_addTerm 109 = .ok (.iconst 1, 1) := by decide +kernel
theorem dX11_addTerm_110 : decode cX11_addTerm 110 = .ok (.goto 4, 3) := by decide +kernel
theorem dX11_addTerm_113 : decode cX11_addTerm 113 = .ok (.iconst 0, 1) := by decide +kernel
theorem dX11_addTerm_114 : decode cX11_addTerm 114 = .ok (.iconst 3, 1) := by decide +kernel
theorem dX11_addTerm_115 : decode cX11_addTerm 115 = .ok (.invokevirtual 82, 3) := by decide +kernel
theorem dX11_addTerm_118 : decode cX11_addTerm 118 = .ok (.ifCond .eq 5, 3) := by decide +kernel
theorem dX11_addTerm_121 : decode cX11_addTerm 121 = .ok (.iconst 0, 1) := by decide +kernel
theorem dX11_addTerm_122 : decode cX11_addTerm 122 = .ok (.ireturn, 1) := by decide +kernel
theorem dX11_addTerm_123 : decode cX11_addTerm 123 = .ok (.aload_n 0, 1) := by decide +kernel
theorem dX11_addTerm_124 : decode cX11_addTerm 124 = .ok (.getfield 20, 3) := by decide +kernel
theorem dX11_addTerm_127 : decode cX11_addTerm 127 = .ok (.aload_n 0, 1) := by decide +kernel
theorem dX11_addTerm_128 : decode cX11_addTerm 128 = .ok (.getfield 97, 3) := by decide +kernel
theorem dX11_addTerm_131 : decode cX11_addTerm 131 = .ok (.iload_n 1, 1) := by decide +kernel
theorem dX11_addTerm_132 : decode cX11_addTerm 132 = .ok (.iastore, 1) := by decide +kernel
theorem dX11_addTerm_133 : decode cX11_addTerm 133 = .ok (.aload_n 0, 1) := by decide +kernel
theorem dX11_addTerm_134 : decode cX11_addTerm 134 = .ok (.getfield 23, 3) := by decide +kernel
theorem dX11_addTerm_137 : decode cX11_addTerm 137 = .ok (.aload_n 0, 1) := by decide +kernel
theorem dX11_addTerm_138 : decode cX11_addTerm 138 = .ok (.getfield 97, 3) := by decide +kernel
theorem dX11_addTerm_141 : decode cX11_addTerm 141 = .ok (.iload_n 2, 1) := by decide +kernel
theorem dX11_addTerm_142 : decode cX11_addTerm 142 = .ok (.iastore, 1) := by decide +kernel
theorem dX11_addTerm_143 : decode cX11_addTerm 143 = .ok (.aload_n 0, 1) := by decide +kernel
theorem dX11_addTerm_144 : decode cX11_addTerm 144 = .ok (.dup, 1) := by decide +kernel
theorem dX11_addTerm_145 : decode cX11_addTerm 145 = .ok (.getfield 97, 3) := by decide +kernel
theorem dX11_addTerm_148 : decode cX11_addTerm 148 = .ok (.iconst 1, 1) := by decide +kernel
theorem dX11_addTerm_149 : decode cX11_addTerm 149 = .ok (.iadd, 1) := by decide +kernel
theorem dX11_addTerm_150 : decode cX11_addTerm 150 = .ok (.putfield 97, 3) := by decide +kernel
theorem dX11_addTerm_153 : decode cX11_addTerm 153 = .ok (.aload_n 0, 1) := by decide +kernel
theorem dX11_addTerm_154 : decode cX11_addTerm 154 = .ok (.getfield 97, 3) := by decide +kernel
theorem dX11_addTerm_157 : decode cX11_addTerm 157 = .ok (.ireturn, 1) := by decide +kernel
theorem dX11_takeSource_0 : decode cX11_takeSource 0 = .ok (.aload_n 0, 1) := by decide +kernel
theorem dX11_takeSource_1 : decode cX11_takeSource 1 = .ok (.iconst 0, 1) := by decide +kernel
theorem dX11_takeSource_2 : decode cX11_takeSource 2 = .ok (.putfield 78, 3) := by decide +kernel
theorem dX11_takeSource_5 : decode cX11_takeSource 5 = .ok (.aload_n 0, 1) := by decide +kernel
theorem dX11_takeSource_6 : decode cX11_takeSource 6 = .ok (.aload_n 0, 1) := by decide +kernel
theorem dX11_takeSource_7 : decode cX11_takeSource 7 = .ok (.getfield 86, 3) := by decide +kernel
theorem dX11_takeSource_10 : decode cX11_takeSource 10 = .ok (.ifCond .ne 7, 3) := by decide +kernel
theorem dX11_takeSource_13 : decode cX11_takeSource 13 = .ok (.iconst 1, 1) := by decide +kernel
theorem dX11_takeSource_14 : decode cX11_takeSource 14 = .ok (.goto 4, 3) := by decide +kernel
theorem dX11_takeSource_17 : decode cX11_takeSource 17 = .ok (.iconst 0, 1) := by decide +kernel
theorem dX11_takeSource_18 : decode cX11_takeSource 18 = .ok (.iconst 1, 1) := by decide +kernel
theorem dX11_takeSource_19 : decode cX11_takeSource 19 = .ok (.invokevirtual 82, 3) := by decide +kernel
theorem dX11_takeSource_22 : decode cX11_takeSource 22 = .ok (.ifCond .eq 5, 3) := by decide +kernel
theorem dX11_takeSource_25 : decode cX11_takeSource 25 = .ok (.iconst 0, 1) := by decide +kernel
theorem dX11_takeSource_26 : decode cX11_takeSource 26 = .ok (.ireturn, 1) := by decide +kernel
theorem dX11_takeSource_27 : decode cX11_takeSource 27 = .ok (.iconst 0, 1) := by decide +kernel
theorem dX11_takeSource_28 : decode cX11_takeSource 28 = .ok (.istore_n 1, 1) := by decide +kernel
theorem dX11_takeSource_29 : decode cX11_takeSource 29 = .ok (.iload_n 1, 1) := by decide +kernel
theorem dX11_takeSource_30 : decode cX11_takeSource 30 = .ok (.aload_n 0, 1) := by decide +kernel
theorem dX11_takeSource_31 : decode cX11_takeSource 31 = .ok (.getfield 86, 3) := by decide +kernel
theorem dX11_takeSource_34 : decode cX11_takeSource 34 = .ok (.if_icmp .ge 21, 3) := by decide +kernel
theorem dX11_takeSource_37 : decode cX11_takeSource 37 = .ok (.aload_n 0, 1) := by decide +kernel
theorem dX11_takeSource_38 : decode cX11_takeSource 38 = .ok (.getfield 26, 3) := by decide +kernel
theorem dX11_takeSource_41 : decode cX11_takeSource 41 = .ok (.iload_n 1, 1) := by decide +kernel
theorem dX11_takeSource_42 : decode cX11_takeSource 42 = .ok (.aload_n 0, 1) := by decide +kernel
theorem dX11_takeSource_43 : decode cX11_takeSource 43 = .ok (.getfield 7, 3) := by decide +kernel
theorem dX11_takeSource_46 : decode cX11_takeSource 46 = .ok (.iload_n 1, 1) := by decide +kernel
theorem dX11_takeSource_47 : decode cX11_takeSource 47 = .ok (.iaload, 1) := by decide +kernel
theorem dX11_takeSource_48 : decode cX11_takeSource 48 = .ok (.iastore, 1) := by decide +kernel
theorem dX11_takeSource_49 : decode cX11_takeSource 49 = .ok (.iinc 1 1, 3) := by decide +kernel
theorem dX11_takeSource_52 : decode cX11_takeSource 52 = .ok (.goto (-23), 3) := by decide +kernel
theorem dX11_takeSource_55 : decode cX11_takeSource 55 = .ok (.aload_n 0, 1) := by decide +kernel
theorem dX11_takeSource_56 : decode cX11_takeSource 56 = .ok (.aload_n 0, 1) := by decide +kernel
theorem dX11_takeSource_57 : decode cX11_takeSource 57 = .ok (.getfield 86, 3) := by decide +kernel
theorem dX11_takeSource_60 : decode cX11_takeSource 60 = .ok (.putfield 100, 3) := by decide +kernel
theorem dX11_takeSource_63 : decode cX11_takeSource 63 = .ok (.aload_n 0, 1) := by decide +kernel
theorem dX11_takeSource_64 : decode cX11_takeSource 64 = .ok (.iconst 0, 1) := by decide +kernel
theorem dX11_takeSource_65 : decode cX11_takeSource 65 = .ok (.putfield 86, 3) := by decide +kernel
theorem dX11_takeSource_68 : decode cX11_takeSource 68 = .ok (.aload_n 0, 1) := by decide +kernel
theorem dX11_takeSource_69 : decode cX11_takeSource 69 = .ok (.getfield 100, 3) := by decide +kernel
theorem dX11_takeSource_72 : decode cX11_takeSource 72 = .ok (.ireturn, 1) := by decide +kernel
theorem dX11_takeTarget_0 : decode cX11_takeTarget 0 = .ok (.iconst 0, 1) := by decide +kernel
theorem dX11_takeTarget_1 : decode cX11_takeTarget 1 = .ok (.istore_n 2, 1) := by decide +kernel
theorem dX11_takeTarget_2 : decode cX11_takeTarget 2 = .ok (.iload_n 2, 1) := by decide +kernel
theorem dX11_takeTarget_3 : decode cX11_takeTarget 3 = .ok (.aload_n 0, 1) := by decide +kernel
theorem dX11_takeTarget_4 : decode cX11_takeTarget 4 = .ok (.getfield 86, 3) := by decide +kernel
theorem dX11_takeTarget_7 : decode cX11_takeTarget 7 = .ok (.if_icmp .ge 26, 3) := by decide +kernel
theorem dX11_takeTarget_10 : decode cX11_takeTarget 10 = .ok (.aload_n 0, 1) := by decide +kernel
theorem dX11_takeTarget_11 : decode cX11_takeTarget 11 = .ok (.getfield 35, 3) := by decide +kernel
theorem dX11_takeTarget_14 : decode cX11_takeTarget 14 = .ok (.bipush 60, 2) := by decide +kernel
theorem dX11_takeTarget_16 : decode cX11_takeTarget 16 = .ok (.iload_n 1, 1) := by decide +kernel
theorem dX11_takeTarget_17 : decode cX11_takeTarget 17 = .ok (.imul, 1) := by decide +kernel
theorem dX11_takeTarget_18 : decode cX11_takeTarget 18 = .ok (.iload_n 2, 1) := by decide +kernel
theorem dX11_takeTarget_19 : decode cX11_takeTarget 19 = .ok (.iadd, 1) := by decide +kernel
theorem dX11_takeTarget_20 : decode cX11_takeTarget 20 = .ok (.aload_n 0, 1) := by decide +kernel
theorem dX11_takeTarget_21 : decode cX11_takeTarget 21 = .ok (.getfield 7, 3) := by decide +kernel
theorem dX11_takeTarget_24 : decode cX11_takeTarget 24 = .ok (.iload_n 2, 1) := by decide +kernel
theorem dX11_takeTarget_25 : decode cX11_takeTarget 25 = .ok (.iaload, 1) := by decide +kernel
theorem dX11_takeTarget_26 : decode cX11_takeTarget 26 = .ok (.iastore, 1) := by decide +kernel
theorem dX11_takeTarget_27 : decode cX11_takeTarget 27 = .ok (.iinc 2 1, 3) := by decide +kernel
theorem dX11_takeTarget_30 : decode cX11_takeTarget 30 = .ok (.goto (-28), 3) := by decide +kernel
theorem dX11_takeTarget_33 : decode cX11_takeTarget 33 = .ok (.aload_n 0, 1) := by decide +kernel
theorem dX11_takeTarget_34 : decode cX11_takeTarget 34 = .ok (.getfield 38, 3) := by decide +kernel
theorem dX11_takeTarget_37 : decode cX11_takeTarget 37 = .ok (.iload_n 1, 1) := by decide +kernel
theorem dX11_takeTarget_38 : decode cX11_takeTarget 38 = .ok (.aload_n 0, 1) := by decide +kernel
theorem dX11_takeTarget_39 : decode cX11_takeTarget 39 = .ok (.getfield 86, 3) := by decide +kernel
theorem dX11_takeTarget_42 : decode cX11_takeTarget 42 = .ok (.iastore, 1) := by decide +kernel
theorem dX11_takeTarget_43 : decode cX11_takeTarget 43 = .ok (.aload_n 0, 1) := by decide +kernel
theorem dX11_takeTarget_44 : decode cX11_takeTarget 44 = .ok (.iconst 0, 1) := by decide +kernel
theorem dX11_takeTarget_45 : decode cX11_takeTarget 45 = .ok (.putfield 86, 3) := by decide +kernel
theorem dX11_takeTarget_48 : decode cX11_takeTarget 48 = .ok (.return_, 1) := by decide +kernel
theorem dX11_addUnit_0 : decode cX11_addUnit 0 = .ok (.aload_n 0, 1) := by decide +kernel
theorem dX11_addUnit_1 : decode cX11_addUnit 1 = .ok (.iconst 0, 1) := by decide +kernel
theorem dX11_addUnit_2 : decode cX11_addUnit 2 = .ok (.putfield 78, 3) := by decide +kernel
theorem dX11_addUnit_5 : decode cX11_addUnit 5 = .ok (.aload_n 0, 1) := by decide +kernel
theorem dX11_addUnit_6 : decode cX11_addUnit 6 = .ok (.aload_n 0, 1) := by decide +kernel
theorem dX11_addUnit_7 : decode cX11_addUnit 7 = .ok (.getfield 100, 3) := by decide +kernel
theorem dX11_addUnit_10 : decode cX11_addUnit 10 = .ok (.ifCond .ne 7, 3) := by decide +kernel
theorem dX11_addUnit_13 : decode cX11_addUnit 13 = .ok (.iconst 1, 1) := by decide +kernel
theorem dX11_addUnit_14 : decode cX11_addUnit 14 = .ok (.goto 4, 3) := by decide +kernel
theorem dX11_addUnit_17 : decode cX11_addUnit 17 = .ok (.iconst 0, 1) := by decide +kernel
theorem dX11_addUnit_18 : decode cX11_addUnit 18 = .ok (.iconst 1, 1) := by decide +kernel
theorem dX11_addUnit_19 : decode cX11_addUnit 19 = .ok (.invokevirtual 82, 3) := by decide +kernel
theorem dX11_addUnit_22 : decode cX11_addUnit 22 = .ok (.ifCond .ne 32, 3) := by decide +kernel
theorem dX11_addUnit_25 : decode cX11_addUnit 25 = .ok (.aload_n 0, 1) := by decide +kernel
theorem dX11_addUnit_26 : decode cX11_addUnit 26 = .ok (.aload_n 0, 1) := by decide +kernel
theorem dX11_addUnit_27 : decode cX11_addUnit 27 = .ok (.getfield 86, 3) := by decide +kernel
theorem dX11_addUnit_30 : decode cX11_addUnit 30 = .ok (.ifCond .eq 12, 3) := by decide +kernel
theorem dX11_addUnit_33 : decode cX11_addUnit 33 = .ok (.aload_n 0, 1) := by decide +kernel
theorem dX11_addUnit_34 : decode cX11_addUnit 34 = .ok (.getfield 103, 3) := by decide +kernel
theorem dX11_addUnit_37 : decode cX11_addUnit 37 = .ok (.bipush 40, 2) := by decide +kernel
theorem dX11_addUnit_39 : decode cX11_addUnit 39 = .ok (.if_icmp .ne 7, 3) := by decide +kernel
theorem dX11_addUnit_42 : decode cX11_addUnit 42 = .ok (.iconst 1, 1) := by decide +kernel
theorem dX11_addUnit_43 : decode cX11_addUnit 43 = .ok (.goto 4, 3) := by decide +kernel
theorem dX11_addUnit_46 : decode cX11_addUnit 46 = .ok (.iconst 0, 1) := by decide +kernel
theorem dX11_addUnit_47 : decode cX11_addUnit 47 = .ok (.iconst 2, 1) := by decide +kernel
theorem dX11_addUnit_48 : decode cX11_addUnit 48 = .ok (.invokevirtual 82, 3) := by decide +kernel
theorem dX11_addUnit_51 : decode cX11_addUnit 51 = .ok (.ifCond .eq 5, 3) := by decide +kernel
theorem dX11_addUnit_54 : decode cX11_addUnit 54 = .ok (.iconst 0, 1) := by decide +kernel
theorem dX11_addUnit_55 : decode cX11_addUnit 55 = .ok (.ireturn, 1) := by decide +kernel
theorem dX11_addUnit_56 : decode cX11_addUnit 56 = .ok (.iconst 0, 1) := by decide +kernel
theorem dX11_addUnit_57 : decode cX11_addUnit 57 = .ok (.istore_n 1, 1) := by decide +kernel
theorem dX11_addUnit_58 : decode cX11_addUnit 58 = .ok (.iload_n 1, 1) := by decide +kernel
theorem dX11_addUnit_59 : decode cX11_addUnit 59 = .ok (.aload_n 0, 1) := by decide +kernel
theorem dX11_addUnit_60 : decode cX11_addUnit 60 = .ok (.getfield 100, 3) := by decide +kernel
theorem dX11_addUnit_63 : decode cX11_addUnit 63 = .ok (.if_icmp .ge 29, 3) := by decide +kernel
theorem dX11_addUnit_66 : decode cX11_addUnit 66 = .ok (.aload_n 0, 1) := by decide +kernel
theorem dX11_addUnit_67 : decode cX11_addUnit 67 = .ok (.getfield 29, 3) := by decide +kernel
theorem dX11_addUnit_70 : decode cX11_addUnit 70 = .ok (.bipush 60, 2) := by decide +kernel
theorem dX11_addUnit_72 : decode cX11_addUnit 72 = .ok (.aload_n 0, 1) := by decide +kernel
theorem dX11_addUnit_73 : decode cX11_addUnit 73 = .ok (.getfield 103, 3) := by decide +kernel
theorem dX11_addUnit_76 : decode cX11_addUnit 76 = .ok (.imul, 1) := by decide +kernel
theorem dX11_addUnit_77 : decode cX11_addUnit 77 = .ok (.iload_n 1, 1) := by decide +kernel
theorem dX11_addUnit_78 : decode cX11_addUnit 78 = .ok (.iadd, 1) := by decide +kernel
theorem dX11_addUnit_79 : decode cX11_addUnit 79 = .ok (.aload_n 0, 1) := by decide +kernel
theorem dX11_addUnit_80 : decode cX11_addUnit 80 = .ok (.getfield 26, 3) := by decide +kernel
theorem dX11_addUnit_83 : decode cX11_addUnit 83 = .ok (.iload_n 1, 1) := by decide +kernel
theorem dX11_addUnit_84 : decode cX11_addUnit 84 = .ok (.iaload, 1) := by decide +kernel
theorem dX11_addUnit_85 : decode cX11_addUnit 85 = .ok (.iastore, 1) := by decide +kernel
theorem dX11_addUnit_86 : decode cX11_addUnit 86 = .ok (.iinc 1 1, 3) := by decide +kernel
theorem dX11_addUnit_89 : decode cX11_addUnit 89 = .ok (.goto (-31), 3) := by decide +kernel
theorem dX11_addUnit_92 : decode cX11_addUnit 92 = .ok (.aload_n 0, 1) := by decide +kernel
theorem dX11_addUnit_93 : decode cX11_addUnit 93 = .ok (.getfield 32, 3) := by decide +kernel
theorem dX11_addUnit_96 : decode cX11_addUnit 96 = .ok (.aload_n 0, 1) := by decide +kernel
theorem dX11_addUnit_97 : decode cX11_addUnit 97 = .ok (.getfield 103, 3) := by decide +kernel
theorem dX11_addUnit_100 : decode cX11_addUnit 100 = .ok (.aload_n 0, 1) := by decide +kernel
theorem dX11_addUnit_101 : decode cX11_addUnit 101 = .ok (.getfield 100, 3) := by decide +kernel
theorem dX11_addUnit_104 : decode cX11_addUnit 104 = .ok (.iastore, 1) := by decide +kernel
theorem dX11_addUnit_105 : decode cX11_addUnit 105 = .ok (.aload_n 0, 1) := by decide +kernel
theorem dX11_addUnit_106 : decode cX11_addUnit 106 = .ok (.iconst 0, 1) := by decide +kernel
theorem dX11_addUnit_107 : decode cX11_addUnit 107 = .ok (.putfield 100, 3) := by decide +kernel
theorem dX11_addUnit_110 : decode cX11_addUnit 110 = .ok (.aload_n 0, 1) := by decide +kernel
theorem dX11_addUnit_111 : decode cX11_addUnit 111 = .ok (.aload_n 0, 1) := by decide +kernel
theorem dX11_addUnit_112 : decode cX11_addUnit 112 = .ok (.getfield 103, 3) := by decide +kernel
theorem dX11_addUnit_115 : decode cX11_addUnit 115 = .ok (.invokevirtual 106, 3) := by decide +kernel
theorem dX11_addUnit_118 : decode cX11_addUnit 118 = .ok (.aload_n 0, 1) := by decide +kernel
theorem dX11_addUnit_119 : decode cX11_addUnit 119 = .ok (.getfield 41, 3) := by decide +kernel
theorem dX11_addUnit_122 : decode cX11_addUnit 122 = .ok (.aload_n 0, 1) := by decide +kernel
theorem dX11_addUnit_123 : decode cX11_addUnit 123 = .ok (.getfield 103, 3) := by decide +kernel
theorem dX11_addUnit_126 : decode cX11_addUnit 126 = .ok (.iconst 1, 1) := by decide +kernel
theorem dX11_addUnit_127 : decode cX11_addUnit 127 = .ok (.bastore, 1) := by decide +kernel
theorem dX11_addUnit_128 : decode cX11_addUnit 128 = .ok (.aload_n 0, 1) := by decide +kernel
theorem dX11_addUnit_129 : decode cX11_addUnit 129 = .ok (.dup, 1) := by decide +kernel
theorem dX11_addUnit_130 : decode cX11_addUnit 130 = .ok (.getfield 103, 3) := by decide +kernel
theorem dX11_addUnit_133 : decode cX11_addUnit 133 = .ok (.iconst 1, 1) := by decide +kernel
theorem dX11_addUnit_134 : decode cX11_addUnit 134 = .ok (.iadd, 1) := by decide +kernel
theorem dX11_addUnit_135 : decode cX11_addUnit 135 = .ok (.putfield 103, 3) := by decide +kernel
theorem dX11_addUnit_138 : decode cX11_addUnit 138 = .ok (.aload_n 0, 1) := by decide +kernel
theorem dX11_addUnit_139 : decode cX11_addUnit 139 = .ok (.getfield 103, 3) := by decide +kernel
theorem dX11_addUnit_142 : decode cX11_addUnit 142 = .ok (.iconst 1, 1) := by decide +kernel
theorem dX11_addUnit_143 : decode cX11_addUnit 143 = .ok (.isub, 1) := by decide +kernel
theorem dX11_addUnit_144 : decode cX11_addUnit 144 = .ok (.ireturn, 1) := by decide +kernel
theorem dX11_noUnit_0 : decode cX11_noUnit 0 = .ok (.iload_n 1, 1) := by decide +kernel
theorem dX11_noUnit_1 : decode cX11_noUnit 1 = .ok (.iconst 0, 1) := by decide +kernel
theorem dX11_noUnit_2 : decode cX11_noUnit 2 = .ok (.aload_n 0, 1) := by decide +kernel
theorem dX11_noUnit_3 : decode cX11_noUnit 3 = .ok (.getfield 103, 3) := by decide +kernel
theorem dX11_noUnit_6 : decode cX11_noUnit 6 = .ok (.iconst 1, 1) := by decide +kernel
theorem dX11_noUnit_7 : decode cX11_noUnit 7 = .ok (.isub, 1) := by decide +kernel
theorem dX11_noUnit_8 : decode cX11_noUnit 8 = .ok (.invokestatic 89, 3) := by decide +kernel
theorem dX11_noUnit_11 : decode cX11_noUnit 11 = .ok (.ifCond .ne 7, 3) := by decide +kernel
theorem dX11_noUnit_14 : decode cX11_noUnit 14 = .ok (.iconst 1, 1) := by decide +kernel
theorem dX11_noUnit_15 : decode cX11_noUnit 15 = .ok (.goto 4, 3) := by decide +kernel
theorem dX11_noUnit_18 : decode cX11_noUnit 18 = .ok (.iconst 0, 1) := by decide +kernel
theorem dX11_noUnit_19 : decode cX11_noUnit 19 = .ok (.ireturn, 1) := by decide +kernel
theorem dX11_correct_0 : decode cX11_correct 0 = .ok (.aload_n 0, 1) := by decide +kernel
theorem dX11_correct_1 : decode cX11_correct 1 = .ok (.iconst 0, 1) := by decide +kernel
theorem dX11_correct_2 : decode cX11_correct 2 = .ok (.putfield 78, 3) := by decide +kernel
theorem dX11_correct_5 : decode cX11_correct 5 = .ok (.aload_n 0, 1) := by decide +kernel
theorem dX11_correct_6 : decode cX11_correct 6 = .ok (.aload_n 0, 1) := by decide +kernel
theorem dX11_correct_7 : decode cX11_correct 7 = .ok (.iload_n 1, 1) := by decide +kernel
theorem dX11_correct_8 : decode cX11_correct 8 = .ok (.invokevirtual 110, 3) := by decide +kernel
theorem dX11_correct_11 : decode cX11_correct 11 = .ok (.iconst 1, 1) := by decide +kernel
theorem dX11_correct_12 : decode cX11_correct 12 = .ok (.invokevirtual 82, 3) := by decide +kernel
theorem dX11_correct_15 : decode cX11_correct 15 = .ok (.ifCond .ne 45, 3) := by decide +kernel
theorem dX11_correct_18 : decode cX11_correct 18 = .ok (.aload_n 0, 1) := by decide +kernel
theorem dX11_correct_19 : decode cX11_correct 19 = .ok (.aload_n 0, 1) := by decide +kernel
theorem dX11_correct_20 : decode cX11_correct 20 = .ok (.getfield 41, 3) := by decide +kernel
theorem dX11_correct_23 : decode cX11_correct 23 = .ok (.iload_n 1, 1) := by decide +kernel
theorem dX11_correct_24 : decode cX11_correct 24 = .ok (.baload, 1) := by decide +kernel
theorem dX11_correct_25 : decode cX11_correct 25 = .ok (.ifCond .ne 7, 3) := by decide +kernel
theorem dX11_correct_28 : decode cX11_correct 28 = .ok (.iconst 1, 1) := by decide +kernel
theorem dX11_correct_29 : decode cX11_correct 29 = .ok (.goto 4, 3) := by decide +kernel
theorem dX11_correct_32 : decode cX11_correct 32 = .ok (.iconst 0, 1) := by decide +kernel
theorem dX11_correct_33 : decode cX11_correct 33 = .ok (.iconst 2, 1) := by decide +kernel
theorem dX11_correct_34 : decode cX11_correct 34 = .ok (.invokevirtual 82, 3) := by decide +kernel
theorem dX11_correct_37 : decode cX11_correct 37 = .ok (.ifCond .ne 23, 3) := by decide +kernel
theorem dX11_correct_40 : decode cX11_correct 40 = .ok (.aload_n 0, 1) := by decide +kernel
theorem dX11_correct_41 : decode cX11_correct 41 = .ok (.aload_n 0, 1) := by decide +kernel
theorem dX11_correct_42 : decode cX11_correct 42 = .ok (.getfield 86, 3) := by decide +kernel
theorem dX11_correct_45 : decode cX11_correct 45 = .ok (.ifCond .ne 7, 3) := by decide +kernel
theorem dX11_correct_48 : decode cX11_correct 48 = .ok (.iconst 1, 1) := by decide +kernel
theorem dX11_correct_49 : decode cX11_correct 49 = .ok (.goto 4, 3) := by decide +kernel
theorem dX11_correct_52 : decode cX11_correct 52 = .ok (.iconst 0, 1) := by decide +kernel
theorem dX11_correct_53 : decode cX11_correct 53 = .ok (.iconst 3, 1) := by decide +kernel
theorem dX11_correct_54 : decode cX11_correct 54 = .ok (.invokevirtual 82, 3) := by decide +kernel
theorem dX11_correct_57 : decode cX11_correct 57 = .ok (.ifCond .eq 5, 3) := by decide +kernel
theorem dX11_correct_60 : decode cX11_correct 60 = .ok (.iconst 0, 1) := by decide +kernel
theorem dX11_correct_61 : decode cX11_correct 61 = .ok (.ireturn, 1) := by decide +kernel
theorem dX11_correct_62 : decode cX11_correct 62 = .ok (.aload_n 0, 1) := by decide +kernel
theorem dX11_correct_63 : decode cX11_correct 63 = .ok (.getfield 38, 3) := by decide +kernel
theorem dX11_correct_66 : decode cX11_correct 66 = .ok (.iload_n 1, 1) := by decide +kernel
theorem dX11_correct_67 : decode cX11_correct 67 = .ok (.iaload, 1) := by decide +kernel
theorem dX11_correct_68 : decode cX11_correct 68 = .ok (.istore_n 2, 1) := by decide +kernel
theorem dX11_correct_69 : decode cX11_correct 69 = .ok (.aload_n 0, 1) := by decide +kernel
theorem dX11_correct_70 : decode cX11_correct 70 = .ok (.iload_n 1, 1) := by decide +kernel
theorem dX11_correct_71 : decode cX11_correct 71 = .ok (.invokevirtual 106, 3) := by decide +kernel
theorem dX11_correct_74 : decode cX11_correct 74 = .ok (.iload_n 2, 1) := by decide +kernel
theorem dX11_correct_75 : decode cX11_correct 75 = .ok (.ireturn, 1) := by decide +kernel
theorem dX11_withdraw_0 : decode cX11_withdraw 0 = .ok (.aload_n 0, 1) := by decide +kernel
theorem dX11_withdraw_1 : decode cX11_withdraw 1 = .ok (.iconst 0, 1) := by decide +kernel
theorem dX11_withdraw_2 : decode cX11_withdraw 2 = .ok (.putfield 78, 3) := by decide +kernel
theorem dX11_withdraw_5 : decode cX11_withdraw 5 = .ok (.aload_n 0, 1) := by decide +kernel
theorem dX11_withdraw_6 : decode cX11_withdraw 6 = .ok (.aload_n 0, 1) := by decide +kernel
theorem dX11_withdraw_7 : decode cX11_withdraw 7 = .ok (.iload_n 1, 1) := by decide +kernel
theorem dX11_withdraw_8 : decode cX11_withdraw 8 = .ok (.invokevirtual 110, 3) := by decide +kernel
theorem dX11_withdraw_11 : decode cX11_withdraw 11 = .ok (.iconst 1, 1) := by decide +kernel
theorem dX11_withdraw_12 : decode cX11_withdraw 12 = .ok (.invokevirtual 82, 3) := by decide +kernel
theorem dX11_withdraw_15 : decode cX11_withdraw 15 = .ok (.ifCond .ne 25, 3) := by decide +kernel
theorem dX11_withdraw_18 : decode cX11_withdraw 18 = .ok (.aload_n 0, 1) := by decide +kernel
theorem dX11_withdraw_19 : decode cX11_withdraw 19 = .ok (.aload_n 0, 1) := by decide +kernel
theorem dX11_withdraw_20 : decode cX11_withdraw 20 = .ok (.getfield 41, 3) := by decide +kernel
theorem dX11_withdraw_23 : decode cX11_withdraw 23 = .ok (.iload_n 1, 1) := by decide +kernel
theorem dX11_withdraw_24 : decode cX11_withdraw 24 = .ok (.baload, 1) := by decide +kernel
theorem dX11_withdraw_25 : decode cX11_withdraw 25 = .ok (.ifCond .ne 7, 3) := by decide +kernel
theorem dX11_withdraw_28 : decode cX11_withdraw 28 = .ok (.iconst 1, 1) := by decide +kernel
theorem dX11_withdraw_29 : decode cX11_withdraw 29 = .ok (.goto 4, 3) := by decide +kernel
theorem dX11_withdraw_32 : decode cX11_withdraw 32 = .ok (.iconst 0, 1) := by decide +kernel
theorem dX11_withdraw_33 : decode cX11_withdraw 33 = .ok (.iconst 2, 1) := by decide +kernel
theorem dX11_withdraw_34 : decode cX11_withdraw 34 = .ok (.invokevirtual 82, 3) := by decide +kernel
theorem dX11_withdraw_37 : decode cX11_withdraw 37 = .ok (.ifCond .eq 5, 3) := by decide +kernel
theorem dX11_withdraw_40 : decode cX11_withdraw 40 = .ok (.iconst 0, 1) := by decide +kernel
theorem dX11_withdraw_41 : decode cX11_withdraw 41 = .ok (.ireturn, 1) := by decide +kernel
theorem dX11_withdraw_42 : decode cX11_withdraw 42 = .ok (.aload_n 0, 1) := by decide +kernel
theorem dX11_withdraw_43 : decode cX11_withdraw 43 = .ok (.getfield 41, 3) := by decide +kernel
theorem dX11_withdraw_46 : decode cX11_withdraw 46 = .ok (.iload_n 1, 1) := by decide +kernel
theorem dX11_withdraw_47 : decode cX11_withdraw 47 = .ok (.iconst 0, 1) := by decide +kernel
theorem dX11_withdraw_48 : decode cX11_withdraw 48 = .ok (.bastore, 1) := by decide +kernel
theorem dX11_withdraw_49 : decode cX11_withdraw 49 = .ok (.iconst 0, 1) := by decide +kernel
theorem dX11_withdraw_50 : decode cX11_withdraw 50 = .ok (.istore_n 2, 1) := by decide +kernel
theorem dX11_withdraw_51 : decode cX11_withdraw 51 = .ok (.iconst 0, 1) := by decide +kernel
theorem dX11_withdraw_52 : decode cX11_withdraw 52 = .ok (.istore_n 3, 1) := by decide +kernel
theorem dX11_withdraw_53 : decode cX11_withdraw 53 = .ok (.iload_n 3, 1) := by decide +kernel
theorem dX11_withdraw_54 : decode cX11_withdraw 54 = .ok (.aload_n 0, 1) := by decide +kernel
theorem dX11_withdraw_55 : decode cX11_withdraw 55 = .ok (.getfield 103, 3) := by decide +kernel
theorem dX11_withdraw_58 : decode cX11_withdraw 58 = .ok (.if_icmp .ge 26, 3) := by decide +kernel
theorem dX11_withdraw_61 : decode cX11_withdraw 61 = .ok (.iload_n 2, 1) := by decide +kernel
theorem dX11_withdraw_62 : decode cX11_withdraw 62 = .ok (.aload_n 0, 1) := by decide +kernel
theorem dX11_withdraw_63 : decode cX11_withdraw 63 = .ok (.getfield 41, 3) := by decide +kernel
theorem dX11_withdraw_66 : decode cX11_withdraw 66 = .ok (.iload_n 3, 1) := by decide +kernel
theorem dX11_withdraw_67 : decode cX11_withdraw 67 = .ok (.baload, 1) := by decide +kernel
theorem dX11_withdraw_68 : decode cX11_withdraw 68 = .ok (.ifCond .eq 7, 3) := by decide +kernel
theorem dX11_withdraw_71 : decode cX11_withdraw 71 = .ok (.iconst 1, 1) := by decide +kernel
theorem dX11_withdraw_72 : decode cX11_withdraw 72 = .ok (.goto 4, 3) := by decide +kernel
theorem dX11_withdraw_75 : decode cX11_withdraw 75 = .ok (.iconst 0, 1) := by decide +kernel
theorem dX11_withdraw_76 : decode cX11_withdraw 76 = .ok (.iadd, 1) := by decide +kernel
theorem dX11_withdraw_77 : decode cX11_withdraw 77 = .ok (.istore_n 2, 1) := by decide +kernel
theorem dX11_withdraw_78 : decode cX11_withdraw 78 = .ok (.iinc 3 1, 3) := by decide +kernel
theorem dX11_withdraw_81 : decode cX11_withdraw 81 = .ok (.goto (-28), 3) := by decide +kernel
theorem dX11_withdraw_84 : decode cX11_withdraw 84 = .ok (.iload_n 2, 1) := by decide +kernel
theorem dX11_withdraw_85 : decode cX11_withdraw 85 = .ok (.ireturn, 1) := by decide +kernel
theorem dX11_units_0 : decode cX11_units 0 = .ok (.aload_n 0, 1) := by decide +kernel
theorem dX11_units_1 : decode cX11_units 1 = .ok (.iconst 0, 1) := by decide +kernel
theorem dX11_units_2 : decode cX11_units 2 = .ok (.putfield 78, 3) := by decide +kernel
theorem dX11_units_5 : decode cX11_units 5 = .ok (.aload_n 0, 1) := by decide +kernel
theorem dX11_units_6 : decode cX11_units 6 = .ok (.getfield 103, 3) := by decide +kernel
theorem dX11_units_9 : decode cX11_units 9 = .ok (.ireturn, 1) := by decide +kernel
theorem dX11_isLive_0 : decode cX11_isLive 0 = .ok (.aload_n 0, 1) := by decide +kernel
theorem dX11_isLive_1 : decode cX11_isLive 1 = .ok (.iconst 0, 1) := by decide +kernel
theorem dX11_isLive_2 : decode cX11_isLive 2 = .ok (.putfield 78, 3) := by decide +kernel
theorem dX11_isLive_5 : decode cX11_isLive 5 = .ok (.aload_n 0, 1) := by decide +kernel
theorem dX11_isLive_6 : decode cX11_isLive 6 = .ok (.aload_n 0, 1) := by decide +kernel
theorem dX11_isLive_7 : decode cX11_isLive 7 = .ok (.iload_n 1, 1) := by decide +kernel
theorem dX11_isLive_8 : decode cX11_isLive 8 = .ok (.invokevirtual 110, 3) := by decide +kernel
theorem dX11_isLive_11 : decode cX11_isLive 11 = .ok (.iconst 1, 1) := by decide +kernel
theorem dX11_isLive_12 : decode cX11_isLive 12 = .ok (.invokevirtual 82, 3) := by decide +kernel
theorem dX11_isLive_15 : decode cX11_isLive 15 = .ok (.ifCond .ne 16, 3) := by decide +kernel
theorem dX11_isLive_18 : decode cX11_isLive 18 = .ok (.aload_n 0, 1) := by decide +kernel
theorem dX11_isLive_19 : decode cX11_isLive 19 = .ok (.getfield 41, 3) := by decide +kernel
theorem dX11_isLive_22 : decode cX11_isLive 22 = .ok (.iload_n 1, 1) := by decide +kernel
theorem dX11_isLive_23 : decode cX11_isLive 23 = .ok (.baload, 1) := by decide +kernel
theorem dX11_isLive_24 : decode cX11_isLive 24 = .ok (.ifCond .eq 7, 3) := by decide +kernel
theorem dX11_isLive_27 : decode cX11_isLive 27 = .ok (.iconst 1, 1) := by decide +kernel
theorem dX11_isLive_28 : decode cX11_isLive 28 = .ok (.goto 4, 3) := by decide +kernel
theorem dX11_isLive_31 : decode cX11_isLive 31 = .ok (.iconst 0, 1) := by decide +kernel
theorem dX11_isLive_32 : decode cX11_isLive 32 = .ok (.ireturn, 1) := by decide +kernel
theorem dX11_looksAtDraft_0 : decode cX11_looksAtDraft 0 = .ok (.iconst 0, 1) := by decide +kernel
theorem dX11_looksAtDraft_1 : decode cX11_looksAtDraft 1 = .ok (.istore_n 1, 1) := by decide +kernel
theorem dX11_looksAtDraft_2 : decode cX11_looksAtDraft 2 = .ok (.iload_n 1, 1) := by decide +kernel
theorem dX11_looksAtDraft_3 : decode cX11_looksAtDraft 3 = .ok (.aload_n 0, 1) := by decide +kernel
theorem dX11_looksAtDraft_4 : decode cX11_looksAtDraft 4 = .ok (.getfield 86, 3) := by decide +kernel
theorem dX11_looksAtDraft_7 : decode cX11_looksAtDraft 7 = .ok (.if_icmp .ge 21, 3) := by decide +kernel
theorem dX11_looksAtDraft_10 : decode cX11_looksAtDraft 10 = .ok (.aload_n 0, 1) := by decide +kernel
theorem dX11_looksAtDraft_11 : decode cX11_looksAtDraft 11 = .ok (.getfield 66, 3) := by decide +kernel
theorem dX11_looksAtDraft_14 : decode cX11_looksAtDraft 14 = .ok (.iload_n 1, 1) := by decide +kernel
theorem dX11_looksAtDraft_15 : decode cX11_looksAtDraft 15 = .ok (.aload_n 0, 1) := by decide +kernel
theorem dX11_looksAtDraft_16 : decode cX11_looksAtDraft 16 = .ok (.getfield 7, 3) := by decide +kernel
theorem dX11_looksAtDraft_19 : decode cX11_looksAtDraft 19 = .ok (.iload_n 1, 1) := by decide +kernel
theorem dX11_looksAtDraft_20 : decode cX11_looksAtDraft 20 = .ok (.iaload, 1) := by decide +kernel
theorem dX11_looksAtDraft_21 : decode cX11_looksAtDraft 21 = .ok (.iastore, 1) := by decide +kernel
theorem dX11_looksAtDraft_22 : decode cX11_looksAtDraft 22 = .ok (.iinc 1 1, 3) := by decide +kernel
theorem dX11_looksAtDraft_25 : decode cX11_looksAtDraft 25 = .ok (.goto (-23), 3) := by decide +kernel
theorem dX11_looksAtDraft_28 : decode cX11_looksAtDraft 28 = .ok (.aload_n 0, 1) := by decide +kernel
theorem dX11_looksAtDraft_29 : decode cX11_looksAtDraft 29 = .ok (.aload_n 0, 1) := by decide +kernel
theorem dX11_looksAtDraft_30 : decode cX11_looksAtDraft 30 = .ok (.getfield 86, 3) := by decide +kernel
theorem dX11_looksAtDraft_33 : decode cX11_looksAtDraft 33 = .ok (.putfield 114, 3) := by decide +kernel
theorem dX11_looksAtDraft_36 : decode cX11_looksAtDraft 36 = .ok (.return_, 1) := by decide +kernel
theorem dX11_looksAtSegment_0 : decode cX11_looksAtSegment 0 = .ok (.aload_n 0, 1) := by decide +kernel
theorem dX11_looksAtSegment_1 : decode cX11_looksAtSegment 1 = .ok (.aload_n 0, 1) := by decide +kernel
theorem dX11_looksAtSegment_2 : decode cX11_looksAtSegment 2 = .ok (.getfield 47, 3) := by decide +kernel
theorem dX11_looksAtSegment_5 : decode cX11_looksAtSegment 5 = .ok (.iload_n 1, 1) := by decide +kernel
theorem dX11_looksAtSegment_6 : decode cX11_looksAtSegment 6 = .ok (.iconst 1, 1) := by decide +kernel
theorem dX11_looksAtSegment_7 : decode cX11_looksAtSegment 7 = .ok (.iadd, 1) := by decide +kernel
theorem dX11_looksAtSegment_8 : decode cX11_looksAtSegment 8 = .ok (.iaload, 1) := by decide +kernel
theorem dX11_looksAtSegment_9 : decode cX11_looksAtSegment 9 = .ok (.aload_n 0, 1) := by decide +kernel
theorem dX11_looksAtSegment_10 : decode cX11_looksAtSegment 10 = .ok (.getfield 47, 3) := by decide +kernel
theorem dX11_looksAtSegment_13 : decode cX11_looksAtSegment 13 = .ok (.iload_n 1, 1) := by decide +kernel
theorem dX11_looksAtSegment_14 : decode cX11_looksAtSegment 14 = .ok (.iaload, 1) := by decide +kernel
theorem dX11_looksAtSegment_15 : decode cX11_looksAtSegment 15 = .ok (.isub, 1) := by decide +kernel
theorem dX11_looksAtSegment_16 : decode cX11_looksAtSegment 16 = .ok (.putfield 114, 3) := by decide +kernel
theorem dX11_looksAtSegment_19 : decode cX11_looksAtSegment 19 = .ok (.iconst 0, 1) := by decide +kernel
theorem dX11_looksAtSegment_20 : decode cX11_looksAtSegment 20 = .ok (.istore_n 2, 1) := by decide +kernel
theorem dX11_looksAtSegment_21 : decode cX11_looksAtSegment 21 = .ok (.iload_n 2, 1) := by decide +kernel
theorem dX11_looksAtSegment_22 : decode cX11_looksAtSegment 22 = .ok (.aload_n 0, 1) := by decide +kernel
theorem dX11_looksAtSegment_23 : decode cX11_looksAtSegment 23 = .ok (.getfield 114, 3) := by decide +kernel
theorem dX11_looksAtSegment_26 : decode cX11_looksAtSegment 26 = .ok (.if_icmp .ge 28, 3) := by decide +kernel
theorem dX11_looksAtSegment_29 : decode cX11_looksAtSegment 29 = .ok (.aload_n 0, 1) := by decide +kernel
theorem dX11_looksAtSegment_30 : decode cX11_looksAtSegment 30 = .ok (.getfield 66, 3) := by decide +kernel
theorem dX11_looksAtSegment_33 : decode cX11_looksAtSegment 33 = .ok (.iload_n 2, 1) := by decide +kernel
theorem dX11_looksAtSegment_34 : decode cX11_looksAtSegment 34 = .ok (.aload_n 0, 1) := by decide +kernel
theorem dX11_looksAtSegment_35 : decode cX11_looksAtSegment 35 = .ok (.getfield 44, 3) := by decide +kernel
theorem dX11_looksAtSegment_38 : decode cX11_looksAtSegment 38 = .ok (.aload_n 0, 1) := by decide +kernel
theorem dX11_looksAtSegment_39 : decode cX11_looksAtSegment 39 = .ok (.getfield 47, 3) := by decide +kernel
theorem dX11_looksAtSegment_42 : decode cX11_looksAtSegment 42 = .ok (.iload_n 1, 1) := by decide +kernel
theorem dX11_looksAtSegment_43 : decode cX11_looksAtSegment 43 = .ok (.iaload, 1) := by decide +kernel
theorem dX11_looksAtSegment_44 : decode cX11_looksAtSegment 44 = .ok (.iload_n 2, 1) := by decide +kernel
theorem dX11_looksAtSegment_45 : decode cX11_looksAtSegment 45 = .ok (.iadd, 1) := by decide +kernel
theorem dX11_looksAtSegment_46 : decode cX11_looksAtSegment 46 = .ok (.iaload, 1) := by decide +kernel
theorem dX11_looksAtSegment_47 : decode cX11_looksAtSegment 47 = .ok (.iastore, 1) := by decide +kernel
theorem dX11_looksAtSegment_48 : decode cX11_looksAtSegment 48 = .ok (.iinc 2 1, 3) := by decide +kernel
theorem dX11_looksAtSegment_51 : decode cX11_looksAtSegment 51 = .ok (.goto (-30), 3) := by decide +kernel
theorem dX11_looksAtSegment_54 : decode cX11_looksAtSegment 54 = .ok (.return_, 1) := by decide +kernel
theorem dX11_weightOf_0 : decode cX11_weightOf 0 = .ok (.aload_n 0, 1) := by decide +kernel
theorem dX11_weightOf_1 : decode cX11_weightOf 1 = .ok (.getfield 13, 3) := by decide +kernel
theorem dX11_weightOf_4 : decode cX11_weightOf 4 = .ok (.iload_n 1, 1) := by decide +kernel
theorem dX11_weightOf_5 : decode cX11_weightOf 5 = .ok (.sipush 10000, 3) := by decide +kernel
theorem dX11_weightOf_8 : decode cX11_weightOf 8 = .ok (.idiv, 1) := by decide +kernel
theorem dX11_weightOf_9 : decode cX11_weightOf 9 = .ok (.iaload, 1) := by decide +kernel
theorem dX11_weightOf_10 : decode cX11_weightOf 10 = .ok (.ireturn, 1) := by decide +kernel
theorem dX11_replaced_0 : decode cX11_replaced 0 = .ok (.aload_n 0, 1) := by decide +kernel
theorem dX11_replaced_1 : decode cX11_replaced 1 = .ok (.iload_n 1, 1) := by decide +kernel
theorem dX11_replaced_2 : decode cX11_replaced 2 = .ok (.invokevirtual 117, 3) := by decide +kernel
theorem dX11_replaced_5 : decode cX11_replaced 5 = .ok (.istore_n 3, 1) := by decide +kernel
theorem dX11_replaced_6 : decode cX11_replaced 6 = .ok (.iload_n 3, 1) := by decide +kernel
theorem dX11_replaced_7 : decode cX11_replaced 7 = .ok (.iconst 1, 1) := by decide +kernel
theorem dX11_replaced_8 : decode cX11_replaced 8 = .ok (.iadd, 1) := by decide +kernel
theorem dX11_replaced_9 : decode cX11_replaced 9 = .ok (.iconst 2, 1) := by decide +kernel
theorem dX11_replaced_10 : decode cX11_replaced 10 = .ok (.idiv, 1) := by decide +kernel
theorem dX11_replaced_11 : decode cX11_replaced 11 = .ok (.istore 4, 2) := by decide +kernel
theorem dX11_replaced_13 : decode cX11_replaced 13 = .ok (.iload_n 1, 1) := by decide +kernel
theorem dX11_replaced_14 : decode cX11_replaced 14 = .ok (.sipush 10000, 3) := by decide +kernel
theorem dX11_replaced_17 : decode cX11_replaced 17 = .ok (.idiv, 1) := by decide +kernel
theorem dX11_replaced_18 : decode cX11_replaced 18 = .ok (.iconst 1, 1) := by decide +kernel
theorem dX11_replaced_19 : decode cX11_replaced 19 = .ok (.if_icmp .eq 22, 3) := by decide +kernel
theorem dX11_replaced_22 : decode cX11_replaced 22 = .ok (.iload_n 1, 1) := by decide +kernel
theorem dX11_replaced_23 : decode cX11_replaced 23 = .ok (.sipush 10000, 3) := by decide +kernel
theorem dX11_replaced_26 : decode cX11_replaced 26 = .ok (.idiv, 1) := by decide +kernel
theorem dX11_replaced_27 : decode cX11_replaced 27 = .ok (.ifCond .ne 18, 3) := by decide +kernel
theorem dX11_replaced_30 : decode cX11_replaced 30 = .ok (.iload_n 1, 1) := by decide +kernel
theorem dX11_replaced_31 : decode cX11_replaced 31 = .ok (.bipush 10, 2) := by decide +kernel
theorem dX11_replaced_33 : decode cX11_replaced 33 = .ok (.idiv, 1) := by decide +kernel
theorem dX11_replaced_34 : decode cX11_replaced 34 = .ok (.iload_n 2, 1) := by decide +kernel
theorem dX11_replaced_35 : decode cX11_replaced 35 = .ok (.bipush 10, 2) := by decide +kernel
theorem dX11_replaced_37 : decode cX11_replaced 37 = .ok (.idiv, 1) := by decide +kernel
theorem dX11_replaced_38 : decode cX11_replaced 38 = .ok (.if_icmp .ne 7, 3) := by decide +kernel
theorem dX11_replaced_41 : decode cX11_replaced 41 = .ok (.iconst 1, 1) := by decide +kernel
theorem dX11_replaced_42 : decode cX11_replaced 42 = .ok (.goto 4, 3) := by decide +kernel
theorem dX11_replaced_45 : decode cX11_replaced 45 = .ok (.iconst 0, 1) := by decide +kernel
theorem dX11_replaced_46 : decode cX11_replaced 46 = .ok (.istore 5, 2) := by decide +kernel
theorem dX11_replaced_48 : decode cX11_replaced 48 = .ok (.iload_n 1, 1) := by decide +kernel
theorem dX11_replaced_49 : decode cX11_replaced 49 = .ok (.iload_n 2, 1) := by decide +kernel
theorem dX11_replaced_50 : decode cX11_replaced 50 = .ok (.if_icmp .ne 7, 3) := by decide +kernel
theorem dX11_replaced_53 : decode cX11_replaced 53 = .ok (.iconst 0, 1) := by decide +kernel
theorem dX11_replaced_54 : decode cX11_replaced 54 = .ok (.goto 14, 3) := by decide +kernel
theorem dX11_replaced_57 : decode cX11_replaced 57 = .ok (.iload 5, 2) := by decide +kernel
theorem dX11_replaced_59 : decode cX11_replaced 59 = .ok (.ifCond .eq 8, 3) := by decide +kernel
theorem dX11_replaced_62 : decode cX11_replaced 62 = .ok (.iload 4, 2) := by decide +kernel
theorem dX11_replaced_64 : decode cX11_replaced 64 = .ok (.goto 4, 3) := by decide +kernel
theorem dX11_replaced_67 : decode cX11_replaced 67 = .ok (.iload_n 3, 1) := by decide +kernel
theorem dX11_replaced_68 : decode cX11_replaced 68 = .ok (.ireturn, 1) := by decide +kernel
theorem dX11_least_0 : decode cX11_least 0 = .ok (.iload_n 0, 1) := by decide +kernel
theorem dX11_least_1 : decode cX11_least 1 = .ok (.iload_n 1, 1) := by decide +kernel
theorem dX11_least_2 : decode cX11_least 2 = .ok (.if_icmp .ge 7, 3) := by decide +kernel
theorem dX11_least_5 : decode cX11_least 5 = .ok (.iload_n 0, 1) := by decide +kernel
theorem dX11_least_6 : decode cX11_least 6 = .ok (.goto 4, 3) := by decide +kernel
theorem dX11_least_9 : decode cX11_least 9 = .ok (.iload_n 1, 1) := by decide +kernel
theorem dX11_least_10 : decode cX11_least 10 = .ok (.ireturn, 1) := by decide +kernel
theorem dX11_costOf_0 : decode cX11_costOf 0 = .ok (.iconst 0, 1) := by decide +kernel
theorem dX11_costOf_1 : decode cX11_costOf 1 = .ok (.istore_n 2, 1) := by decide +kernel
theorem dX11_costOf_2 : decode cX11_costOf 2 = .ok (.iload_n 2, 1) := by decide +kernel
theorem dX11_costOf_3 : decode cX11_costOf 3 = .ok (.aload_n 0, 1) := by decide +kernel
theorem dX11_costOf_4 : decode cX11_costOf 4 = .ok (.getfield 114, 3) := by decide +kernel
theorem dX11_costOf_7 : decode cX11_costOf 7 = .ok (.if_icmp .gt 220, 3) := by decide +kernel
theorem dX11_costOf_10 : decode cX11_costOf 10 = .ok (.iconst 0, 1) := by decide +kernel
theorem dX11_costOf_11 : decode cX11_costOf 11 = .ok (.istore_n 3, 1) := by decide +kernel
theorem dX11_costOf_12 : decode cX11_costOf 12 = .ok (.iload_n 3, 1) := by decide +kernel
theorem dX11_costOf_13 : decode cX11_costOf 13 = .ok (.aload_n 0, 1) := by decide +kernel
theorem dX11_costOf_14 : decode cX11_costOf 14 = .ok (.getfield 32, 3) := by decide +kernel
theorem dX11_costOf_17 : decode cX11_costOf 17 = .ok (.iload_n 1, 1) := by decide +kernel
theorem dX11_costOf_18 : decode cX11_costOf 18 = .ok (.iaload, 1) := by decide +kernel
theorem dX11_costOf_19 : decode cX11_costOf 19 = .ok (.if_icmp .gt 202, 3) := by decide +kernel
theorem dX11_costOf_22 : decode cX11_costOf 22 = .ok (.bipush 61, 2) := by decide +kernel
theorem dX11_costOf_24 : decode cX11_costOf 24 = .ok (.iload_n 2, 1) := by decide +kernel
theorem dX11_costOf_25 : decode cX11_costOf 25 = .ok (.imul, 1) := by decide +kernel
theorem dX11_costOf_26 : decode cX11_costOf 26 = .ok (.iload_n 3, 1) := by decide +kernel
theorem dX11_costOf_27 : decode cX11_costOf 27 = .ok (.iadd, 1) := by decide +kernel
theorem dX11_costOf_28 : decode cX11_costOf 28 = .ok (.istore 4, 2) := by decide +kernel
theorem dX11_costOf_30 : decode cX11_costOf 30 = .ok (.iload_n 2, 1) := by decide +kernel
theorem dX11_costOf_31 : decode cX11_costOf 31 = .ok (.ifCond .ne 7, 3) := by decide +kernel
theorem dX11_costOf_34 : decode cX11_costOf 34 = .ok (.iconst 0, 1) := by decide +kernel
theorem dX11_costOf_35 : decode cX11_costOf 35 = .ok (.goto 11, 3) := by decide +kernel
theorem dX11_costOf_38 : decode cX11_costOf 38 = .ok (.aload_n 0, 1) := by decide +kernel
theorem dX11_costOf_39 : decode cX11_costOf 39 = .ok (.getfield 66, 3) := by decide +kernel
theorem dX11_costOf_42 : decode cX11_costOf 42 = .ok (.iload_n 2, 1) := by decide +kernel
theorem dX11_costOf_43 : decode cX11_costOf 43 = .ok (.iconst 1, 1) := by decide +kernel
theorem dX11_costOf_44 : decode cX11_costOf 44 = .ok (.isub, 1) := by decide +kernel
theorem dX11_costOf_45 : decode cX11_costOf 45 = .ok (.iaload, 1) := by decide +kernel
theorem dX11_costOf_46 : decode cX11_costOf 46 = .ok (.istore 5, 2) := by decide +kernel
theorem dX11_costOf_48 : decode cX11_costOf 48 = .ok (.iload_n 3, 1) := by decide +kernel
theorem dX11_costOf_49 : decode cX11_costOf 49 = .ok (.ifCond .ne 7, 3) := by decide +kernel
theorem dX11_costOf_52 : decode cX11_costOf 52 = .ok (.iconst 0, 1) := by decide +kernel
theorem dX11_costOf_53 : decode cX11_costOf 53 = .ok (.goto 16, 3) := by decide +kernel
theorem dX11_costOf_56 : decode cX11_costOf 56 = .ok (.aload_n 0, 1) := by decide +kernel
theorem dX11_costOf_57 : decode cX11_costOf 57 = .ok (.getfield 29, 3) := by decide +kernel
theorem dX11_costOf_60 : decode cX11_costOf 60 = .ok (.bipush 60, 2) := by decide +kernel
theorem dX11_costOf_62 : decode cX11_costOf 62 = .ok (.iload_n 1, 1) := by decide +kernel
theorem dX11_costOf_63 : decode cX11_costOf 63 = .ok (.imul, 1) := by decide +kernel
theorem dX11_costOf_64 : decode cX11_costOf 64 = .ok (.iload_n 3, 1) := by decide +kernel
theorem dX11_costOf_65 : decode cX11_costOf 65 = .ok (.iadd, 1) := by decide +kernel
theorem dX11_costOf_66 : decode cX11_costOf 66 = .ok (.iconst 1, 1) := by decide +kernel
theorem dX11_costOf_67 : decode cX11_costOf 67 = .ok (.isub, 1) := by decide +kernel
theorem dX11_costOf_68 : decode cX11_costOf 68 = .ok (.iaload, 1) := by decide +kernel
theorem dX11_costOf_69 : decode cX11_costOf 69 = .ok (.istore 6, 2) := by decide +kernel
theorem dX11_costOf_71 : decode cX11_costOf 71 = .ok (.iload_n 2, 1) := by decide +kernel
theorem dX11_costOf_72 : decode cX11_costOf 72 = .ok (.ifCond .ne 11, 3) := by decide +kernel
theorem dX11_costOf_75 : decode cX11_costOf 75 = .ok (.iload_n 3, 1) := by decide +kernel
theorem dX11_costOf_76 : decode cX11_costOf 76 = .ok (.ifCond .ne 7, 3) := by decide +kernel
theorem dX11_costOf_79 : decode cX11_costOf 79 = .ok (.iconst 0, 1) := by decide +kernel
theorem dX11_costOf_80 : decode cX11_costOf 80 = .ok (.goto 5, 3) := by decide +kernel
theorem dX11_costOf_83 : decode cX11_costOf 83 = .ok (.ldc 121, 2) := by decide +kernel
theorem dX11_costOf_85 : decode cX11_costOf 85 = .ok (.istore 7, 2) := by decide +kernel
theorem dX11_costOf_87 : decode cX11_costOf 87 = .ok (.iload_n 2, 1) := by decide +kernel
theorem dX11_costOf_88 : decode cX11_costOf 88 = .ok (.ifCond .ne 8, 3) := by decide +kernel
theorem dX11_costOf_91 : decode cX11_costOf 91 = .ok (.iload 7, 2) := by decide +kernel
theorem dX11_costOf_93 : decode cX11_costOf 93 = .ok (.goto 25, 3) := by decide +kernel
theorem dX11_costOf_96 : decode cX11_costOf 96 = .ok (.iload 7, 2) := by decide +kernel
theorem dX11_costOf_98 : decode cX11_costOf 98 = .ok (.aload_n 0, 1) := by decide +kernel
theorem dX11_costOf_99 : decode cX11_costOf 99 = .ok (.getfield 69, 3) := by decide +kernel
theorem dX11_costOf_102 : decode cX11_costOf 102 = .ok (.iload 4, 2) := by decide +kernel
theorem dX11_costOf_104 : decode cX11_costOf 104 = .ok (.bipush 61, 2) := by decide +kernel
theorem dX11_costOf_106 : decode cX11_costOf 106 = .ok (.isub, 1) := by decide +kernel
theorem dX11_costOf_107 : decode cX11_costOf 107 = .ok (.iaload, 1) := by decide +kernel
theorem dX11_costOf_108 : decode cX11_costOf 108 = .ok (.aload_n 0, 1) := by decide +kernel
theorem dX11_costOf_109 : decode cX11_costOf 109 = .ok (.iload 5, 2) := by decide +kernel
theorem dX11_costOf_111 : decode cX11_costOf 111 = .ok (.invokevirtual 117, 3) := by decide +kernel
theorem dX11_costOf_114 : decode cX11_costOf 114 = .ok (.iadd, 1) := by decide +kernel
theorem dX11_costOf_115 : decode cX11_costOf 115 = .ok (.invokestatic 122, 3) := by decide +kernel
theorem dX11_costOf_118 : decode cX11_costOf 118 = .ok (.istore 7, 2) := by decide +kernel
theorem dX11_costOf_120 : decode cX11_costOf 120 = .ok (.iload_n 3, 1) := by decide +kernel
theorem dX11_costOf_121 : decode cX11_costOf 121 = .ok (.ifCond .ne 8, 3) := by decide +kernel
theorem dX11_costOf_124 : decode cX11_costOf 124 = .ok (.iload 7, 2) := by decide +kernel
theorem dX11_costOf_126 : decode cX11_costOf 126 = .ok (.goto 24, 3) := by decide +kernel
theorem dX11_costOf_129 : decode cX11_costOf 129 = .ok (.iload 7, 2) := by decide +kernel
theorem dX11_costOf_131 : decode cX11_costOf 131 = .ok (.aload_n 0, 1) := by decide +kernel
theorem dX11_costOf_132 : decode cX11_costOf 132 = .ok (.getfield 69, 3) := by decide +kernel
theorem dX11_costOf_135 : decode cX11_costOf 135 = .ok (.iload 4, 2) := by decide +kernel
theorem dX11_costOf_137 : decode cX11_costOf 137 = .ok (.iconst 1, 1) := by decide +kernel
theorem dX11_costOf_138 : decode cX11_costOf 138 = .ok (.isub, 1) := by decide +kernel
theorem dX11_costOf_139 : decode cX11_costOf 139 = .ok (.iaload, 1) := by decide +kernel
theorem dX11_costOf_140 : decode cX11_costOf 140 = .ok (.aload_n 0, 1) := by decide +kernel
theorem dX11_costOf_141 : decode cX11_costOf 141 = .ok (.iload 6, 2) := by decide +kernel
theorem dX11_costOf_143 : decode cX11_costOf 143 = .ok (.invokevirtual 117, 3) := by decide +kernel
theorem dX11_costOf_146 : decode cX11_costOf 146 = .ok (.iadd, 1) := by decide +kernel
theorem dX11_costOf_147 : decode cX11_costOf 147 = .ok (.invokestatic 122, 3) := by decide +kernel
theorem dX11_costOf_150 : decode cX11_costOf 150 = .ok (.istore 7, 2) := by decide +kernel
theorem dX11_costOf_152 : decode cX11_costOf 152 = .ok (.iload_n 2, 1) := by decide +kernel
theorem dX11_costOf_153 : decode cX11_costOf 153 = .ok (.ifCond .eq 22, 3) := by decide +kernel
theorem dX11_costOf_156 : decode cX11_costOf 156 = .ok (.iload_n 3, 1) := by decide +kernel
theorem dX11_costOf_157 : decode cX11_costOf 157 = .ok (.ifCond .eq 18, 3) := by decide +kernel
theorem dX11_costOf_160 : decode cX11_costOf 160 = .ok (.iload 5, 2) := by decide +kernel
theorem dX11_costOf_162 : decode cX11_costOf 162 = .ok (.sipush 10000, 3) := by decide +kernel
theorem dX11_costOf_165 : decode cX11_costOf 165 = .ok (.idiv, 1) := by decide +kernel
theorem dX11_costOf_166 : decode cX11_costOf 166 = .ok (.iload 6, 2) := by decide +kernel
theorem dX11_costOf_168 : decode cX11_costOf 168 = .ok (.sipush 10000, 3) := by decide +kernel
theorem dX11_costOf_171 : decode cX11_costOf 171 = .ok (.idiv, 1) := by decide +kernel
theorem dX11_costOf_172 : decode cX11_costOf 172 = .ok (.if_icmp .eq 8, 3) := by decide +kernel
theorem dX11_costOf_175 : decode cX11_costOf 175 = .ok (.iload 7, 2) := by decide +kernel
theorem dX11_costOf_177 : decode cX11_costOf 177 = .ok (.goto 27, 3) := by decide +kernel
theorem dX11_costOf_180 : decode cX11_costOf 180 = .ok (.iload 7, 2) := by decide +kernel
theorem dX11_costOf_182 : decode cX11_costOf 182 = .ok (.aload_n 0, 1) := by decide +kernel
theorem dX11_costOf_183 : decode cX11_costOf 183 = .ok (.getfield 69, 3) := by decide +kernel
theorem dX11_costOf_186 : decode cX11_costOf 186 = .ok (.iload 4, 2) := by decide +kernel
theorem dX11_costOf_188 : decode cX11_costOf 188 = .ok (.bipush 62, 2) := by decide +kernel
theorem dX11_costOf_190 : decode cX11_costOf 190 = .ok (.isub, 1) := by decide +kernel
theorem dX11_costOf_191 : decode cX11_costOf 191 = .ok (.iaload, 1) := by decide +kernel
theorem dX11_costOf_192 : decode cX11_costOf 192 = .ok (.aload_n 0, 1) := by decide +kernel
theorem dX11_costOf_193 : decode cX11_costOf 193 = .ok (.iload 5, 2) := by decide +kernel
theorem dX11_costOf_195 : decode cX11_costOf 195 = .ok (.iload 6, 2) := by decide +kernel
theorem dX11_costOf_197 : decode cX11_costOf 197 = .ok (.invokevirtual 126, 3) := by decide +kernel
theorem dX11_costOf_200 : decode cX11_costOf 200 = .ok (.iadd, 1) := by decide +kernel
theorem dX11_costOf_201 : decode cX11_costOf 201 = .ok (.invokestatic 122, 3) := by decide +kernel
theorem dX11_costOf_204 : decode cX11_costOf 204 = .ok (.istore 7, 2) := by decide +kernel
theorem dX11_costOf_206 : decode cX11_costOf 206 = .ok (.aload_n 0, 1) := by decide +kernel
theorem dX11_costOf_207 : decode cX11_costOf 207 = .ok (.getfield 69, 3) := by decide +kernel
theorem dX11_costOf_210 : decode cX11_costOf 210 = .ok (.iload 4, 2) := by decide +kernel
theorem dX11_costOf_212 : decode cX11_costOf 212 = .ok (.iload 7, 2) := by decide +kernel
theorem dX11_costOf_214 : decode cX11_costOf 214 = .ok (.iastore, 1) := by decide +kernel
theorem dX11_costOf_215 : decode cX11_costOf 215 = .ok (.iinc 3 1, 3) := by decide +kernel
theorem dX11_costOf_218 : decode cX11_costOf 218 = .ok (.goto (-206), 3) := by decide +kernel
theorem dX11_costOf_221 : decode cX11_costOf 221 = .ok (.iinc 2 1, 3) := by decide +kernel
theorem dX11_costOf_224 : decode cX11_costOf 224 = .ok (.goto (-222), 3) := by decide +kernel
theorem dX11_costOf_227 : decode cX11_costOf 227 = .ok (.aload_n 0, 1) := by decide +kernel
theorem dX11_costOf_228 : decode cX11_costOf 228 = .ok (.getfield 69, 3) := by decide +kernel
theorem dX11_costOf_231 : decode cX11_costOf 231 = .ok (.bipush 61, 2) := by decide +kernel
theorem dX11_costOf_233 : decode cX11_costOf 233 = .ok (.aload_n 0, 1) := by decide +kernel
theorem dX11_costOf_234 : decode cX11_costOf 234 = .ok (.getfield 114, 3) := by decide +kernel
theorem dX11_costOf_237 : decode cX11_costOf 237 = .ok (.imul, 1) := by decide +kernel
theorem dX11_costOf_238 : decode cX11_costOf 238 = .ok (.aload_n 0, 1) := by decide +kernel
theorem dX11_costOf_239 : decode cX11_costOf 239 = .ok (.getfield 32, 3) := by decide +kernel
theorem dX11_costOf_242 : decode cX11_costOf 242 = .ok (.iload_n 1, 1) := by decide +kernel
theorem dX11_costOf_243 : decode cX11_costOf 243 = .ok (.iaload, 1) := by decide +kernel
theorem dX11_costOf_244 : decode cX11_costOf 244 = .ok (.iadd, 1) := by decide +kernel
theorem dX11_costOf_245 : decode cX11_costOf 245 = .ok (.iaload, 1) := by decide +kernel
theorem dX11_costOf_246 : decode cX11_costOf 246 = .ok (.ireturn, 1) := by decide +kernel
theorem dX11_likenessOf_0 : decode cX11_likenessOf 0 = .ok (.iconst 0, 1) := by decide +kernel
theorem dX11_likenessOf_1 : decode cX11_likenessOf 1 = .ok (.istore_n 2, 1) := by decide +kernel
theorem dX11_likenessOf_2 : decode cX11_likenessOf 2 = .ok (.iconst 0, 1) := by decide +kernel
theorem dX11_likenessOf_3 : decode cX11_likenessOf 3 = .ok (.istore_n 3, 1) := by decide +kernel
theorem dX11_likenessOf_4 : decode cX11_likenessOf 4 = .ok (.iconst 0, 1) := by decide +kernel
theorem dX11_likenessOf_5 : decode cX11_likenessOf 5 = .ok (.istore 4, 2) := by decide +kernel
theorem dX11_likenessOf_7 : decode cX11_likenessOf 7 = .ok (.iload 4, 2) := by decide +kernel
theorem dX11_likenessOf_9 : decode cX11_likenessOf 9 = .ok (.aload_n 0, 1) := by decide +kernel
theorem dX11_likenessOf_10 : decode cX11_likenessOf 10 = .ok (.getfield 114, 3) := by decide +kernel
theorem dX11_likenessOf_13 : decode cX11_likenessOf 13 = .ok (.if_icmp .ge 23, 3) := by decide +kernel
theorem dX11_likenessOf_16 : decode cX11_likenessOf 16 = .ok (.iload_n 2, 1) := by decide +kernel
theorem dX11_likenessOf_17 : decode cX11_likenessOf 17 = .ok (.aload_n 0, 1) := by decide +kernel
theorem dX11_likenessOf_18 : decode cX11_likenessOf 18 = .ok (.aload_n 0, 1) := by decide +kernel
theorem dX11_likenessOf_19 : decode cX11_likenessOf 19 = .ok (.getfield 66, 3) := by decide +kernel
theorem dX11_likenessOf_22 : decode cX11_likenessOf 22 = .ok (.iload 4, 2) := by decide +kernel
theorem dX11_likenessOf_24 : decode cX11_likenessOf 24 = .ok (.iaload, 1) := by decide +kernel
theorem dX11_likenessOf_25 : decode cX11_likenessOf 25 = .ok (.invokevirtual 117, 3) := by decide +kernel
theorem dX11_likenessOf_28 : decode cX11_likenessOf 28 = .ok (.iadd, 1) := by decide +kernel
theorem dX11_likenessOf_29 : decode cX11_likenessOf 29 = .ok (.istore_n 2, 1) := by decide +kernel
theorem dX11_likenessOf_30 : decode cX11_likenessOf 30 = .ok (.iinc 4 1, 3) := by decide +kernel
theorem dX11_likenessOf_33 : decode cX11_likenessOf 33 = .ok (.goto (-26), 3) := by decide +kernel
theorem dX11_likenessOf_36 : decode cX11_likenessOf 36 = .ok (.iconst 0, 1) := by decide +kernel
theorem dX11_likenessOf_37 : decode cX11_likenessOf 37 = .ok (.istore 4, 2) := by decide +kernel
theorem dX11_likenessOf_39 : decode cX11_likenessOf 39 = .ok (.iload 4, 2) := by decide +kernel
theorem dX11_likenessOf_41 : decode cX11_likenessOf 41 = .ok (.aload_n 0, 1) := by decide +kernel
theorem dX11_likenessOf_42 : decode cX11_likenessOf 42 = .ok (.getfield 32, 3) := by decide +kernel
theorem dX11_likenessOf_45 : decode cX11_likenessOf 45 = .ok (.iload_n 1, 1) := by decide +kernel
theorem dX11_likenessOf_46 : decode cX11_likenessOf 46 = .ok (.iaload, 1) := by decide +kernel
theorem dX11_likenessOf_47 : decode cX11_likenessOf 47 = .ok (.if_icmp .ge 28, 3) := by decide +kernel
theorem dX11_likenessOf_50 : decode cX11_likenessOf 50 = .ok (.iload_n 3, 1) := by decide +kernel
theorem dX11_likenessOf_51 : decode cX11_likenessOf 51 = .ok (.aload_n 0, 1) := by decide +kernel
theorem dX11_likenessOf_52 : decode cX11_likenessOf 52 = .ok (.aload_n 0, 1) := by decide +kernel
theorem dX11_likenessOf_53 : decode cX11_likenessOf 53 = .ok (.getfield 29, 3) := by decide +kernel
theorem dX11_likenessOf_56 : decode cX11_likenessOf 56 = .ok (.bipush 60, 2) := by decide +kernel
theorem dX11_likenessOf_58 : decode cX11_likenessOf 58 = .ok (.iload_n 1, 1) := by decide +kernel
theorem dX11_likenessOf_59 : decode cX11_likenessOf 59 = .ok (.imul, 1) := by decide +kernel
theorem dX11_likenessOf_60 : decode cX11_likenessOf 60 = .ok (.iload 4, 2) := by decide +kernel
theorem dX11_likenessOf_62 : decode cX11_likenessOf 62 = .ok (.iadd, 1) := by decide +kernel
theorem dX11_likenessOf_63 : decode cX11_likenessOf 63 = .ok (.iaload, 1) := by decide +kernel
theorem dX11_likenessOf_64 : decode cX11_likenessOf 64 = .ok (.invokevirtual 117, 3) := by decide +kernel
theorem dX11_likenessOf_67 : decode cX11_likenessOf 67 = .ok (.iadd, 1) := by decide +kernel
theorem dX11_likenessOf_68 : decode cX11_likenessOf 68 = .ok (.istore_n 3, 1) := by decide +kernel
theorem dX11_likenessOf_69 : decode cX11_likenessOf 69 = .ok (.iinc 4 1, 3) := by decide +kernel
theorem dX11_likenessOf_72 : decode cX11_likenessOf 72 = .ok (.goto (-33), 3) := by decide +kernel
theorem dX11_likenessOf_75 : decode cX11_likenessOf 75 = .ok (.iload_n 2, 1) := by decide +kernel
theorem dX11_likenessOf_76 : decode cX11_likenessOf 76 = .ok (.iload_n 3, 1) := by decide +kernel
theorem dX11_likenessOf_77 : decode cX11_likenessOf 77 = .ok (.if_icmp .le 7, 3) := by decide +kernel
theorem dX11_likenessOf_80 : decode cX11_likenessOf 80 = .ok (.iload_n 2, 1) := by decide +kernel
theorem dX11_likenessOf_81 : decode cX11_likenessOf 81 = .ok (.goto 4, 3) := by decide +kernel
theorem dX11_likenessOf_84 : decode cX11_likenessOf 84 = .ok (.iload_n 3, 1) := by decide +kernel
theorem dX11_likenessOf_85 : decode cX11_likenessOf 85 = .ok (.istore 4, 2) := by decide +kernel
theorem dX11_likenessOf_87 : decode cX11_likenessOf 87 = .ok (.aload_n 0, 1) := by decide +kernel
theorem dX11_likenessOf_88 : decode cX11_likenessOf 88 = .ok (.iload_n 1, 1) := by decide +kernel
theorem dX11_likenessOf_89 : decode cX11_likenessOf 89 = .ok (.invokevirtual 129, 3) := by decide +kernel
theorem dX11_likenessOf_92 : decode cX11_likenessOf 92 = .ok (.istore 5, 2) := by decide +kernel
theorem dX11_likenessOf_94 : decode cX11_likenessOf 94 = .ok (.iload 5, 2) := by decide +kernel
theorem dX11_likenessOf_96 : decode cX11_likenessOf 96 = .ok (.iload 4, 2) := by decide +kernel
theorem dX11_likenessOf_98 : decode cX11_likenessOf 98 = .ok (.if_icmp .lt 7, 3) := by decide +kernel
theorem dX11_likenessOf_101 : decode cX11_likenessOf 101 = .ok (.iconst 0, 1) := by decide +kernel
theorem dX11_likenessOf_102 : decode cX11_likenessOf 102 = .ok (.goto 14, 3) := by decide +kernel
theorem dX11_likenessOf_105 : decode cX11_likenessOf 105 = .ok (.bipush 100, 2) := by decide +kernel
theorem dX11_likenessOf_107 : decode cX11_likenessOf 107 = .ok (.iload 4, 2) := by decide +kernel
theorem dX11_likenessOf_109 : decode cX11_likenessOf 109 = .ok (.iload 5, 2) := by decide +kernel
theorem dX11_likenessOf_111 : decode cX11_likenessOf 111 = .ok (.isub, 1) := by decide +kernel
theorem dX11_likenessOf_112 : decode cX11_likenessOf 112 = .ok (.imul, 1) := by decide +kernel
theorem dX11_likenessOf_113 : decode cX11_likenessOf 113 = .ok (.iload 4, 2) := by decide +kernel
theorem dX11_likenessOf_115 : decode cX11_likenessOf 115 = .ok (.idiv, 1) := by decide +kernel
theorem dX11_likenessOf_116 : decode cX11_likenessOf 116 = .ok (.ireturn, 1) := by decide +kernel
theorem dX11_missingOf_0 : decode cX11_missingOf 0 = .ok (.iconst 0, 1) := by decide +kernel
theorem dX11_missingOf_1 : decode cX11_missingOf 1 = .ok (.istore_n 2, 1) := by decide +kernel
theorem dX11_missingOf_2 : decode cX11_missingOf 2 = .ok (.iconst 0, 1) := by decide +kernel
theorem dX11_missingOf_3 : decode cX11_missingOf 3 = .ok (.istore_n 3, 1) := by decide +kernel
theorem dX11_missingOf_4 : decode cX11_missingOf 4 = .ok (.iload_n 3, 1) := by decide +kernel
theorem dX11_missingOf_5 : decode cX11_missingOf 5 = .ok (.aload_n 0, 1) := by decide +kernel
theorem dX11_missingOf_6 : decode cX11_missingOf 6 = .ok (.getfield 97, 3) := by decide +kernel
theorem dX11_missingOf_9 : decode cX11_missingOf 9 = .ok (.if_icmp .ge 132, 3) := by decide +kernel
theorem dX11_missingOf_12 : decode cX11_missingOf 12 = .ok (.iconst 0, 1) := by decide +kernel
theorem dX11_missingOf_13 : decode cX11_missingOf 13 = .ok (.istore 4, 2) := by decide +kernel
theorem dX11_missingOf_15 : decode cX11_missingOf 15 = .ok (.iconst 0, 1) := by decide +kernel
theorem dX11_missingOf_16 : decode cX11_missingOf 16 = .ok (.istore 5, 2) := by decide +kernel
theorem dX11_missingOf_18 : decode cX11_missingOf 18 = .ok (.iconst 0, 1) := by decide +kernel
theorem dX11_missingOf_19 : decode cX11_missingOf 19 = .ok (.istore 6, 2) := by decide +kernel
theorem dX11_missingOf_21 : decode cX11_missingOf 21 = .ok (.iload 6, 2) := by decide +kernel
theorem dX11_missingOf_23 : decode cX11_missingOf 23 = .ok (.aload_n 0, 1) := by decide +kernel
theorem dX11_missingOf_24 : decode cX11_missingOf 24 = .ok (.getfield 114, 3) := by decide +kernel
theorem dX11_missingOf_27 : decode cX11_missingOf 27 = .ok (.if_icmp .ge 37, 3) := by decide +kernel
theorem dX11_missingOf_30 : decode cX11_missingOf 30 = .ok (.iload 4, 2) := by decide +kernel
theorem dX11_missingOf_32 : decode cX11_missingOf 32 = .ok (.ifCond .ne 19, 3) := by decide +kernel
theorem dX11_missingOf_35 : decode cX11_missingOf 35 = .ok (.aload_n 0, 1) := by decide +kernel
theorem dX11_missingOf_36 : decode cX11_missingOf 36 = .ok (.getfield 66, 3) := by decide +kernel
theorem dX11_missingOf_39 : decode cX11_missingOf 39 = .ok (.iload 6, 2) := by decide +kernel
theorem dX11_missingOf_41 : decode cX11_missingOf 41 = .ok (.iaload, 1) := by decide +kernel
theorem dX11_missingOf_42 : decode cX11_missingOf 42 = .ok (.aload_n 0, 1) := by decide +kernel
theorem dX11_missingOf_43 : decode cX11_missingOf 43 = .ok (.getfield 20, 3) := by decide +kernel
theorem dX11_missingOf_46 : decode cX11_missingOf 46 = .ok (.iload_n 3, 1) := by decide +kernel
theorem dX11_missingOf_47 : decode cX11_missingOf 47 = .ok (.iaload, 1) := by decide +kernel
theorem dX11_missingOf_48 : decode cX11_missingOf 48 = .ok (.if_icmp .ne 7, 3) := by decide +kernel
theorem dX11_missingOf_51 : decode cX11_missingOf 51 = .ok (.iconst 1, 1) := by decide +kernel
theorem dX11_missingOf_52 : decode cX11_missingOf 52 = .ok (.goto 4, 3) := by decide +kernel
theorem dX11_missingOf_55 : decode cX11_missingOf 55 = .ok (.iconst 0, 1) := by decide +kernel
theorem dX11_missingOf_56 : decode cX11_missingOf 56 = .ok (.istore 4, 2) := by decide +kernel
theorem dX11_missingOf_58 : decode cX11_missingOf 58 = .ok (.iinc 6 1, 3) := by decide +kernel
theorem dX11_missingOf_61 : decode cX11_missingOf 61 = .ok (.goto (-40), 3) := by decide +kernel
theorem dX11_missingOf_64 : decode cX11_missingOf 64 = .ok (.iconst 0, 1) := by decide +kernel
theorem dX11_missingOf_65 : decode cX11_missingOf 65 = .ok (.istore 6, 2) := by decide +kernel
theorem dX11_missingOf_67 : decode cX11_missingOf 67 = .ok (.iload 6, 2) := by decide +kernel
theorem dX11_missingOf_69 : decode cX11_missingOf 69 = .ok (.aload_n 0, 1) := by decide +kernel
theorem dX11_missingOf_70 : decode cX11_missingOf 70 = .ok (.getfield 38, 3) := by decide +kernel
theorem dX11_missingOf_73 : decode cX11_missingOf 73 = .ok (.iload_n 1, 1) := by decide +kernel
theorem dX11_missingOf_74 : decode cX11_missingOf 74 = .ok (.iaload, 1) := by decide +kernel
theorem dX11_missingOf_75 : decode cX11_missingOf 75 = .ok (.if_icmp .ge 42, 3) := by decide +kernel
theorem dX11_missingOf_78 : decode cX11_missingOf 78 = .ok (.iload 5, 2) := by decide +kernel
theorem dX11_missingOf_80 : decode cX11_missingOf 80 = .ok (.ifCond .ne 24, 3) := by decide +kernel
theorem dX11_missingOf_83 : decode cX11_missingOf 83 = .ok (.aload_n 0, 1) := by decide +kernel
theorem dX11_missingOf_84 : decode cX11_missingOf 84 = .ok (.getfield 35, 3) := by decide +kernel
theorem dX11_missingOf_87 : decode cX11_missingOf 87 = .ok (.bipush 60, 2) := by decide +kernel
theorem dX11_missingOf_89 : decode cX11_missingOf 89 = .ok (.iload_n 1, 1) := by decide +kernel
theorem dX11_missingOf_90 : decode cX11_missingOf 90 = .ok (.imul, 1) := by decide +kernel
theorem dX11_missingOf_91 : decode cX11_missingOf 91 = .ok (.iload 6, 2) := by decide +kernel
theorem dX11_missingOf_93 : decode cX11_missingOf 93 = .ok (.iadd, 1) := by decide +kernel
theorem dX11_missingOf_94 : decode cX11_missingOf 94 = .ok (.iaload, 1) := by decide +kernel
theorem dX11_missingOf_95 : decode cX11_missingOf 95 = .ok (.aload_n 0, 1) := by decide +kernel
theorem dX11_missingOf_96 : decode cX11_missingOf 96 = .ok (.getfield 23, 3) := by decide +kernel
theorem dX11_missingOf_99 : decode cX11_missingOf 99 = .ok (.iload_n 3, 1) := by decide +kernel
theorem dX11_missingOf_100 : decode cX11_missingOf 100 = .ok (.iaload, 1) := by decide +kernel
theorem dX11_missingOf_101 : decode cX11_missingOf 101 = .ok (.if_icmp .ne 7, 3) := by decide +kernel
theorem dX11_missingOf_104 : decode cX11_missingOf 104 = .ok (.iconst 1, 1) := by decide +kernel
theorem dX11_missingOf_105 : decode cX11_missingOf 105 = .ok (.goto 4, 3) := by decide +kernel
theorem dX11_missingOf_108 : decode cX11_missingOf 108 = .ok (.iconst 0, 1) := by decide +kernel
theorem dX11_missingOf_109 : decode cX11_missingOf 109 = .ok (.istore 5, 2) := by decide +kernel
theorem dX11_missingOf_111 : decode cX11_missingOf 111 = .ok (.iinc 6 1, 3) := by decide +kernel
theorem dX11_missingOf_114 : decode cX11_missingOf 114 = .ok (.goto (-47), 3) := by decide +kernel
theorem dX11_missingOf_117 : decode cX11_missingOf 117 = .ok (.iload_n 2, 1) := by decide +kernel
theorem dX11_missingOf_118 : decode cX11_missingOf 118 = .ok (.iload 4, 2) := by decide +kernel
theorem dX11_missingOf_120 : decode cX11_missingOf 120 = .ok (.ifCond .eq 12, 3) := by decide +kernel
theorem dX11_missingOf_123 : decode cX11_missingOf 123 = .ok (.iload 5, 2) := by decide +kernel
theorem dX11_missingOf_125 : decode cX11_missingOf 125 = .ok (.ifCond .ne 7, 3) := by decide +kernel
theorem dX11_missingOf_128 : decode cX11_missingOf 128 = .ok (.iconst 1, 1) := by decide +kernel
theorem dX11_missingOf_129 : decode cX11_missingOf 129 = .ok (.goto 4, 3) := by decide +kernel
theorem dX11_missingOf_132 : decode cX11_missingOf 132 = .ok (.iconst 0, 1) := by decide +kernel
theorem dX11_missingOf_133 : decode cX11_missingOf 133 = .ok (.iadd, 1) := by decide +kernel
theorem dX11_missingOf_134 : decode cX11_missingOf 134 = .ok (.istore_n 2, 1) := by decide +kernel
theorem dX11_missingOf_135 : decode cX11_missingOf 135 = .ok (.iinc 3 1, 3) := by decide +kernel
theorem dX11_missingOf_138 : decode cX11_missingOf 138 = .ok (.goto (-134), 3) := by decide +kernel
theorem dX11_missingOf_141 : decode cX11_missingOf 141 = .ok (.iload_n 2, 1) := by decide +kernel
theorem dX11_missingOf_142 : decode cX11_missingOf 142 = .ok (.ireturn, 1) := by decide +kernel
theorem dX11_scoreOf_0 : decode cX11_scoreOf 0 = .ok (.iload_n 1, 1) := by decide +kernel
theorem dX11_scoreOf_1 : decode cX11_scoreOf 1 = .ok (.bipush 10, 2) := by decide +kernel
theorem dX11_scoreOf_3 : decode cX11_scoreOf 3 = .ok (.iload_n 2, 1) := by decide +kernel
theorem dX11_scoreOf_4 : decode cX11_scoreOf 4 = .ok (.imul, 1) := by decide +kernel
theorem dX11_scoreOf_5 : decode cX11_scoreOf 5 = .ok (.if_icmp .le 12, 3) := by decide +kernel
theorem dX11_scoreOf_8 : decode cX11_scoreOf 8 = .ok (.iload_n 1, 1) := by decide +kernel
theorem dX11_scoreOf_9 : decode cX11_scoreOf 9 = .ok (.bipush 10, 2) := by decide +kernel
theorem dX11_scoreOf_11 : decode cX11_scoreOf 11 = .ok (.iload_n 2, 1) := by decide +kernel
theorem dX11_scoreOf_12 : decode cX11_scoreOf 12 = .ok (.imul, 1) := by decide +kernel
theorem dX11_scoreOf_13 : decode cX11_scoreOf 13 = .ok (.isub, 1) := by decide +kernel
theorem dX11_scoreOf_14 : decode cX11_scoreOf 14 = .ok (.goto 4, 3) := by decide +kernel
theorem dX11_scoreOf_17 : decode cX11_scoreOf 17 = .ok (.iconst 0, 1) := by decide +kernel
theorem dX11_scoreOf_18 : decode cX11_scoreOf 18 = .ok (.ireturn, 1) := by decide +kernel
theorem dX11_bestNow_0 : decode cX11_bestNow 0 = .ok (.iconst (-1), 1) := by decide +kernel
theorem dX11_bestNow_1 : decode cX11_bestNow 1 = .ok (.istore_n 1, 1) := by decide +kernel
theorem dX11_bestNow_2 : decode cX11_bestNow 2 = .ok (.iconst 0, 1) := by decide +kernel
theorem dX11_bestNow_3 : decode cX11_bestNow 3 = .ok (.istore_n 2, 1) := by decide +kernel
theorem dX11_bestNow_4 : decode cX11_bestNow 4 = .ok (.iconst 0, 1) := by decide +kernel
theorem dX11_bestNow_5 : decode cX11_bestNow 5 = .ok (.istore_n 3, 1) := by decide +kernel
theorem dX11_bestNow_6 : decode cX11_bestNow 6 = .ok (.iconst 0, 1) := by decide +kernel
theorem dX11_bestNow_7 : decode cX11_bestNow 7 = .ok (.istore 4, 2) := by decide +kernel
theorem dX11_bestNow_9 : decode cX11_bestNow 9 = .ok (.iload 4, 2) := by decide +kernel
theorem dX11_bestNow_11 : decode cX11_bestNow 11 = .ok (.aload_n 0, 1) := by decide +kernel
theorem dX11_bestNow_12 : decode cX11_bestNow 12 = .ok (.getfield 103, 3) := by decide +kernel
theorem dX11_bestNow_15 : decode cX11_bestNow 15 = .ok (.if_icmp .ge 73, 3) := by decide +kernel
theorem dX11_bestNow_18 : decode cX11_bestNow 18 = .ok (.aload_n 0, 1) := by decide +kernel
theorem dX11_bestNow_19 : decode cX11_bestNow 19 = .ok (.getfield 41, 3) := by decide +kernel
theorem dX11_bestNow_22 : decode cX11_bestNow 22 = .ok (.iload 4, 2) := by decide +kernel
theorem dX11_bestNow_24 : decode cX11_bestNow 24 = .ok (.baload, 1) := by decide +kernel
theorem dX11_bestNow_25 : decode cX11_bestNow 25 = .ok (.ifCond .eq 57, 3) := by decide +kernel
theorem dX11_bestNow_28 : decode cX11_bestNow 28 = .ok (.aload_n 0, 1) := by decide +kernel
theorem dX11_bestNow_29 : decode cX11_bestNow 29 = .ok (.iload 4, 2) := by decide +kernel
theorem dX11_bestNow_31 : decode cX11_bestNow 31 = .ok (.invokevirtual 132, 3) := by decide +kernel
theorem dX11_bestNow_34 : decode cX11_bestNow 34 = .ok (.istore 5, 2) := by decide +kernel
theorem dX11_bestNow_36 : decode cX11_bestNow 36 = .ok (.aload_n 0, 1) := by decide +kernel
theorem dX11_bestNow_37 : decode cX11_bestNow 37 = .ok (.iload 5, 2) := by decide +kernel
theorem dX11_bestNow_39 : decode cX11_bestNow 39 = .ok (.aload_n 0, 1) := by decide +kernel
theorem dX11_bestNow_40 : decode cX11_bestNow 40 = .ok (.iload 4, 2) := by decide +kernel
theorem dX11_bestNow_42 : decode cX11_bestNow 42 = .ok (.invokevirtual 135, 3) := by decide +kernel
theorem dX11_bestNow_45 : decode cX11_bestNow 45 = .ok (.invokevirtual 138, 3) := by decide +kernel
theorem dX11_bestNow_48 : decode cX11_bestNow 48 = .ok (.istore 6, 2) := by decide +kernel
theorem dX11_bestNow_50 : decode cX11_bestNow 50 = .ok (.iload 6, 2) := by decide +kernel
theorem dX11_bestNow_52 : decode cX11_bestNow 52 = .ok (.ifCond .le 30, 3) := by decide +kernel
theorem dX11_bestNow_55 : decode cX11_bestNow 55 = .ok (.iload 6, 2) := by decide +kernel
theorem dX11_bestNow_57 : decode cX11_bestNow 57 = .ok (.iload_n 2, 1) := by decide +kernel
theorem dX11_bestNow_58 : decode cX11_bestNow 58 = .ok (.if_icmp .gt 15, 3) := by decide +kernel
theorem dX11_bestNow_61 : decode cX11_bestNow 61 = .ok (.iload 6, 2) := by decide +kernel
theorem dX11_bestNow_63 : decode cX11_bestNow 63 = .ok (.iload_n 2, 1) := by decide +kernel
theorem dX11_bestNow_64 : decode cX11_bestNow 64 = .ok (.if_icmp .ne 18, 3) := by decide +kernel
theorem dX11_bestNow_67 : decode cX11_bestNow 67 = .ok (.iload 5, 2) := by decide +kernel
theorem dX11_bestNow_69 : decode cX11_bestNow 69 = .ok (.iload_n 3, 1) := by decide +kernel
theorem dX11_bestNow_70 : decode cX11_bestNow 70 = .ok (.if_icmp .lt 12, 3) := by decide +kernel
theorem dX11_bestNow_73 : decode cX11_bestNow 73 = .ok (.iload 4, 2) := by decide +kernel
theorem dX11_bestNow_75 : decode cX11_bestNow 75 = .ok (.istore_n 1, 1) := by decide +kernel
theorem dX11_bestNow_76 : decode cX11_bestNow 76 = .ok (.iload 6, 2) := by decide +kernel
theorem dX11_bestNow_78 : decode cX11_bestNow 78 = .ok (.istore_n 2, 1) := by decide +kernel
theorem dX11_bestNow_79 : decode cX11_bestNow 79 = .ok (.iload 5, 2) := by decide +kernel
theorem dX11_bestNow_81 : decode cX11_bestNow 81 = .ok (.istore_n 3, 1) := by decide +kernel
theorem dX11_bestNow_82 : decode cX11_bestNow 82 = .ok (.iinc 4 1, 3) := by decide +kernel
theorem dX11_bestNow_85 : decode cX11_bestNow 85 = .ok (.goto (-76), 3) := by decide +kernel
theorem dX11_bestNow_88 : decode cX11_bestNow 88 = .ok (.iload_n 1, 1) := by decide +kernel
theorem dX11_bestNow_89 : decode cX11_bestNow 89 = .ok (.ireturn, 1) := by decide +kernel
theorem dX11_looks_0 : decode cX11_looks 0 = .ok (.aload_n 0, 1) := by decide +kernel
theorem dX11_looks_1 : decode cX11_looks 1 = .ok (.iconst 0, 1) := by decide +kernel
theorem dX11_looks_2 : decode cX11_looks 2 = .ok (.putfield 78, 3) := by decide +kernel
theorem dX11_looks_5 : decode cX11_looks 5 = .ok (.aload_n 0, 1) := by decide +kernel
theorem dX11_looks_6 : decode cX11_looks 6 = .ok (.aload_n 0, 1) := by decide +kernel
theorem dX11_looks_7 : decode cX11_looks 7 = .ok (.iload_n 1, 1) := by decide +kernel
theorem dX11_looks_8 : decode cX11_looks 8 = .ok (.invokevirtual 110, 3) := by decide +kernel
theorem dX11_looks_11 : decode cX11_looks 11 = .ok (.iconst 1, 1) := by decide +kernel
theorem dX11_looks_12 : decode cX11_looks 12 = .ok (.invokevirtual 82, 3) := by decide +kernel
theorem dX11_looks_15 : decode cX11_looks 15 = .ok (.ifCond .ne 23, 3) := by decide +kernel
theorem dX11_looks_18 : decode cX11_looks 18 = .ok (.aload_n 0, 1) := by decide +kernel
theorem dX11_looks_19 : decode cX11_looks 19 = .ok (.aload_n 0, 1) := by decide +kernel
theorem dX11_looks_20 : decode cX11_looks 20 = .ok (.getfield 86, 3) := by decide +kernel
theorem dX11_looks_23 : decode cX11_looks 23 = .ok (.ifCond .ne 7, 3) := by decide +kernel
theorem dX11_looks_26 : decode cX11_looks 26 = .ok (.iconst 1, 1) := by decide +kernel
theorem dX11_looks_27 : decode cX11_looks 27 = .ok (.goto 4, 3) := by decide +kernel
theorem dX11_looks_30 : decode cX11_looks 30 = .ok (.iconst 0, 1) := by decide +kernel
theorem dX11_looks_31 : decode cX11_looks 31 = .ok (.iconst 2, 1) := by decide +kernel
theorem dX11_looks_32 : decode cX11_looks 32 = .ok (.invokevirtual 82, 3) := by decide +kernel
theorem dX11_looks_35 : decode cX11_looks 35 = .ok (.ifCond .eq 5, 3) := by decide +kernel
theorem dX11_looks_38 : decode cX11_looks 38 = .ok (.iconst 0, 1) := by decide +kernel
theorem dX11_looks_39 : decode cX11_looks 39 = .ok (.ireturn, 1) := by decide +kernel
theorem dX11_looks_40 : decode cX11_looks 40 = .ok (.aload_n 0, 1) := by decide +kernel
theorem dX11_looks_41 : decode cX11_looks 41 = .ok (.invokevirtual 141, 3) := by decide +kernel
theorem dX11_looks_44 : decode cX11_looks 44 = .ok (.iconst 1, 1) := by decide +kernel
theorem dX11_looks_45 : decode cX11_looks 45 = .ok (.ireturn, 1) := by decide +kernel
theorem dX11_cost_0 : decode cX11_cost 0 = .ok (.aload_n 0, 1) := by decide +kernel
theorem dX11_cost_1 : decode cX11_cost 1 = .ok (.iload_n 1, 1) := by decide +kernel
theorem dX11_cost_2 : decode cX11_cost 2 = .ok (.invokevirtual 144, 3) := by decide +kernel
theorem dX11_cost_5 : decode cX11_cost 5 = .ok (.ifCond .eq 11, 3) := by decide +kernel
theorem dX11_cost_8 : decode cX11_cost 8 = .ok (.aload_n 0, 1) := by decide +kernel
theorem dX11_cost_9 : decode cX11_cost 9 = .ok (.iload_n 1, 1) := by decide +kernel
theorem dX11_cost_10 : decode cX11_cost 10 = .ok (.invokevirtual 129, 3) := by decide +kernel
theorem dX11_cost_13 : decode cX11_cost 13 = .ok (.goto 4, 3) := by decide +kernel
theorem dX11_cost_16 : decode cX11_cost 16 = .ok (.iconst 0, 1) := by decide +kernel
theorem dX11_cost_17 : decode cX11_cost 17 = .ok (.ireturn, 1) := by decide +kernel
theorem dX11_costFromEnds_0 : decode cX11_costFromEnds 0 = .ok (.aload_n 0, 1) := by decide +kernel
theorem dX11_costFromEnds_1 : decode cX11_costFromEnds 1 = .ok (.iload_n 1, 1) := by decide +kernel
theorem dX11_costFromEnds_2 : decode cX11_costFromEnds 2 = .ok (.invokevirtual 147, 3) := by decide +kernel
theorem dX11_costFromEnds_5 : decode cX11_costFromEnds 5 = .ok (.ireturn, 1) := by decide +kernel
theorem dX11_likeness_0 : decode cX11_likeness 0 = .ok (.aload_n 0, 1) := by decide +kernel
theorem dX11_likeness_1 : decode cX11_likeness 1 = .ok (.iload_n 1, 1) := by decide +kernel
theorem dX11_likeness_2 : decode cX11_likeness 2 = .ok (.invokevirtual 144, 3) := by decide +kernel
theorem dX11_likeness_5 : decode cX11_likeness 5 = .ok (.ifCond .eq 11, 3) := by decide +kernel
theorem dX11_likeness_8 : decode cX11_likeness 8 = .ok (.aload_n 0, 1) := by decide +kernel
theorem dX11_likeness_9 : decode cX11_likeness 9 = .ok (.iload_n 1, 1) := by decide +kernel
theorem dX11_likeness_10 : decode cX11_likeness 10 = .ok (.invokevirtual 132, 3) := by decide +kernel
theorem dX11_likeness_13 : decode cX11_likeness 13 = .ok (.goto 4, 3) := by decide +kernel
theorem dX11_likeness_16 : decode cX11_likeness 16 = .ok (.iconst 0, 1) := by decide +kernel
theorem dX11_likeness_17 : decode cX11_likeness 17 = .ok (.ireturn, 1) := by decide +kernel
theorem dX11_missing_0 : decode cX11_missing 0 = .ok (.aload_n 0, 1) := by decide +kernel
theorem dX11_missing_1 : decode cX11_missing 1 = .ok (.iload_n 1, 1) := by decide +kernel
theorem dX11_missing_2 : decode cX11_missing 2 = .ok (.invokevirtual 144, 3) := by decide +kernel
theorem dX11_missing_5 : decode cX11_missing 5 = .ok (.ifCond .eq 11, 3) := by decide +kernel
theorem dX11_missing_8 : decode cX11_missing 8 = .ok (.aload_n 0, 1) := by decide +kernel
theorem dX11_missing_9 : decode cX11_missing 9 = .ok (.iload_n 1, 1) := by decide +kernel
theorem dX11_missing_10 : decode cX11_missing 10 = .ok (.invokevirtual 135, 3) := by decide +kernel
theorem dX11_missing_13 : decode cX11_missing 13 = .ok (.goto 4, 3) := by decide +kernel
theorem dX11_missing_16 : decode cX11_missing 16 = .ok (.iconst 0, 1) := by decide +kernel
theorem dX11_missing_17 : decode cX11_missing 17 = .ok (.ireturn, 1) := by decide +kernel
theorem dX11_score_0 : decode cX11_score 0 = .ok (.aload_n 0, 1) := by decide +kernel
theorem dX11_score_1 : decode cX11_score 1 = .ok (.iload_n 1, 1) := by decide +kernel
theorem dX11_score_2 : decode cX11_score 2 = .ok (.invokevirtual 144, 3) := by decide +kernel
theorem dX11_score_5 : decode cX11_score 5 = .ok (.ifCond .eq 20, 3) := by decide +kernel
theorem dX11_score_8 : decode cX11_score 8 = .ok (.aload_n 0, 1) := by decide +kernel
theorem dX11_score_9 : decode cX11_score 9 = .ok (.aload_n 0, 1) := by decide +kernel
theorem dX11_score_10 : decode cX11_score 10 = .ok (.iload_n 1, 1) := by decide +kernel
theorem dX11_score_11 : decode cX11_score 11 = .ok (.invokevirtual 132, 3) := by decide +kernel
theorem dX11_score_14 : decode cX11_score 14 = .ok (.aload_n 0, 1) := by decide +kernel
theorem dX11_score_15 : decode cX11_score 15 = .ok (.iload_n 1, 1) := by decide +kernel
theorem dX11_score_16 : decode cX11_score 16 = .ok (.invokevirtual 135, 3) := by decide +kernel
theorem dX11_score_19 : decode cX11_score 19 = .ok (.invokevirtual 138, 3) := by decide +kernel
theorem dX11_score_22 : decode cX11_score 22 = .ok (.goto 4, 3) := by decide +kernel
theorem dX11_score_25 : decode cX11_score 25 = .ok (.iconst 0, 1) := by decide +kernel
theorem dX11_score_26 : decode cX11_score 26 = .ok (.ireturn, 1) := by decide +kernel
theorem dX11_bares_0 : decode cX11_bares 0 = .ok (.iconst 0, 1) := by decide +kernel
theorem dX11_bares_1 : decode cX11_bares 1 = .ok (.istore 4, 2) := by decide +kernel
theorem dX11_bares_3 : decode cX11_bares 3 = .ok (.iconst 0, 1) := by decide +kernel
theorem dX11_bares_4 : decode cX11_bares 4 = .ok (.istore 5, 2) := by decide +kernel
theorem dX11_bares_6 : decode cX11_bares 6 = .ok (.iload 5, 2) := by decide +kernel
theorem dX11_bares_8 : decode cX11_bares 8 = .ok (.iload_n 2, 1) := by decide +kernel
theorem dX11_bares_9 : decode cX11_bares 9 = .ok (.if_icmp .ge 52, 3) := by decide +kernel
theorem dX11_bares_12 : decode cX11_bares 12 = .ok (.aload_n 0, 1) := by decide +kernel
theorem dX11_bares_13 : decode cX11_bares 13 = .ok (.iload_n 1, 1) := by decide +kernel
theorem dX11_bares_14 : decode cX11_bares 14 = .ok (.iload 5, 2) := by decide +kernel
theorem dX11_bares_16 : decode cX11_bares 16 = .ok (.iadd, 1) := by decide +kernel
theorem dX11_bares_17 : decode cX11_bares 17 = .ok (.iaload, 1) := by decide +kernel
theorem dX11_bares_18 : decode cX11_bares 18 = .ok (.istore 6, 2) := by decide +kernel
theorem dX11_bares_20 : decode cX11_bares 20 = .ok (.iload 6, 2) := by decide +kernel
theorem dX11_bares_22 : decode cX11_bares 22 = .ok (.sipush 10000, 3) := by decide +kernel
theorem dX11_bares_25 : decode cX11_bares 25 = .ok (.idiv, 1) := by decide +kernel
theorem dX11_bares_26 : decode cX11_bares 26 = .ok (.iconst 2, 1) := by decide +kernel
theorem dX11_bares_27 : decode cX11_bares 27 = .ok (.if_icmp .eq 28, 3) := by decide +kernel
theorem dX11_bares_30 : decode cX11_bares 30 = .ok (.aload_n 3, 1) := by decide +kernel
theorem dX11_bares_31 : decode cX11_bares 31 = .ok (.iload 4, 2) := by decide +kernel
theorem dX11_bares_33 : decode cX11_bares 33 = .ok (.iload 6, 2) := by decide +kernel
theorem dX11_bares_35 : decode cX11_bares 35 = .ok (.sipush 10000, 3) := by decide +kernel
theorem dX11_bares_38 : decode cX11_bares 38 = .ok (.idiv, 1) := by decide +kernel
theorem dX11_bares_39 : decode cX11_bares 39 = .ok (.iconst 1, 1) := by decide +kernel
theorem dX11_bares_40 : decode cX11_bares 40 = .ok (.if_icmp .ne 9, 3) := by decide +kernel
theorem dX11_bares_43 : decode cX11_bares 43 = .ok (.sipush 10000, 3) := by decide +kernel
theorem dX11_bares_46 : decode cX11_bares 46 = .ok (.goto 5, 3) := by decide +kernel
theorem dX11_bares_49 : decode cX11_bares 49 = .ok (.iload 6, 2) := by decide +kernel
theorem dX11_bares_51 : decode cX11_bares 51 = .ok (.iastore, 1) := by decide +kernel
theorem dX11_bares_52 : decode cX11_bares 52 = .ok (.iinc 4 1, 3) := by decide +kernel
theorem dX11_bares_55 : decode cX11_bares 55 = .ok (.iinc 5 1, 3) := by decide +kernel
theorem dX11_bares_58 : decode cX11_bares 58 = .ok (.goto (-52), 3) := by decide +kernel
theorem dX11_bares_61 : decode cX11_bares 61 = .ok (.iload 4, 2) := by decide +kernel
theorem dX11_bares_63 : decode cX11_bares 63 = .ok (.ireturn, 1) := by decide +kernel
theorem dX11_hasPair_0 : decode cX11_hasPair 0 = .ok (.iconst 0, 1) := by decide +kernel
theorem dX11_hasPair_1 : decode cX11_hasPair 1 = .ok (.istore 4, 2) := by decide +kernel
theorem dX11_hasPair_3 : decode cX11_hasPair 3 = .ok (.iconst 0, 1) := by decide +kernel
theorem dX11_hasPair_4 : decode cX11_hasPair 4 = .ok (.istore 5, 2) := by decide +kernel
theorem dX11_hasPair_6 : decode cX11_hasPair 6 = .ok (.iload 5, 2) := by decide +kernel
theorem dX11_hasPair_8 : decode cX11_hasPair 8 = .ok (.iconst 1, 1) := by decide +kernel
theorem dX11_hasPair_9 : decode cX11_hasPair 9 = .ok (.iadd, 1) := by decide +kernel
theorem dX11_hasPair_10 : decode cX11_hasPair 10 = .ok (.iload_n 1, 1) := by decide +kernel
theorem dX11_hasPair_11 : decode cX11_hasPair 11 = .ok (.if_icmp .ge 39, 3) := by decide +kernel
theorem dX11_hasPair_14 : decode cX11_hasPair 14 = .ok (.iload 4, 2) := by decide +kernel
theorem dX11_hasPair_16 : decode cX11_hasPair 16 = .ok (.ifCond .ne 21, 3) := by decide +kernel
theorem dX11_hasPair_19 : decode cX11_hasPair 19 = .ok (.aload_n 0, 1) := by decide +kernel
theorem dX11_hasPair_20 : decode cX11_hasPair 20 = .ok (.iload 5, 2) := by decide +kernel
theorem dX11_hasPair_22 : decode cX11_hasPair 22 = .ok (.iaload, 1) := by decide +kernel
theorem dX11_hasPair_23 : decode cX11_hasPair 23 = .ok (.iload_n 2, 1) := by decide +kernel
theorem dX11_hasPair_24 : decode cX11_hasPair 24 = .ok (.if_icmp .ne 17, 3) := by decide +kernel
theorem dX11_hasPair_27 : decode cX11_hasPair 27 = .ok (.aload_n 0, 1) := by decide +kernel
theorem dX11_hasPair_28 : decode cX11_hasPair 28 = .ok (.iload 5, 2) := by decide +kernel
theorem dX11_hasPair_30 : decode cX11_hasPair 30 = .ok (.iconst 1, 1) := by decide +kernel
theorem dX11_hasPair_31 : decode cX11_hasPair 31 = .ok (.iadd, 1) := by decide +kernel
theorem dX11_hasPair_32 : decode cX11_hasPair 32 = .ok (.iaload, 1) := by decide +kernel
theorem dX11_hasPair_33 : decode cX11_hasPair 33 = .ok (.iload_n 3, 1) := by decide +kernel
theorem dX11_hasPair_34 : decode cX11_hasPair 34 = .ok (.if_icmp .ne 7, 3) := by decide +kernel
theorem dX11_hasPair_37 : decode cX11_hasPair 37 = .ok (.iconst 1, 1) := by decide +kernel
theorem dX11_hasPair_38 : decode cX11_hasPair 38 = .ok (.goto 4, 3) := by decide +kernel
theorem dX11_hasPair_41 : decode cX11_hasPair 41 = .ok (.iconst 0, 1) := by decide +kernel
theorem dX11_hasPair_42 : decode cX11_hasPair 42 = .ok (.istore 4, 2) := by decide +kernel
theorem dX11_hasPair_44 : decode cX11_hasPair 44 = .ok (.iinc 5 1, 3) := by decide +kernel
theorem dX11_hasPair_47 : decode cX11_hasPair 47 = .ok (.goto (-41), 3) := by decide +kernel
theorem dX11_hasPair_50 : decode cX11_hasPair 50 = .ok (.iload 4, 2) := by decide +kernel
theorem dX11_hasPair_52 : decode cX11_hasPair 52 = .ok (.ireturn, 1) := by decide +kernel
theorem dX11_sharedPairs_0 : decode cX11_sharedPairs 0 = .ok (.aload_n 0, 1) := by decide +kernel
theorem dX11_sharedPairs_1 : decode cX11_sharedPairs 1 = .ok (.iload_n 1, 1) := by decide +kernel
theorem dX11_sharedPairs_2 : decode cX11_sharedPairs 2 = .ok (.invokevirtual 144, 3) := by decide +kernel
theorem dX11_sharedPairs_5 : decode cX11_sharedPairs 5 = .ok (.ifCond .ne 5, 3) := by decide +kernel
theorem dX11_sharedPairs_8 : decode cX11_sharedPairs 8 = .ok (.iconst 0, 1) := by decide +kernel
theorem dX11_sharedPairs_9 : decode cX11_sharedPairs 9 = .ok (.ireturn, 1) := by decide +kernel
theorem dX11_sharedPairs_10 : decode cX11_sharedPairs 10 = .ok (.aload_n 0, 1) := by decide +kernel
theorem dX11_sharedPairs_11 : decode cX11_sharedPairs 11 = .ok (.getfield 66, 3) := by decide +kernel
theorem dX11_sharedPairs_14 : decode cX11_sharedPairs 14 = .ok (.iconst 0, 1) := by decide +kernel
theorem dX11_sharedPairs_15 : decode cX11_sharedPairs 15 = .ok (.aload_n 0, 1) := by decide +kernel
theorem dX11_sharedPairs_16 : decode cX11_sharedPairs 16 = .ok (.getfield 114, 3) := by decide +kernel
theorem dX11_sharedPairs_19 : decode cX11_sharedPairs 19 = .ok (.aload_n 0, 1) := by decide +kernel
theorem dX11_sharedPairs_20 : decode cX11_sharedPairs 20 = .ok (.getfield 72, 3) := by decide +kernel
theorem dX11_sharedPairs_23 : decode cX11_sharedPairs 23 = .ok (.invokestatic 150, 3) := by decide +kernel
theorem dX11_sharedPairs_26 : decode cX11_sharedPairs 26 = .ok (.istore_n 2, 1) := by decide +kernel
theorem dX11_sharedPairs_27 : decode cX11_sharedPairs 27 = .ok (.aload_n 0, 1) := by decide +kernel
theorem dX11_sharedPairs_28 : decode cX11_sharedPairs 28 = .ok (.getfield 29, 3) := by decide +kernel
theorem dX11_sharedPairs_31 : decode cX11_sharedPairs 31 = .ok (.bipush 60, 2) := by decide +kernel
theorem dX11_sharedPairs_33 : decode cX11_sharedPairs 33 = .ok (.iload_n 1, 1) := by decide +kernel
theorem dX11_sharedPairs_34 : decode cX11_sharedPairs 34 = .ok (.imul, 1) := by decide +kernel
theorem dX11_sharedPairs_35 : decode cX11_sharedPairs 35 = .ok (.aload_n 0, 1) := by decide +kernel
theorem dX11_sharedPairs_36 : decode cX11_sharedPairs 36 = .ok (.getfield 32, 3) := by decide +kernel
theorem dX11_sharedPairs_39 : decode cX11_sharedPairs 39 = .ok (.iload_n 1, 1) := by decide +kernel
theorem dX11_sharedPairs_40 : decode cX11_sharedPairs 40 = .ok (.iaload, 1) := by decide +kernel
theorem dX11_sharedPairs_41 : decode cX11_sharedPairs 41 = .ok (.aload_n 0, 1) := by decide +kernel
theorem dX11_sharedPairs_42 : decode cX11_sharedPairs 42 = .ok (.getfield 75, 3) := by decide +kernel
theorem dX11_sharedPairs_45 : decode cX11_sharedPairs 45 = .ok (.invokestatic 150, 3) := by decide +kernel
theorem dX11_sharedPairs_48 : decode cX11_sharedPairs 48 = .ok (.istore_n 3, 1) := by decide +kernel
theorem dX11_sharedPairs_49 : decode cX11_sharedPairs 49 = .ok (.iconst 0, 1) := by decide +kernel
theorem dX11_sharedPairs_50 : decode cX11_sharedPairs 50 = .ok (.istore 4, 2) := by decide +kernel
theorem dX11_sharedPairs_52 : decode cX11_sharedPairs 52 = .ok (.iconst 0, 1) := by decide +kernel
theorem dX11_sharedPairs_53 : decode cX11_sharedPairs 53 = .ok (.istore 5, 2) := by decide +kernel
theorem dX11_sharedPairs_55 : decode cX11_sharedPairs 55 = .ok (.iload 5, 2) := by decide +kernel
theorem dX11_sharedPairs_57 : decode cX11_sharedPairs 57 = .ok (.iconst 1, 1) := by decide +kernel
theorem dX11_sharedPairs_58 : decode cX11_sharedPairs 58 = .ok (.iadd, 1) := by decide +kernel
theorem dX11_sharedPairs_59 : decode cX11_sharedPairs 59 = .ok (.iload_n 2, 1) := by decide +kernel
theorem dX11_sharedPairs_60 : decode cX11_sharedPairs 60 = .ok (.if_icmp .ge 88, 3) := by decide +kernel
theorem dX11_sharedPairs_63 : decode cX11_sharedPairs 63 = .ok (.aload_n 0, 1) := by decide +kernel
theorem dX11_sharedPairs_64 : decode cX11_sharedPairs 64 = .ok (.getfield 72, 3) := by decide +kernel
theorem dX11_sharedPairs_67 : decode cX11_sharedPairs 67 = .ok (.iload 5, 2) := by decide +kernel
theorem dX11_sharedPairs_69 : decode cX11_sharedPairs 69 = .ok (.iconst 1, 1) := by decide +kernel
theorem dX11_sharedPairs_70 : decode cX11_sharedPairs 70 = .ok (.iadd, 1) := by decide +kernel
theorem dX11_sharedPairs_71 : decode cX11_sharedPairs 71 = .ok (.aload_n 0, 1) := by decide +kernel
theorem dX11_sharedPairs_72 : decode cX11_sharedPairs 72 = .ok (.getfield 72, 3) := by decide +kernel
theorem dX11_sharedPairs_75 : decode cX11_sharedPairs 75 = .ok (.iload 5, 2) := by decide +kernel
theorem dX11_sharedPairs_77 : decode cX11_sharedPairs 77 = .ok (.iaload, 1) := by decide +kernel
theorem dX11_sharedPairs_78 : decode cX11_sharedPairs 78 = .ok (.aload_n 0, 1) := by decide +kernel
theorem dX11_sharedPairs_79 : decode cX11_sharedPairs 79 = .ok (.getfield 72, 3) := by decide +kernel
theorem dX11_sharedPairs_82 : decode cX11_sharedPairs 82 = .ok (.iload 5, 2) := by decide +kernel
theorem dX11_sharedPairs_84 : decode cX11_sharedPairs 84 = .ok (.iconst 1, 1) := by decide +kernel
theorem dX11_sharedPairs_85 : decode cX11_sharedPairs 85 = .ok (.iadd, 1) := by decide +kernel
theorem dX11_sharedPairs_86 : decode cX11_sharedPairs 86 = .ok (.iaload, 1) := by decide +kernel
theorem dX11_sharedPairs_87 : decode cX11_sharedPairs 87 = .ok (.invokestatic 154, 3) := by decide +kernel
theorem dX11_sharedPairs_90 : decode cX11_sharedPairs 90 = .ok (.ifCond .ne 7, 3) := by decide +kernel
theorem dX11_sharedPairs_93 : decode cX11_sharedPairs 93 = .ok (.iconst 1, 1) := by decide +kernel
theorem dX11_sharedPairs_94 : decode cX11_sharedPairs 94 = .ok (.goto 4, 3) := by decide +kernel
theorem dX11_sharedPairs_97 : decode cX11_sharedPairs 97 = .ok (.iconst 0, 1) := by decide +kernel
theorem dX11_sharedPairs_98 : decode cX11_sharedPairs 98 = .ok (.istore 6, 2) := by decide +kernel
theorem dX11_sharedPairs_100 : decode cX11_sharedPairs 100 = .ok (.iload 4, 2) := by decide +kernel
theorem dX11_sharedPairs_102 : decode cX11_sharedPairs 102 = .ok (.iload 6, 2) := by decide +kernel
theorem dX11_sharedPairs_104 : decode cX11_sharedPairs 104 = .ok (.ifCond .eq 34, 3) := by decide +kernel
theorem dX11_sharedPairs_107 : decode cX11_sharedPairs 107 = .ok (.aload_n 0, 1) := by decide +kernel
theorem dX11_sharedPairs_108 : decode cX11_sharedPairs 108 = .ok (.getfield 75, 3) := by decide +kernel
theorem dX11_sharedPairs_111 : decode cX11_sharedPairs 111 = .ok (.iload_n 3, 1) := by decide +kernel
theorem dX11_sharedPairs_112 : decode cX11_sharedPairs 112 = .ok (.aload_n 0, 1) := by decide +kernel
theorem dX11_sharedPairs_113 : decode cX11_sharedPairs 113 = .ok (.getfield 72, 3) := by decide +kernel
theorem dX11_sharedPairs_116 : decode cX11_sharedPairs 116 = .ok (.iload 5, 2) := by decide +kernel
theorem dX11_sharedPairs_118 : decode cX11_sharedPairs 118 = .ok (.iaload, 1) := by decide +kernel
theorem dX11_sharedPairs_119 : decode cX11_sharedPairs 119 = .ok (.aload_n 0, 1) := by decide +kernel
theorem dX11_sharedPairs_120 : decode cX11_sharedPairs 120 = .ok (.getfield 72, 3) := by decide +kernel
theorem dX11_sharedPairs_123 : decode cX11_sharedPairs 123 = .ok (.iload 5, 2) := by decide +kernel
theorem dX11_sharedPairs_125 : decode cX11_sharedPairs 125 = .ok (.iconst 1, 1) := by decide +kernel
theorem dX11_sharedPairs_126 : decode cX11_sharedPairs 126 = .ok (.iadd, 1) := by decide +kernel
theorem dX11_sharedPairs_127 : decode cX11_sharedPairs 127 = .ok (.iaload, 1) := by decide +kernel
theorem dX11_sharedPairs_128 : decode cX11_sharedPairs 128 = .ok (.invokestatic 154, 3) := by decide +kernel
theorem dX11_sharedPairs_131 : decode cX11_sharedPairs 131 = .ok (.ifCond .eq 7, 3) := by decide +kernel
theorem dX11_sharedPairs_134 : decode cX11_sharedPairs 134 = .ok (.iconst 1, 1) := by decide +kernel
theorem dX11_sharedPairs_135 : decode cX11_sharedPairs 135 = .ok (.goto 4, 3) := by decide +kernel
theorem dX11_sharedPairs_138 : decode cX11_sharedPairs 138 = .ok (.iconst 0, 1) := by decide +kernel
theorem dX11_sharedPairs_139 : decode cX11_sharedPairs 139 = .ok (.iadd, 1) := by decide +kernel
theorem dX11_sharedPairs_140 : decode cX11_sharedPairs 140 = .ok (.istore 4, 2) := by decide +kernel
theorem dX11_sharedPairs_142 : decode cX11_sharedPairs 142 = .ok (.iinc 5 1, 3) := by decide +kernel
theorem dX11_sharedPairs_145 : decode cX11_sharedPairs 145 = .ok (.goto (-90), 3) := by decide +kernel
theorem dX11_sharedPairs_148 : decode cX11_sharedPairs 148 = .ok (.iload 4, 2) := by decide +kernel
theorem dX11_sharedPairs_150 : decode cX11_sharedPairs 150 = .ok (.ireturn, 1) := by decide +kernel
theorem dX11_best_0 : decode cX11_best 0 = .ok (.aload_n 0, 1) := by decide +kernel
theorem dX11_best_1 : decode cX11_best 1 = .ok (.iconst 0, 1) := by decide +kernel
theorem dX11_best_2 : decode cX11_best 2 = .ok (.putfield 78, 3) := by decide +kernel
theorem dX11_best_5 : decode cX11_best 5 = .ok (.aload_n 0, 1) := by decide +kernel
theorem dX11_best_6 : decode cX11_best 6 = .ok (.aload_n 0, 1) := by decide +kernel
theorem dX11_best_7 : decode cX11_best 7 = .ok (.getfield 86, 3) := by decide +kernel
theorem dX11_best_10 : decode cX11_best 10 = .ok (.ifCond .ne 7, 3) := by decide +kernel
theorem dX11_best_13 : decode cX11_best 13 = .ok (.iconst 1, 1) := by decide +kernel
theorem dX11_best_14 : decode cX11_best 14 = .ok (.goto 4, 3) := by decide +kernel
theorem dX11_best_17 : decode cX11_best 17 = .ok (.iconst 0, 1) := by decide +kernel
theorem dX11_best_18 : decode cX11_best 18 = .ok (.iconst 1, 1) := by decide +kernel
theorem dX11_best_19 : decode cX11_best 19 = .ok (.invokevirtual 82, 3) := by decide +kernel
theorem dX11_best_22 : decode cX11_best 22 = .ok (.ifCond .eq 5, 3) := by decide +kernel
theorem dX11_best_25 : decode cX11_best 25 = .ok (.iconst 0, 1) := by decide +kernel
theorem dX11_best_26 : decode cX11_best 26 = .ok (.ireturn, 1) := by decide +kernel
theorem dX11_best_27 : decode cX11_best 27 = .ok (.aload_n 0, 1) := by decide +kernel
theorem dX11_best_28 : decode cX11_best 28 = .ok (.invokevirtual 141, 3) := by decide +kernel
theorem dX11_best_31 : decode cX11_best 31 = .ok (.aload_n 0, 1) := by decide +kernel
theorem dX11_best_32 : decode cX11_best 32 = .ok (.invokevirtual 158, 3) := by decide +kernel
theorem dX11_best_35 : decode cX11_best 35 = .ok (.istore_n 1, 1) := by decide +kernel
theorem dX11_best_36 : decode cX11_best 36 = .ok (.aload_n 0, 1) := by decide +kernel
theorem dX11_best_37 : decode cX11_best 37 = .ok (.iload_n 1, 1) := by decide +kernel
theorem dX11_best_38 : decode cX11_best 38 = .ok (.iconst (-1), 1) := by decide +kernel
theorem dX11_best_39 : decode cX11_best 39 = .ok (.if_icmp .ne 7, 3) := by decide +kernel
theorem dX11_best_42 : decode cX11_best 42 = .ok (.iconst 1, 1) := by decide +kernel
theorem dX11_best_43 : decode cX11_best 43 = .ok (.goto 4, 3) := by decide +kernel
theorem dX11_best_46 : decode cX11_best 46 = .ok (.iconst 0, 1) := by decide +kernel
theorem dX11_best_47 : decode cX11_best 47 = .ok (.iconst 2, 1) := by decide +kernel
theorem dX11_best_48 : decode cX11_best 48 = .ok (.invokevirtual 82, 3) := by decide +kernel
theorem dX11_best_51 : decode cX11_best 51 = .ok (.ifCond .eq 7, 3) := by decide +kernel
theorem dX11_best_54 : decode cX11_best 54 = .ok (.iconst 0, 1) := by decide +kernel
theorem dX11_best_55 : decode cX11_best 55 = .ok (.goto 4, 3) := by decide +kernel
theorem dX11_best_58 : decode cX11_best 58 = .ok (.iload_n 1, 1) := by decide +kernel
theorem dX11_best_59 : decode cX11_best 59 = .ok (.ireturn, 1) := by decide +kernel
theorem dX11_bestOfAll_0 : decode cX11_bestOfAll 0 = .ok (.aload_n 0, 1) := by decide +kernel
theorem dX11_bestOfAll_1 : decode cX11_bestOfAll 1 = .ok (.invokevirtual 162, 3) := by decide +kernel
theorem dX11_bestOfAll_4 : decode cX11_bestOfAll 4 = .ok (.ireturn, 1) := by decide +kernel
theorem dX11_isMark_0 : decode cX11_isMark 0 = .ok (.iload_n 0, 1) := by decide +kernel
theorem dX11_isMark_1 : decode cX11_isMark 1 = .ok (.sipush 30000, 3) := by decide +kernel
theorem dX11_isMark_4 : decode cX11_isMark 4 = .ok (.iload_n 1, 1) := by decide +kernel
theorem dX11_isMark_5 : decode cX11_isMark 5 = .ok (.iadd, 1) := by decide +kernel
theorem dX11_isMark_6 : decode cX11_isMark 6 = .ok (.if_icmp .ne 7, 3) := by decide +kernel
theorem dX11_isMark_9 : decode cX11_isMark 9 = .ok (.iconst 1, 1) := by decide +kernel
theorem dX11_isMark_10 : decode cX11_isMark 10 = .ok (.goto 4, 3) := by decide +kernel
theorem dX11_isMark_13 : decode cX11_isMark 13 = .ok (.iconst 0, 1) := by decide +kernel
theorem dX11_isMark_14 : decode cX11_isMark 14 = .ok (.ireturn, 1) := by decide +kernel
theorem dX11_endsAt_0 : decode cX11_endsAt 0 = .ok (.aload_n 0, 1) := by decide +kernel
theorem dX11_endsAt_1 : decode cX11_endsAt 1 = .ok (.getfield 44, 3) := by decide +kernel
theorem dX11_endsAt_4 : decode cX11_endsAt 4 = .ok (.iload_n 1, 1) := by decide +kernel
theorem dX11_endsAt_5 : decode cX11_endsAt 5 = .ok (.iaload, 1) := by decide +kernel
theorem dX11_endsAt_6 : decode cX11_endsAt 6 = .ok (.istore_n 3, 1) := by decide +kernel
theorem dX11_endsAt_7 : decode cX11_endsAt 7 = .ok (.iload_n 3, 1) := by decide +kernel
theorem dX11_endsAt_8 : decode cX11_endsAt 8 = .ok (.bipush 46, 2) := by decide +kernel
theorem dX11_endsAt_10 : decode cX11_endsAt 10 = .ok (.invokestatic 165, 3) := by decide +kernel
theorem dX11_endsAt_13 : decode cX11_endsAt 13 = .ok (.ifCond .ne 27, 3) := by decide +kernel
theorem dX11_endsAt_16 : decode cX11_endsAt 16 = .ok (.iload_n 3, 1) := by decide +kernel
theorem dX11_endsAt_17 : decode cX11_endsAt 17 = .ok (.bipush 33, 2) := by decide +kernel
theorem dX11_endsAt_19 : decode cX11_endsAt 19 = .ok (.invokestatic 165, 3) := by decide +kernel
theorem dX11_endsAt_22 : decode cX11_endsAt 22 = .ok (.ifCond .ne 12, 3) := by decide +kernel
theorem dX11_endsAt_25 : decode cX11_endsAt 25 = .ok (.iload_n 3, 1) := by decide +kernel
theorem dX11_endsAt_26 : decode cX11_endsAt 26 = .ok (.bipush 63, 2) := by decide +kernel
theorem dX11_endsAt_28 : decode cX11_endsAt 28 = .ok (.invokestatic 165, 3) := by decide +kernel
theorem dX11_endsAt_31 : decode cX11_endsAt 31 = .ok (.ifCond .eq 7, 3) := by decide +kernel
theorem dX11_endsAt_34 : decode cX11_endsAt 34 = .ok (.iconst 1, 1) := by decide +kernel
theorem dX11_endsAt_35 : decode cX11_endsAt 35 = .ok (.goto 4, 3) := by decide +kernel
theorem dX11_endsAt_38 : decode cX11_endsAt 38 = .ok (.iconst 0, 1) := by decide +kernel
theorem dX11_endsAt_39 : decode cX11_endsAt 39 = .ok (.ireturn, 1) := by decide +kernel
theorem dX11_endsAt_40 : decode cX11_endsAt 40 = .ok (.iload_n 1, 1) := by decide +kernel
theorem dX11_endsAt_41 : decode cX11_endsAt 41 = .ok (.ifCond .ne 7, 3) := by decide +kernel
theorem dX11_endsAt_44 : decode cX11_endsAt 44 = .ok (.iconst (-1), 1) := by decide +kernel
theorem dX11_endsAt_45 : decode cX11_endsAt 45 = .ok (.goto 11, 3) := by decide +kernel
theorem dX11_endsAt_48 : decode cX11_endsAt 48 = .ok (.aload_n 0, 1) := by decide +kernel
theorem dX11_endsAt_49 : decode cX11_endsAt 49 = .ok (.getfield 44, 3) := by decide +kernel
theorem dX11_endsAt_52 : decode cX11_endsAt 52 = .ok (.iload_n 1, 1) := by decide +kernel
theorem dX11_endsAt_53 : decode cX11_endsAt 53 = .ok (.iconst 1, 1) := by decide +kernel
theorem dX11_endsAt_54 : decode cX11_endsAt 54 = .ok (.isub, 1) := by decide +kernel
theorem dX11_endsAt_55 : decode cX11_endsAt 55 = .ok (.iaload, 1) := by decide +kernel
theorem dX11_endsAt_56 : decode cX11_endsAt 56 = .ok (.istore 4, 2) := by decide +kernel
theorem dX11_endsAt_58 : decode cX11_endsAt 58 = .ok (.iload_n 1, 1) := by decide +kernel
theorem dX11_endsAt_59 : decode cX11_endsAt 59 = .ok (.iconst 1, 1) := by decide +kernel
theorem dX11_endsAt_60 : decode cX11_endsAt 60 = .ok (.iadd, 1) := by decide +kernel
theorem dX11_endsAt_61 : decode cX11_endsAt 61 = .ok (.iload_n 2, 1) := by decide +kernel
theorem dX11_endsAt_62 : decode cX11_endsAt 62 = .ok (.if_icmp .ne 7, 3) := by decide +kernel
theorem dX11_endsAt_65 : decode cX11_endsAt 65 = .ok (.iconst (-1), 1) := by decide +kernel
theorem dX11_endsAt_66 : decode cX11_endsAt 66 = .ok (.goto 11, 3) := by decide +kernel
theorem dX11_endsAt_69 : decode cX11_endsAt 69 = .ok (.aload_n 0, 1) := by decide +kernel
theorem dX11_endsAt_70 : decode cX11_endsAt 70 = .ok (.getfield 44, 3) := by decide +kernel
theorem dX11_endsAt_73 : decode cX11_endsAt 73 = .ok (.iload_n 1, 1) := by decide +kernel
theorem dX11_endsAt_74 : decode cX11_endsAt 74 = .ok (.iconst 1, 1) := by decide +kernel
theorem dX11_endsAt_75 : decode cX11_endsAt 75 = .ok (.iadd, 1) := by decide +kernel
theorem dX11_endsAt_76 : decode cX11_endsAt 76 = .ok (.iaload, 1) := by decide +kernel
theorem dX11_endsAt_77 : decode cX11_endsAt 77 = .ok (.istore 5, 2) := by decide +kernel
theorem dX11_endsAt_79 : decode cX11_endsAt 79 = .ok (.iload 4, 2) := by decide +kernel
theorem dX11_endsAt_81 : decode cX11_endsAt 81 = .ok (.ifCond .lt 25, 3) := by decide +kernel
theorem dX11_endsAt_84 : decode cX11_endsAt 84 = .ok (.iload 4, 2) := by decide +kernel
theorem dX11_endsAt_86 : decode cX11_endsAt 86 = .ok (.sipush 10000, 3) := by decide +kernel
theorem dX11_endsAt_89 : decode cX11_endsAt 89 = .ok (.if_icmp .ge 17, 3) := by decide +kernel
theorem dX11_endsAt_92 : decode cX11_endsAt 92 = .ok (.aload_n 0, 1) := by decide +kernel
theorem dX11_endsAt_93 : decode cX11_endsAt 93 = .ok (.getfield 16, 3) := by decide +kernel
theorem dX11_endsAt_96 : decode cX11_endsAt 96 = .ok (.iload 4, 2) := by decide +kernel
theorem dX11_endsAt_98 : decode cX11_endsAt 98 = .ok (.baload, 1) := by decide +kernel
theorem dX11_endsAt_99 : decode cX11_endsAt 99 = .ok (.ifCond .eq 7, 3) := by decide +kernel
theorem dX11_endsAt_102 : decode cX11_endsAt 102 = .ok (.iconst 1, 1) := by decide +kernel
theorem dX11_endsAt_103 : decode cX11_endsAt 103 = .ok (.goto 4, 3) := by decide +kernel
theorem dX11_endsAt_106 : decode cX11_endsAt 106 = .ok (.iconst 0, 1) := by decide +kernel
theorem dX11_endsAt_107 : decode cX11_endsAt 107 = .ok (.istore 6, 2) := by decide +kernel
theorem dX11_endsAt_109 : decode cX11_endsAt 109 = .ok (.iload 4, 2) := by decide +kernel
theorem dX11_endsAt_111 : decode cX11_endsAt 111 = .ok (.ifCond .lt 32, 3) := by decide +kernel
theorem dX11_endsAt_114 : decode cX11_endsAt 114 = .ok (.iload 4, 2) := by decide +kernel
theorem dX11_endsAt_116 : decode cX11_endsAt 116 = .ok (.sipush 10000, 3) := by decide +kernel
theorem dX11_endsAt_119 : decode cX11_endsAt 119 = .ok (.idiv, 1) := by decide +kernel
theorem dX11_endsAt_120 : decode cX11_endsAt 120 = .ok (.iconst 1, 1) := by decide +kernel
theorem dX11_endsAt_121 : decode cX11_endsAt 121 = .ok (.if_icmp .ne 22, 3) := by decide +kernel
theorem dX11_endsAt_124 : decode cX11_endsAt 124 = .ok (.iload 5, 2) := by decide +kernel
theorem dX11_endsAt_126 : decode cX11_endsAt 126 = .ok (.ifCond .lt 17, 3) := by decide +kernel
theorem dX11_endsAt_129 : decode cX11_endsAt 129 = .ok (.iload 5, 2) := by decide +kernel
theorem dX11_endsAt_131 : decode cX11_endsAt 131 = .ok (.sipush 10000, 3) := by decide +kernel
theorem dX11_endsAt_134 : decode cX11_endsAt 134 = .ok (.idiv, 1) := by decide +kernel
theorem dX11_endsAt_135 : decode cX11_endsAt 135 = .ok (.iconst 1, 1) := by decide +kernel
theorem dX11_endsAt_136 : decode cX11_endsAt 136 = .ok (.if_icmp .ne 7, 3) := by decide +kernel
theorem dX11_endsAt_139 : decode cX11_endsAt 139 = .ok (.iconst 1, 1) := by decide +kernel
theorem dX11_endsAt_140 : decode cX11_endsAt 140 = .ok (.goto 4, 3) := by decide +kernel
theorem dX11_endsAt_143 : decode cX11_endsAt 143 = .ok (.iconst 0, 1) := by decide +kernel
theorem dX11_endsAt_144 : decode cX11_endsAt 144 = .ok (.istore 7, 2) := by decide +kernel
theorem dX11_endsAt_146 : decode cX11_endsAt 146 = .ok (.iload 6, 2) := by decide +kernel
theorem dX11_endsAt_148 : decode cX11_endsAt 148 = .ok (.ifCond .ne 12, 3) := by decide +kernel
theorem dX11_endsAt_151 : decode cX11_endsAt 151 = .ok (.iload 7, 2) := by decide +kernel
theorem dX11_endsAt_153 : decode cX11_endsAt 153 = .ok (.ifCond .ne 7, 3) := by decide +kernel
theorem dX11_endsAt_156 : decode cX11_endsAt 156 = .ok (.iconst 1, 1) := by decide +kernel
theorem dX11_endsAt_157 : decode cX11_endsAt 157 = .ok (.goto 4, 3) := by decide +kernel
theorem dX11_endsAt_160 : decode cX11_endsAt 160 = .ok (.iconst 0, 1) := by decide +kernel
theorem dX11_endsAt_161 : decode cX11_endsAt 161 = .ok (.ireturn, 1) := by decide +kernel
theorem dX11_open_0 : decode cX11_open 0 = .ok (.aload_n 0, 1) := by decide +kernel
theorem dX11_open_1 : decode cX11_open 1 = .ok (.iconst 0, 1) := by decide +kernel
theorem dX11_open_2 : decode cX11_open 2 = .ok (.putfield 78, 3) := by decide +kernel
theorem dX11_open_5 : decode cX11_open 5 = .ok (.aload_n 0, 1) := by decide +kernel
theorem dX11_open_6 : decode cX11_open 6 = .ok (.aload_n 0, 1) := by decide +kernel
theorem dX11_open_7 : decode cX11_open 7 = .ok (.getfield 86, 3) := by decide +kernel
theorem dX11_open_10 : decode cX11_open 10 = .ok (.ifCond .ne 7, 3) := by decide +kernel
theorem dX11_open_13 : decode cX11_open 13 = .ok (.iconst 1, 1) := by decide +kernel
theorem dX11_open_14 : decode cX11_open 14 = .ok (.goto 4, 3) := by decide +kernel
theorem dX11_open_17 : decode cX11_open 17 = .ok (.iconst 0, 1) := by decide +kernel
theorem dX11_open_18 : decode cX11_open 18 = .ok (.iconst 1, 1) := by decide +kernel
theorem dX11_open_19 : decode cX11_open 19 = .ok (.invokevirtual 82, 3) := by decide +kernel
theorem dX11_open_22 : decode cX11_open 22 = .ok (.ifCond .eq 5, 3) := by decide +kernel
theorem dX11_open_25 : decode cX11_open 25 = .ok (.iconst 0, 1) := by decide +kernel
theorem dX11_open_26 : decode cX11_open 26 = .ok (.ireturn, 1) := by decide +kernel
theorem dX11_open_27 : decode cX11_open 27 = .ok (.aload_n 0, 1) := by decide +kernel
theorem dX11_open_28 : decode cX11_open 28 = .ok (.getfield 86, 3) := by decide +kernel
theorem dX11_open_31 : decode cX11_open 31 = .ok (.istore_n 1, 1) := by decide +kernel
theorem dX11_open_32 : decode cX11_open 32 = .ok (.iconst 0, 1) := by decide +kernel
theorem dX11_open_33 : decode cX11_open 33 = .ok (.istore_n 2, 1) := by decide +kernel
theorem dX11_open_34 : decode cX11_open 34 = .ok (.iload_n 2, 1) := by decide +kernel
theorem dX11_open_35 : decode cX11_open 35 = .ok (.iload_n 1, 1) := by decide +kernel
theorem dX11_open_36 : decode cX11_open 36 = .ok (.if_icmp .ge 21, 3) := by decide +kernel
theorem dX11_open_39 : decode cX11_open 39 = .ok (.aload_n 0, 1) := by decide +kernel
theorem dX11_open_40 : decode cX11_open 40 = .ok (.getfield 44, 3) := by decide +kernel
theorem dX11_open_43 : decode cX11_open 43 = .ok (.iload_n 2, 1) := by decide +kernel
theorem dX11_open_44 : decode cX11_open 44 = .ok (.aload_n 0, 1) := by decide +kernel
theorem dX11_open_45 : decode cX11_open 45 = .ok (.getfield 7, 3) := by decide +kernel
theorem dX11_open_48 : decode cX11_open 48 = .ok (.iload_n 2, 1) := by decide +kernel
theorem dX11_open_49 : decode cX11_open 49 = .ok (.iaload, 1) := by decide +kernel
theorem dX11_open_50 : decode cX11_open 50 = .ok (.iastore, 1) := by decide +kernel
theorem dX11_open_51 : decode cX11_open 51 = .ok (.iinc 2 1, 3) := by decide +kernel
theorem dX11_open_54 : decode cX11_open 54 = .ok (.goto (-20), 3) := by decide +kernel
theorem dX11_open_57 : decode cX11_open 57 = .ok (.aload_n 0, 1) := by decide +kernel
theorem dX11_open_58 : decode cX11_open 58 = .ok (.iconst 0, 1) := by decide +kernel
theorem dX11_open_59 : decode cX11_open 59 = .ok (.putfield 86, 3) := by decide +kernel
theorem dX11_open_62 : decode cX11_open 62 = .ok (.aload_n 0, 1) := by decide +kernel
theorem dX11_open_63 : decode cX11_open 63 = .ok (.iconst 0, 1) := by decide +kernel
theorem dX11_open_64 : decode cX11_open 64 = .ok (.putfield 169, 3) := by decide +kernel
theorem dX11_open_67 : decode cX11_open 67 = .ok (.iconst 0, 1) := by decide +kernel
theorem dX11_open_68 : decode cX11_open 68 = .ok (.istore_n 2, 1) := by decide +kernel
theorem dX11_open_69 : decode cX11_open 69 = .ok (.iload_n 2, 1) := by decide +kernel
theorem dX11_open_70 : decode cX11_open 70 = .ok (.iload_n 1, 1) := by decide +kernel
theorem dX11_open_71 : decode cX11_open 71 = .ok (.if_icmp .ge 115, 3) := by decide +kernel
theorem dX11_open_74 : decode cX11_open 74 = .ok (.aload_n 0, 1) := by decide +kernel
theorem dX11_open_75 : decode cX11_open 75 = .ok (.getfield 47, 3) := by decide +kernel
theorem dX11_open_78 : decode cX11_open 78 = .ok (.aload_n 0, 1) := by decide +kernel
theorem dX11_open_79 : decode cX11_open 79 = .ok (.getfield 169, 3) := by decide +kernel
theorem dX11_open_82 : decode cX11_open 82 = .ok (.iload_n 2, 1) := by decide +kernel
theorem dX11_open_83 : decode cX11_open 83 = .ok (.iastore, 1) := by decide +kernel
theorem dX11_open_84 : decode cX11_open 84 = .ok (.iload_n 2, 1) := by decide +kernel
theorem dX11_open_85 : decode cX11_open 85 = .ok (.iload_n 1, 1) := by decide +kernel
theorem dX11_open_86 : decode cX11_open 86 = .ok (.if_icmp .ge 18, 3) := by decide +kernel
theorem dX11_open_89 : decode cX11_open 89 = .ok (.aload_n 0, 1) := by decide +kernel
theorem dX11_open_90 : decode cX11_open 90 = .ok (.iload_n 2, 1) := by decide +kernel
theorem dX11_open_91 : decode cX11_open 91 = .ok (.iload_n 1, 1) := by decide +kernel
theorem dX11_open_92 : decode cX11_open 92 = .ok (.invokevirtual 172, 3) := by decide +kernel
theorem dX11_open_95 : decode cX11_open 95 = .ok (.ifCond .ne 9, 3) := by decide +kernel
theorem dX11_open_98 : decode cX11_open 98 = .ok (.iinc 2 1, 3) := by decide +kernel
theorem dX11_open_101 : decode cX11_open 101 = .ok (.goto (-17), 3) := by decide +kernel
theorem dX11_open_104 : decode cX11_open 104 = .ok (.iload_n 2, 1) := by decide +kernel
theorem dX11_open_105 : decode cX11_open 105 = .ok (.iload_n 2, 1) := by decide +kernel
theorem dX11_open_106 : decode cX11_open 106 = .ok (.iload_n 1, 1) := by decide +kernel
theorem dX11_open_107 : decode cX11_open 107 = .ok (.if_icmp .ge 7, 3) := by decide +kernel
theorem dX11_open_110 : decode cX11_open 110 = .ok (.iconst 1, 1) := by decide +kernel
theorem dX11_open_111 : decode cX11_open 111 = .ok (.goto 4, 3) := by decide +kernel
theorem dX11_open_114 : decode cX11_open 114 = .ok (.iconst 0, 1) := by decide +kernel
theorem dX11_open_115 : decode cX11_open 115 = .ok (.iadd, 1) := by decide +kernel
theorem dX11_open_116 : decode cX11_open 116 = .ok (.istore_n 2, 1) := by decide +kernel
theorem dX11_open_117 : decode cX11_open 117 = .ok (.iload_n 2, 1) := by decide +kernel
theorem dX11_open_118 : decode cX11_open 118 = .ok (.iload_n 1, 1) := by decide +kernel
theorem dX11_open_119 : decode cX11_open 119 = .ok (.if_icmp .ge 23, 3) := by decide +kernel
theorem dX11_open_122 : decode cX11_open 122 = .ok (.aload_n 0, 1) := by decide +kernel
theorem dX11_open_123 : decode cX11_open 123 = .ok (.getfield 44, 3) := by decide +kernel
theorem dX11_open_126 : decode cX11_open 126 = .ok (.iload_n 2, 1) := by decide +kernel
theorem dX11_open_127 : decode cX11_open 127 = .ok (.iaload, 1) := by decide +kernel
theorem dX11_open_128 : decode cX11_open 128 = .ok (.sipush 10000, 3) := by decide +kernel
theorem dX11_open_131 : decode cX11_open 131 = .ok (.idiv, 1) := by decide +kernel
theorem dX11_open_132 : decode cX11_open 132 = .ok (.iconst 2, 1) := by decide +kernel
theorem dX11_open_133 : decode cX11_open 133 = .ok (.if_icmp .ne 9, 3) := by decide +kernel
theorem dX11_open_136 : decode cX11_open 136 = .ok (.iinc 2 1, 3) := by decide +kernel
theorem dX11_open_139 : decode cX11_open 139 = .ok (.goto (-22), 3) := by decide +kernel
theorem dX11_open_142 : decode cX11_open 142 = .ok (.aload_n 0, 1) := by decide +kernel
theorem dX11_open_143 : decode cX11_open 143 = .ok (.getfield 50, 3) := by decide +kernel
theorem dX11_open_146 : decode cX11_open 146 = .ok (.aload_n 0, 1) := by decide +kernel
theorem dX11_open_147 : decode cX11_open 147 = .ok (.getfield 169, 3) := by decide +kernel
theorem dX11_open_150 : decode cX11_open 150 = .ok (.bipush 101, 2) := by decide +kernel
theorem dX11_open_152 : decode cX11_open 152 = .ok (.castore, 1) := by decide +kernel
theorem dX11_open_153 : decode cX11_open 153 = .ok (.aload_n 0, 1) := by decide +kernel
theorem dX11_open_154 : decode cX11_open 154 = .ok (.getfield 63, 3) := by decide +kernel
theorem dX11_open_157 : decode cX11_open 157 = .ok (.aload_n 0, 1) := by decide +kernel
theorem dX11_open_158 : decode cX11_open 158 = .ok (.getfield 169, 3) := by decide +kernel
theorem dX11_open_161 : decode cX11_open 161 = .ok (.iconst 0, 1) := by decide +kernel
theorem dX11_open_162 : decode cX11_open 162 = .ok (.iastore, 1) := by decide +kernel
theorem dX11_open_163 : decode cX11_open 163 = .ok (.aload_n 0, 1) := by decide +kernel
theorem dX11_open_164 : decode cX11_open 164 = .ok (.dup, 1) := by decide +kernel
theorem dX11_open_165 : decode cX11_open 165 = .ok (.getfield 169, 3) := by decide +kernel
theorem dX11_open_168 : decode cX11_open 168 = .ok (.iconst 1, 1) := by decide +kernel
theorem dX11_open_169 : decode cX11_open 169 = .ok (.iadd, 1) := by decide +kernel
theorem dX11_open_170 : decode cX11_open 170 = .ok (.putfield 169, 3) := by decide +kernel
theorem dX11_open_173 : decode cX11_open 173 = .ok (.aload_n 0, 1) := by decide +kernel
theorem dX11_open_174 : decode cX11_open 174 = .ok (.getfield 47, 3) := by decide +kernel
theorem dX11_open_177 : decode cX11_open 177 = .ok (.aload_n 0, 1) := by decide +kernel
theorem dX11_open_178 : decode cX11_open 178 = .ok (.getfield 169, 3) := by decide +kernel
theorem dX11_open_181 : decode cX11_open 181 = .ok (.iload_n 2, 1) := by decide +kernel
theorem dX11_open_182 : decode cX11_open 182 = .ok (.iastore, 1) := by decide +kernel
theorem dX11_open_183 : decode cX11_open 183 = .ok (.goto (-114), 3) := by decide +kernel
theorem dX11_open_186 : decode cX11_open 186 = .ok (.aload_n 0, 1) := by decide +kernel
theorem dX11_open_187 : decode cX11_open 187 = .ok (.getfield 169, 3) := by decide +kernel
theorem dX11_open_190 : decode cX11_open 190 = .ok (.ireturn, 1) := by decide +kernel
theorem dX11_segments_0 : decode cX11_segments 0 = .ok (.aload_n 0, 1) := by decide +kernel
theorem dX11_segments_1 : decode cX11_segments 1 = .ok (.iconst 0, 1) := by decide +kernel
theorem dX11_segments_2 : decode cX11_segments 2 = .ok (.putfield 78, 3) := by decide +kernel
theorem dX11_segments_5 : decode cX11_segments 5 = .ok (.aload_n 0, 1) := by decide +kernel
theorem dX11_segments_6 : decode cX11_segments 6 = .ok (.getfield 169, 3) := by decide +kernel
theorem dX11_segments_9 : decode cX11_segments 9 = .ok (.ireturn, 1) := by decide +kernel
theorem dX11_length_0 : decode cX11_length 0 = .ok (.aload_n 0, 1) := by decide +kernel
theorem dX11_length_1 : decode cX11_length 1 = .ok (.getfield 47, 3) := by decide +kernel
theorem dX11_length_4 : decode cX11_length 4 = .ok (.iload_n 1, 1) := by decide +kernel
theorem dX11_length_5 : decode cX11_length 5 = .ok (.iconst 1, 1) := by decide +kernel
theorem dX11_length_6 : decode cX11_length 6 = .ok (.iadd, 1) := by decide +kernel
theorem dX11_length_7 : decode cX11_length 7 = .ok (.iaload, 1) := by decide +kernel
theorem dX11_length_8 : decode cX11_length 8 = .ok (.aload_n 0, 1) := by decide +kernel
theorem dX11_length_9 : decode cX11_length 9 = .ok (.getfield 47, 3) := by decide +kernel
theorem dX11_length_12 : decode cX11_length 12 = .ok (.iload_n 1, 1) := by decide +kernel
theorem dX11_length_13 : decode cX11_length 13 = .ok (.iaload, 1) := by decide +kernel
theorem dX11_length_14 : decode cX11_length 14 = .ok (.isub, 1) := by decide +kernel
theorem dX11_length_15 : decode cX11_length 15 = .ok (.ireturn, 1) := by decide +kernel
theorem dX11_areEqual_0 : decode cX11_areEqual 0 = .ok (.aload_n 0, 1) := by decide +kernel
theorem dX11_areEqual_1 : decode cX11_areEqual 1 = .ok (.iload_n 1, 1) := by decide +kernel
theorem dX11_areEqual_2 : decode cX11_areEqual 2 = .ok (.invokevirtual 176, 3) := by decide +kernel
theorem dX11_areEqual_5 : decode cX11_areEqual 5 = .ok (.aload_n 0, 1) := by decide +kernel
theorem dX11_areEqual_6 : decode cX11_areEqual 6 = .ok (.iload_n 2, 1) := by decide +kernel
theorem dX11_areEqual_7 : decode cX11_areEqual 7 = .ok (.invokevirtual 176, 3) := by decide +kernel
theorem dX11_areEqual_10 : decode cX11_areEqual 10 = .ok (.if_icmp .ne 7, 3) := by decide +kernel
theorem dX11_areEqual_13 : decode cX11_areEqual 13 = .ok (.iconst 1, 1) := by decide +kernel
theorem dX11_areEqual_14 : decode cX11_areEqual 14 = .ok (.goto 4, 3) := by decide +kernel
theorem dX11_areEqual_17 : decode cX11_areEqual 17 = .ok (.iconst 0, 1) := by decide +kernel
theorem dX11_areEqual_18 : decode cX11_areEqual 18 = .ok (.istore_n 3, 1) := by decide +kernel
theorem dX11_areEqual_19 : decode cX11_areEqual 19 = .ok (.iconst 0, 1) := by decide +kernel
theorem dX11_areEqual_20 : decode cX11_areEqual 20 = .ok (.istore 4, 2) := by decide +kernel
theorem dX11_areEqual_22 : decode cX11_areEqual 22 = .ok (.iload 4, 2) := by decide +kernel
theorem dX11_areEqual_24 : decode cX11_areEqual 24 = .ok (.aload_n 0, 1) := by decide +kernel
theorem dX11_areEqual_25 : decode cX11_areEqual 25 = .ok (.iload_n 1, 1) := by decide +kernel
theorem dX11_areEqual_26 : decode cX11_areEqual 26 = .ok (.invokevirtual 176, 3) := by decide +kernel
theorem dX11_areEqual_29 : decode cX11_areEqual 29 = .ok (.if_icmp .ge 50, 3) := by decide +kernel
theorem dX11_areEqual_32 : decode cX11_areEqual 32 = .ok (.iload_n 3, 1) := by decide +kernel
theorem dX11_areEqual_33 : decode cX11_areEqual 33 = .ok (.ifCond .eq 46, 3) := by decide +kernel
theorem dX11_areEqual_36 : decode cX11_areEqual 36 = .ok (.aload_n 0, 1) := by decide +kernel
theorem dX11_areEqual_37 : decode cX11_areEqual 37 = .ok (.getfield 44, 3) := by decide +kernel
theorem dX11_areEqual_40 : decode cX11_areEqual 40 = .ok (.aload_n 0, 1) := by decide +kernel
theorem dX11_areEqual_41 : decode cX11_areEqual 41 = .ok (.getfield 47, 3) := by decide +kernel
theorem dX11_areEqual_44 : decode cX11_areEqual 44 = .ok (.iload_n 1, 1) := by decide +kernel
theorem dX11_areEqual_45 : decode cX11_areEqual 45 = .ok (.iaload, 1) := by decide +kernel
theorem dX11_areEqual_46 : decode cX11_areEqual 46 = .ok (.iload 4, 2) := by decide +kernel
theorem dX11_areEqual_48 : decode cX11_areEqual 48 = .ok (.iadd, 1) := by decide +kernel
theorem dX11_areEqual_49 : decode cX11_areEqual 49 = .ok (.iaload, 1) := by decide +kernel
theorem dX11_areEqual_50 : decode cX11_areEqual 50 = .ok (.aload_n 0, 1) := by decide +kernel
theorem dX11_areEqual_51 : decode cX11_areEqual 51 = .ok (.getfield 44, 3) := by decide +kernel
theorem dX11_areEqual_54 : decode cX11_areEqual 54 = .ok (.aload_n 0, 1) := by decide +kernel
theorem dX11_areEqual_55 : decode cX11_areEqual 55 = .ok (.getfield 47, 3) := by decide +kernel
theorem dX11_areEqual_58 : decode cX11_areEqual 58 = .ok (.iload_n 2, 1) := by decide +kernel
theorem dX11_areEqual_59 : decode cX11_areEqual 59 = .ok (.iaload, 1) := by decide +kernel
theorem dX11_areEqual_60 : decode cX11_areEqual 60 = .ok (.iload 4, 2) := by decide +kernel
theorem dX11_areEqual_62 : decode cX11_areEqual 62 = .ok (.iadd, 1) := by decide +kernel
theorem dX11_areEqual_63 : decode cX11_areEqual 63 = .ok (.iaload, 1) := by decide +kernel
theorem dX11_areEqual_64 : decode cX11_areEqual 64 = .ok (.if_icmp .ne 7, 3) := by decide +kernel
theorem dX11_areEqual_67 : decode cX11_areEqual 67 = .ok (.iconst 1, 1) := by decide +kernel
theorem dX11_areEqual_68 : decode cX11_areEqual 68 = .ok (.goto 4, 3) := by decide +kernel
theorem dX11_areEqual_71 : decode cX11_areEqual 71 = .ok (.iconst 0, 1) := by decide +kernel
theorem dX11_areEqual_72 : decode cX11_areEqual 72 = .ok (.istore_n 3, 1) := by decide +kernel
theorem dX11_areEqual_73 : decode cX11_areEqual 73 = .ok (.iinc 4 1, 3) := by decide +kernel
theorem dX11_areEqual_76 : decode cX11_areEqual 76 = .ok (.goto (-54), 3) := by decide +kernel
theorem dX11_areEqual_79 : decode cX11_areEqual 79 = .ok (.iload_n 3, 1) := by decide +kernel
theorem dX11_areEqual_80 : decode cX11_areEqual 80 = .ok (.ireturn, 1) := by decide +kernel
theorem dX11_repeat_0 : decode cX11_repeat 0 = .ok (.aload_n 0, 1) := by decide +kernel
theorem dX11_repeat_1 : decode cX11_repeat 1 = .ok (.getfield 50, 3) := by decide +kernel
theorem dX11_repeat_4 : decode cX11_repeat 4 = .ok (.iload_n 1, 1) := by decide +kernel
theorem dX11_repeat_5 : decode cX11_repeat 5 = .ok (.bipush 114, 2) := by decide +kernel
theorem dX11_repeat_7 : decode cX11_repeat 7 = .ok (.castore, 1) := by decide +kernel
theorem dX11_repeat_8 : decode cX11_repeat 8 = .ok (.aload_n 0, 1) := by decide +kernel
theorem dX11_repeat_9 : decode cX11_repeat 9 = .ok (.getfield 63, 3) := by decide +kernel
theorem dX11_repeat_12 : decode cX11_repeat 12 = .ok (.iload_n 1, 1) := by decide +kernel
theorem dX11_repeat_13 : decode cX11_repeat 13 = .ok (.aload_n 0, 1) := by decide +kernel
theorem dX11_repeat_14 : decode cX11_repeat 14 = .ok (.getfield 63, 3) := by decide +kernel
theorem dX11_repeat_17 : decode cX11_repeat 17 = .ok (.iload_n 2, 1) := by decide +kernel
theorem dX11_repeat_18 : decode cX11_repeat 18 = .ok (.iaload, 1) := by decide +kernel
theorem dX11_repeat_19 : decode cX11_repeat 19 = .ok (.iastore, 1) := by decide +kernel
theorem dX11_repeat_20 : decode cX11_repeat 20 = .ok (.iconst 0, 1) := by decide +kernel
theorem dX11_repeat_21 : decode cX11_repeat 21 = .ok (.istore_n 3, 1) := by decide +kernel
theorem dX11_repeat_22 : decode cX11_repeat 22 = .ok (.iload_n 3, 1) := by decide +kernel
theorem dX11_repeat_23 : decode cX11_repeat 23 = .ok (.aload_n 0, 1) := by decide +kernel
theorem dX11_repeat_24 : decode cX11_repeat 24 = .ok (.getfield 63, 3) := by decide +kernel
theorem dX11_repeat_27 : decode cX11_repeat 27 = .ok (.iload_n 2, 1) := by decide +kernel
theorem dX11_repeat_28 : decode cX11_repeat 28 = .ok (.iaload, 1) := by decide +kernel
theorem dX11_repeat_29 : decode cX11_repeat 29 = .ok (.if_icmp .ge 31, 3) := by decide +kernel
theorem dX11_repeat_32 : decode cX11_repeat 32 = .ok (.aload_n 0, 1) := by decide +kernel
theorem dX11_repeat_33 : decode cX11_repeat 33 = .ok (.getfield 60, 3) := by decide +kernel
theorem dX11_repeat_36 : decode cX11_repeat 36 = .ok (.bipush 60, 2) := by decide +kernel
theorem dX11_repeat_38 : decode cX11_repeat 38 = .ok (.iload_n 1, 1) := by decide +kernel
theorem dX11_repeat_39 : decode cX11_repeat 39 = .ok (.imul, 1) := by decide +kernel
theorem dX11_repeat_40 : decode cX11_repeat 40 = .ok (.iload_n 3, 1) := by decide +kernel
theorem dX11_repeat_41 : decode cX11_repeat 41 = .ok (.iadd, 1) := by decide +kernel
theorem dX11_repeat_42 : decode cX11_repeat 42 = .ok (.aload_n 0, 1) := by decide +kernel
theorem dX11_repeat_43 : decode cX11_repeat 43 = .ok (.getfield 60, 3) := by decide +kernel
theorem dX11_repeat_46 : decode cX11_repeat 46 = .ok (.bipush 60, 2) := by decide +kernel
theorem dX11_repeat_48 : decode cX11_repeat 48 = .ok (.iload_n 2, 1) := by decide +kernel
theorem dX11_repeat_49 : decode cX11_repeat 49 = .ok (.imul, 1) := by decide +kernel
theorem dX11_repeat_50 : decode cX11_repeat 50 = .ok (.iload_n 3, 1) := by decide +kernel
theorem dX11_repeat_51 : decode cX11_repeat 51 = .ok (.iadd, 1) := by decide +kernel
theorem dX11_repeat_52 : decode cX11_repeat 52 = .ok (.iaload, 1) := by decide +kernel
theorem dX11_repeat_53 : decode cX11_repeat 53 = .ok (.iastore, 1) := by decide +kernel
theorem dX11_repeat_54 : decode cX11_repeat 54 = .ok (.iinc 3 1, 3) := by decide +kernel
theorem dX11_repeat_57 : decode cX11_repeat 57 = .ok (.goto (-35), 3) := by decide +kernel
theorem dX11_repeat_60 : decode cX11_repeat 60 = .ok (.return_, 1) := by decide +kernel
theorem dX11_numbers_0 : decode cX11_numbers 0 = .ok (.iconst 0, 1) := by decide +kernel
theorem dX11_numbers_1 : decode cX11_numbers 1 = .ok (.istore_n 3, 1) := by decide +kernel
theorem dX11_numbers_2 : decode cX11_numbers 2 = .ok (.iconst 0, 1) := by decide +kernel
theorem dX11_numbers_3 : decode cX11_numbers 3 = .ok (.istore 4, 2) := by decide +kernel
theorem dX11_numbers_5 : decode cX11_numbers 5 = .ok (.iload 4, 2) := by decide +kernel
theorem dX11_numbers_7 : decode cX11_numbers 7 = .ok (.iload_n 2, 1) := by decide +kernel
theorem dX11_numbers_8 : decode cX11_numbers 8 = .ok (.if_icmp .ge 31, 3) := by decide +kernel
theorem dX11_numbers_11 : decode cX11_numbers 11 = .ok (.iload_n 3, 1) := by decide +kernel
theorem dX11_numbers_12 : decode cX11_numbers 12 = .ok (.aload_n 0, 1) := by decide +kernel
theorem dX11_numbers_13 : decode cX11_numbers 13 = .ok (.iload_n 1, 1) := by decide +kernel
theorem dX11_numbers_14 : decode cX11_numbers 14 = .ok (.iload 4, 2) := by decide +kernel
theorem dX11_numbers_16 : decode cX11_numbers 16 = .ok (.iadd, 1) := by decide +kernel
theorem dX11_numbers_17 : decode cX11_numbers 17 = .ok (.iaload, 1) := by decide +kernel
theorem dX11_numbers_18 : decode cX11_numbers 18 = .ok (.sipush 10000, 3) := by decide +kernel
theorem dX11_numbers_21 : decode cX11_numbers 21 = .ok (.idiv, 1) := by decide +kernel
theorem dX11_numbers_22 : decode cX11_numbers 22 = .ok (.iconst 1, 1) := by decide +kernel
theorem dX11_numbers_23 : decode cX11_numbers 23 = .ok (.if_icmp .ne 7, 3) := by decide +kernel
theorem dX11_numbers_26 : decode cX11_numbers 26 = .ok (.iconst 1, 1) := by decide +kernel
theorem dX11_numbers_27 : decode cX11_numbers 27 = .ok (.goto 4, 3) := by decide +kernel
theorem dX11_numbers_30 : decode cX11_numbers 30 = .ok (.iconst 0, 1) := by decide +kernel
theorem dX11_numbers_31 : decode cX11_numbers 31 = .ok (.iadd, 1) := by decide +kernel
theorem dX11_numbers_32 : decode cX11_numbers 32 = .ok (.istore_n 3, 1) := by decide +kernel
theorem dX11_numbers_33 : decode cX11_numbers 33 = .ok (.iinc 4 1, 3) := by decide +kernel
theorem dX11_numbers_36 : decode cX11_numbers 36 = .ok (.goto (-31), 3) := by decide +kernel
theorem dX11_numbers_39 : decode cX11_numbers 39 = .ok (.iload_n 3, 1) := by decide +kernel
theorem dX11_numbers_40 : decode cX11_numbers 40 = .ok (.ireturn, 1) := by decide +kernel
theorem dX11_numberAt_0 : decode cX11_numberAt 0 = .ok (.iload_n 2, 1) := by decide +kernel
theorem dX11_numberAt_1 : decode cX11_numberAt 1 = .ok (.istore_n 3, 1) := by decide +kernel
theorem dX11_numberAt_2 : decode cX11_numberAt 2 = .ok (.iload_n 1, 1) := by decide +kernel
theorem dX11_numberAt_3 : decode cX11_numberAt 3 = .ok (.istore 4, 2) := by decide +kernel
theorem dX11_numberAt_5 : decode cX11_numberAt 5 = .ok (.aload_n 0, 1) := by decide +kernel
theorem dX11_numberAt_6 : decode cX11_numberAt 6 = .ok (.iload 4, 2) := by decide +kernel
theorem dX11_numberAt_8 : decode cX11_numberAt 8 = .ok (.iaload, 1) := by decide +kernel
theorem dX11_numberAt_9 : decode cX11_numberAt 9 = .ok (.sipush 10000, 3) := by decide +kernel
theorem dX11_numberAt_12 : decode cX11_numberAt 12 = .ok (.idiv, 1) := by decide +kernel
theorem dX11_numberAt_13 : decode cX11_numberAt 13 = .ok (.iconst 1, 1) := by decide +kernel
theorem dX11_numberAt_14 : decode cX11_numberAt 14 = .ok (.if_icmp .ne 7, 3) := by decide +kernel
theorem dX11_numberAt_17 : decode cX11_numberAt 17 = .ok (.iload_n 3, 1) := by decide +kernel
theorem dX11_numberAt_18 : decode cX11_numberAt 18 = .ok (.ifCond .le 29, 3) := by decide +kernel
theorem dX11_numberAt_21 : decode cX11_numberAt 21 = .ok (.iload_n 3, 1) := by decide +kernel
theorem dX11_numberAt_22 : decode cX11_numberAt 22 = .ok (.aload_n 0, 1) := by decide +kernel
theorem dX11_numberAt_23 : decode cX11_numberAt 23 = .ok (.iload 4, 2) := by decide +kernel
theorem dX11_numberAt_25 : decode cX11_numberAt 25 = .ok (.iaload, 1) := by decide +kernel
theorem dX11_numberAt_26 : decode cX11_numberAt 26 = .ok (.sipush 10000, 3) := by decide +kernel
theorem dX11_numberAt_29 : decode cX11_numberAt 29 = .ok (.idiv, 1) := by decide +kernel
theorem dX11_numberAt_30 : decode cX11_numberAt 30 = .ok (.iconst 1, 1) := by decide +kernel
theorem dX11_numberAt_31 : decode cX11_numberAt 31 = .ok (.if_icmp .ne 7, 3) := by decide +kernel
theorem dX11_numberAt_34 : decode cX11_numberAt 34 = .ok (.iconst 1, 1) := by decide +kernel
theorem dX11_numberAt_35 : decode cX11_numberAt 35 = .ok (.goto 4, 3) := by decide +kernel
theorem dX11_numberAt_38 : decode cX11_numberAt 38 = .ok (.iconst 0, 1) := by decide +kernel
theorem dX11_numberAt_39 : decode cX11_numberAt 39 = .ok (.isub, 1) := by decide +kernel
theorem dX11_numberAt_40 : decode cX11_numberAt 40 = .ok (.istore_n 3, 1) := by decide +kernel
theorem dX11_numberAt_41 : decode cX11_numberAt 41 = .ok (.iinc 4 1, 3) := by decide +kernel
theorem dX11_numberAt_44 : decode cX11_numberAt 44 = .ok (.goto (-39), 3) := by decide +kernel
theorem dX11_numberAt_47 : decode cX11_numberAt 47 = .ok (.aload_n 0, 1) := by decide +kernel
theorem dX11_numberAt_48 : decode cX11_numberAt 48 = .ok (.iload 4, 2) := by decide +kernel
theorem dX11_numberAt_50 : decode cX11_numberAt 50 = .ok (.iaload, 1) := by decide +kernel
theorem dX11_numberAt_51 : decode cX11_numberAt 51 = .ok (.ireturn, 1) := by decide +kernel
theorem dX11_placeOf_0 : decode cX11_placeOf 0 = .ok (.iconst 0, 1) := by decide +kernel
theorem dX11_placeOf_1 : decode cX11_placeOf 1 = .ok (.istore_n 3, 1) := by decide +kernel
theorem dX11_placeOf_2 : decode cX11_placeOf 2 = .ok (.iconst 0, 1) := by decide +kernel
theorem dX11_placeOf_3 : decode cX11_placeOf 3 = .ok (.istore 4, 2) := by decide +kernel
theorem dX11_placeOf_5 : decode cX11_placeOf 5 = .ok (.iload 4, 2) := by decide +kernel
theorem dX11_placeOf_7 : decode cX11_placeOf 7 = .ok (.aload_n 0, 1) := by decide +kernel
theorem dX11_placeOf_8 : decode cX11_placeOf 8 = .ok (.getfield 32, 3) := by decide +kernel
theorem dX11_placeOf_11 : decode cX11_placeOf 11 = .ok (.iload_n 1, 1) := by decide +kernel
theorem dX11_placeOf_12 : decode cX11_placeOf 12 = .ok (.iaload, 1) := by decide +kernel
theorem dX11_placeOf_13 : decode cX11_placeOf 13 = .ok (.if_icmp .ge 49, 3) := by decide +kernel
theorem dX11_placeOf_16 : decode cX11_placeOf 16 = .ok (.aload_n 0, 1) := by decide +kernel
theorem dX11_placeOf_17 : decode cX11_placeOf 17 = .ok (.getfield 29, 3) := by decide +kernel
theorem dX11_placeOf_20 : decode cX11_placeOf 20 = .ok (.bipush 60, 2) := by decide +kernel
theorem dX11_placeOf_22 : decode cX11_placeOf 22 = .ok (.iload_n 1, 1) := by decide +kernel
theorem dX11_placeOf_23 : decode cX11_placeOf 23 = .ok (.imul, 1) := by decide +kernel
theorem dX11_placeOf_24 : decode cX11_placeOf 24 = .ok (.iload 4, 2) := by decide +kernel
theorem dX11_placeOf_26 : decode cX11_placeOf 26 = .ok (.iadd, 1) := by decide +kernel
theorem dX11_placeOf_27 : decode cX11_placeOf 27 = .ok (.iaload, 1) := by decide +kernel
theorem dX11_placeOf_28 : decode cX11_placeOf 28 = .ok (.istore 5, 2) := by decide +kernel
theorem dX11_placeOf_30 : decode cX11_placeOf 30 = .ok (.iload 5, 2) := by decide +kernel
theorem dX11_placeOf_32 : decode cX11_placeOf 32 = .ok (.iload_n 2, 1) := by decide +kernel
theorem dX11_placeOf_33 : decode cX11_placeOf 33 = .ok (.if_icmp .ne 5, 3) := by decide +kernel
theorem dX11_placeOf_36 : decode cX11_placeOf 36 = .ok (.iload_n 3, 1) := by decide +kernel
theorem dX11_placeOf_37 : decode cX11_placeOf 37 = .ok (.ireturn, 1) := by decide +kernel
theorem dX11_placeOf_38 : decode cX11_placeOf 38 = .ok (.iload_n 3, 1) := by decide +kernel
theorem dX11_placeOf_39 : decode cX11_placeOf 39 = .ok (.iload 5, 2) := by decide +kernel
theorem dX11_placeOf_41 : decode cX11_placeOf 41 = .ok (.sipush 10000, 3) := by decide +kernel
theorem dX11_placeOf_44 : decode cX11_placeOf 44 = .ok (.idiv, 1) := by decide +kernel
theorem dX11_placeOf_45 : decode cX11_placeOf 45 = .ok (.iconst 1, 1) := by decide +kernel
theorem dX11_placeOf_46 : decode cX11_placeOf 46 = .ok (.if_icmp .ne 7, 3) := by decide +kernel
theorem dX11_placeOf_49 : decode cX11_placeOf 49 = .ok (.iconst 1, 1) := by decide +kernel
theorem dX11_placeOf_50 : decode cX11_placeOf 50 = .ok (.goto 4, 3) := by decide +kernel
theorem dX11_placeOf_53 : decode cX11_placeOf 53 = .ok (.iconst 0, 1) := by decide +kernel
theorem dX11_placeOf_54 : decode cX11_placeOf 54 = .ok (.iadd, 1) := by decide +kernel
theorem dX11_placeOf_55 : decode cX11_placeOf 55 = .ok (.istore_n 3, 1) := by decide +kernel
theorem dX11_placeOf_56 : decode cX11_placeOf 56 = .ok (.iinc 4 1, 3) := by decide +kernel
theorem dX11_placeOf_59 : decode cX11_placeOf 59 = .ok (.goto (-54), 3) := by decide +kernel
theorem dX11_placeOf_62 : decode cX11_placeOf 62 = .ok (.iconst (-1), 1) := by decide +kernel
theorem dX11_placeOf_63 : decode cX11_placeOf 63 = .ok (.ireturn, 1) := by decide +kernel
theorem dX11_fillBy_0 : decode cX11_fillBy 0 = .ok (.aload_n 0, 1) := by decide +kernel
theorem dX11_fillBy_1 : decode cX11_fillBy 1 = .ok (.getfield 44, 3) := by decide +kernel
theorem dX11_fillBy_4 : decode cX11_fillBy 4 = .ok (.aload_n 0, 1) := by decide +kernel
theorem dX11_fillBy_5 : decode cX11_fillBy 5 = .ok (.getfield 47, 3) := by decide +kernel
theorem dX11_fillBy_8 : decode cX11_fillBy 8 = .ok (.iload_n 1, 1) := by decide +kernel
theorem dX11_fillBy_9 : decode cX11_fillBy 9 = .ok (.iaload, 1) := by decide +kernel
theorem dX11_fillBy_10 : decode cX11_fillBy 10 = .ok (.aload_n 0, 1) := by decide +kernel
theorem dX11_fillBy_11 : decode cX11_fillBy 11 = .ok (.iload_n 1, 1) := by decide +kernel
theorem dX11_fillBy_12 : decode cX11_fillBy 12 = .ok (.invokevirtual 176, 3) := by decide +kernel
theorem dX11_fillBy_15 : decode cX11_fillBy 15 = .ok (.invokestatic 179, 3) := by decide +kernel
theorem dX11_fillBy_18 : decode cX11_fillBy 18 = .ok (.aload_n 0, 1) := by decide +kernel
theorem dX11_fillBy_19 : decode cX11_fillBy 19 = .ok (.getfield 29, 3) := by decide +kernel
theorem dX11_fillBy_22 : decode cX11_fillBy 22 = .ok (.bipush 60, 2) := by decide +kernel
theorem dX11_fillBy_24 : decode cX11_fillBy 24 = .ok (.iload_n 2, 1) := by decide +kernel
theorem dX11_fillBy_25 : decode cX11_fillBy 25 = .ok (.imul, 1) := by decide +kernel
theorem dX11_fillBy_26 : decode cX11_fillBy 26 = .ok (.aload_n 0, 1) := by decide +kernel
theorem dX11_fillBy_27 : decode cX11_fillBy 27 = .ok (.getfield 32, 3) := by decide +kernel
theorem dX11_fillBy_30 : decode cX11_fillBy 30 = .ok (.iload_n 2, 1) := by decide +kernel
theorem dX11_fillBy_31 : decode cX11_fillBy 31 = .ok (.iaload, 1) := by decide +kernel
theorem dX11_fillBy_32 : decode cX11_fillBy 32 = .ok (.invokestatic 179, 3) := by decide +kernel
theorem dX11_fillBy_35 : decode cX11_fillBy 35 = .ok (.if_icmp .ne 7, 3) := by decide +kernel
theorem dX11_fillBy_38 : decode cX11_fillBy 38 = .ok (.iconst 1, 1) := by decide +kernel
theorem dX11_fillBy_39 : decode cX11_fillBy 39 = .ok (.goto 4, 3) := by decide +kernel
theorem dX11_fillBy_42 : decode cX11_fillBy 42 = .ok (.iconst 0, 1) := by decide +kernel
theorem dX11_fillBy_43 : decode cX11_fillBy 43 = .ok (.istore 4, 2) := by decide +kernel
theorem dX11_fillBy_45 : decode cX11_fillBy 45 = .ok (.aload_n 0, 1) := by decide +kernel
theorem dX11_fillBy_46 : decode cX11_fillBy 46 = .ok (.getfield 63, 3) := by decide +kernel
theorem dX11_fillBy_49 : decode cX11_fillBy 49 = .ok (.iload_n 1, 1) := by decide +kernel
theorem dX11_fillBy_50 : decode cX11_fillBy 50 = .ok (.aload_n 0, 1) := by decide +kernel
theorem dX11_fillBy_51 : decode cX11_fillBy 51 = .ok (.getfield 38, 3) := by decide +kernel
theorem dX11_fillBy_54 : decode cX11_fillBy 54 = .ok (.iload_n 2, 1) := by decide +kernel
theorem dX11_fillBy_55 : decode cX11_fillBy 55 = .ok (.iaload, 1) := by decide +kernel
theorem dX11_fillBy_56 : decode cX11_fillBy 56 = .ok (.iastore, 1) := by decide +kernel
theorem dX11_fillBy_57 : decode cX11_fillBy 57 = .ok (.iconst 0, 1) := by decide +kernel
theorem dX11_fillBy_58 : decode cX11_fillBy 58 = .ok (.istore 5, 2) := by decide +kernel
theorem dX11_fillBy_60 : decode cX11_fillBy 60 = .ok (.iload 5, 2) := by decide +kernel
theorem dX11_fillBy_62 : decode cX11_fillBy 62 = .ok (.aload_n 0, 1) := by decide +kernel
theorem dX11_fillBy_63 : decode cX11_fillBy 63 = .ok (.getfield 38, 3) := by decide +kernel
theorem dX11_fillBy_66 : decode cX11_fillBy 66 = .ok (.iload_n 2, 1) := by decide +kernel
theorem dX11_fillBy_67 : decode cX11_fillBy 67 = .ok (.iaload, 1) := by decide +kernel
theorem dX11_fillBy_68 : decode cX11_fillBy 68 = .ok (.if_icmp .ge 89, 3) := by decide +kernel
theorem dX11_fillBy_71 : decode cX11_fillBy 71 = .ok (.aload_n 0, 1) := by decide +kernel
theorem dX11_fillBy_72 : decode cX11_fillBy 72 = .ok (.getfield 35, 3) := by decide +kernel
theorem dX11_fillBy_75 : decode cX11_fillBy 75 = .ok (.bipush 60, 2) := by decide +kernel
theorem dX11_fillBy_77 : decode cX11_fillBy 77 = .ok (.iload_n 2, 1) := by decide +kernel
theorem dX11_fillBy_78 : decode cX11_fillBy 78 = .ok (.imul, 1) := by decide +kernel
theorem dX11_fillBy_79 : decode cX11_fillBy 79 = .ok (.iload 5, 2) := by decide +kernel
theorem dX11_fillBy_81 : decode cX11_fillBy 81 = .ok (.iadd, 1) := by decide +kernel
theorem dX11_fillBy_82 : decode cX11_fillBy 82 = .ok (.iaload, 1) := by decide +kernel
theorem dX11_fillBy_83 : decode cX11_fillBy 83 = .ok (.istore 6, 2) := by decide +kernel
theorem dX11_fillBy_85 : decode cX11_fillBy 85 = .ok (.iload 4, 2) := by decide +kernel
theorem dX11_fillBy_87 : decode cX11_fillBy 87 = .ok (.ifCond .eq 23, 3) := by decide +kernel
theorem dX11_fillBy_90 : decode cX11_fillBy 90 = .ok (.iload 6, 2) := by decide +kernel
theorem dX11_fillBy_92 : decode cX11_fillBy 92 = .ok (.sipush 10000, 3) := by decide +kernel
theorem dX11_fillBy_95 : decode cX11_fillBy 95 = .ok (.idiv, 1) := by decide +kernel
theorem dX11_fillBy_96 : decode cX11_fillBy 96 = .ok (.iconst 1, 1) := by decide +kernel
theorem dX11_fillBy_97 : decode cX11_fillBy 97 = .ok (.if_icmp .ne 13, 3) := by decide +kernel
theorem dX11_fillBy_100 : decode cX11_fillBy 100 = .ok (.aload_n 0, 1) := by decide +kernel
theorem dX11_fillBy_101 : decode cX11_fillBy 101 = .ok (.iload_n 2, 1) := by decide +kernel
theorem dX11_fillBy_102 : decode cX11_fillBy 102 = .ok (.iload 6, 2) := by decide +kernel
theorem dX11_fillBy_104 : decode cX11_fillBy 104 = .ok (.invokevirtual 183, 3) := by decide +kernel
theorem dX11_fillBy_107 : decode cX11_fillBy 107 = .ok (.goto 4, 3) := by decide +kernel
theorem dX11_fillBy_110 : decode cX11_fillBy 110 = .ok (.iconst (-1), 1) := by decide +kernel
theorem dX11_fillBy_111 : decode cX11_fillBy 111 = .ok (.istore 7, 2) := by decide +kernel
theorem dX11_fillBy_113 : decode cX11_fillBy 113 = .ok (.aload_n 0, 1) := by decide +kernel
theorem dX11_fillBy_114 : decode cX11_fillBy 114 = .ok (.getfield 60, 3) := by decide +kernel
theorem dX11_fillBy_117 : decode cX11_fillBy 117 = .ok (.bipush 60, 2) := by decide +kernel
theorem dX11_fillBy_119 : decode cX11_fillBy 119 = .ok (.iload_n 1, 1) := by decide +kernel
theorem dX11_fillBy_120 : decode cX11_fillBy 120 = .ok (.imul, 1) := by decide +kernel
theorem dX11_fillBy_121 : decode cX11_fillBy 121 = .ok (.iload 5, 2) := by decide +kernel
theorem dX11_fillBy_123 : decode cX11_fillBy 123 = .ok (.iadd, 1) := by decide +kernel
theorem dX11_fillBy_124 : decode cX11_fillBy 124 = .ok (.iload 7, 2) := by decide +kernel
theorem dX11_fillBy_126 : decode cX11_fillBy 126 = .ok (.iconst (-1), 1) := by decide +kernel
theorem dX11_fillBy_127 : decode cX11_fillBy 127 = .ok (.if_icmp .ne 8, 3) := by decide +kernel
theorem dX11_fillBy_130 : decode cX11_fillBy 130 = .ok (.iload 6, 2) := by decide +kernel
theorem dX11_fillBy_132 : decode cX11_fillBy 132 = .ok (.goto 18, 3) := by decide +kernel
theorem dX11_fillBy_135 : decode cX11_fillBy 135 = .ok (.aload_n 0, 1) := by decide +kernel
theorem dX11_fillBy_136 : decode cX11_fillBy 136 = .ok (.getfield 44, 3) := by decide +kernel
theorem dX11_fillBy_139 : decode cX11_fillBy 139 = .ok (.aload_n 0, 1) := by decide +kernel
theorem dX11_fillBy_140 : decode cX11_fillBy 140 = .ok (.getfield 47, 3) := by decide +kernel
theorem dX11_fillBy_143 : decode cX11_fillBy 143 = .ok (.iload_n 1, 1) := by decide +kernel
theorem dX11_fillBy_144 : decode cX11_fillBy 144 = .ok (.iaload, 1) := by decide +kernel
theorem dX11_fillBy_145 : decode cX11_fillBy 145 = .ok (.iload 7, 2) := by decide +kernel
theorem dX11_fillBy_147 : decode cX11_fillBy 147 = .ok (.invokestatic 186, 3) := by decide +kernel
theorem dX11_fillBy_150 : decode cX11_fillBy 150 = .ok (.iastore, 1) := by decide +kernel
theorem dX11_fillBy_151 : decode cX11_fillBy 151 = .ok (.iinc 5 1, 3) := by decide +kernel
theorem dX11_fillBy_154 : decode cX11_fillBy 154 = .ok (.goto (-94), 3) := by decide +kernel
theorem dX11_fillBy_157 : decode cX11_fillBy 157 = .ok (.aload_n 0, 1) := by decide +kernel
theorem dX11_fillBy_158 : decode cX11_fillBy 158 = .ok (.getfield 50, 3) := by decide +kernel
theorem dX11_fillBy_161 : decode cX11_fillBy 161 = .ok (.iload_n 1, 1) := by decide +kernel
theorem dX11_fillBy_162 : decode cX11_fillBy 162 = .ok (.iload_n 3, 1) := by decide +kernel
theorem dX11_fillBy_163 : decode cX11_fillBy 163 = .ok (.bipush 100, 2) := by decide +kernel
theorem dX11_fillBy_165 : decode cX11_fillBy 165 = .ok (.if_icmp .ne 8, 3) := by decide +kernel
theorem dX11_fillBy_168 : decode cX11_fillBy 168 = .ok (.bipush 120, 2) := by decide +kernel
theorem dX11_fillBy_170 : decode cX11_fillBy 170 = .ok (.goto 5, 3) := by decide +kernel
theorem dX11_fillBy_173 : decode cX11_fillBy 173 = .ok (.bipush 102, 2) := by decide +kernel
theorem dX11_fillBy_175 : decode cX11_fillBy 175 = .ok (.castore, 1) := by decide +kernel
theorem dX11_fillBy_176 : decode cX11_fillBy 176 = .ok (.aload_n 0, 1) := by decide +kernel
theorem dX11_fillBy_177 : decode cX11_fillBy 177 = .ok (.getfield 54, 3) := by decide +kernel
theorem dX11_fillBy_180 : decode cX11_fillBy 180 = .ok (.iload_n 1, 1) := by decide +kernel
theorem dX11_fillBy_181 : decode cX11_fillBy 181 = .ok (.iload_n 2, 1) := by decide +kernel
theorem dX11_fillBy_182 : decode cX11_fillBy 182 = .ok (.iastore, 1) := by decide +kernel
theorem dX11_fillBy_183 : decode cX11_fillBy 183 = .ok (.aload_n 0, 1) := by decide +kernel
theorem dX11_fillBy_184 : decode cX11_fillBy 184 = .ok (.getfield 57, 3) := by decide +kernel
theorem dX11_fillBy_187 : decode cX11_fillBy 187 = .ok (.iload_n 1, 1) := by decide +kernel
theorem dX11_fillBy_188 : decode cX11_fillBy 188 = .ok (.iload_n 3, 1) := by decide +kernel
theorem dX11_fillBy_189 : decode cX11_fillBy 189 = .ok (.iastore, 1) := by decide +kernel
theorem dX11_fillBy_190 : decode cX11_fillBy 190 = .ok (.return_, 1) := by decide +kernel
theorem dX11_fill_0 : decode cX11_fill 0 = .ok (.aload_n 0, 1) := by decide +kernel
theorem dX11_fill_1 : decode cX11_fill 1 = .ok (.iconst 0, 1) := by decide +kernel
theorem dX11_fill_2 : decode cX11_fill 2 = .ok (.putfield 78, 3) := by decide +kernel
theorem dX11_fill_5 : decode cX11_fill 5 = .ok (.aload_n 0, 1) := by decide +kernel
theorem dX11_fill_6 : decode cX11_fill 6 = .ok (.iload_n 1, 1) := by decide +kernel
theorem dX11_fill_7 : decode cX11_fill 7 = .ok (.iconst 1, 1) := by decide +kernel
theorem dX11_fill_8 : decode cX11_fill 8 = .ok (.bipush 100, 2) := by decide +kernel
theorem dX11_fill_10 : decode cX11_fill 10 = .ok (.invokestatic 89, 3) := by decide +kernel
theorem dX11_fill_13 : decode cX11_fill 13 = .ok (.ifCond .ne 7, 3) := by decide +kernel
theorem dX11_fill_16 : decode cX11_fill 16 = .ok (.iconst 1, 1) := by decide +kernel
theorem dX11_fill_17 : decode cX11_fill 17 = .ok (.goto 4, 3) := by decide +kernel
theorem dX11_fill_20 : decode cX11_fill 20 = .ok (.iconst 0, 1) := by decide +kernel
theorem dX11_fill_21 : decode cX11_fill 21 = .ok (.iconst 1, 1) := by decide +kernel
theorem dX11_fill_22 : decode cX11_fill 22 = .ok (.invokevirtual 82, 3) := by decide +kernel
theorem dX11_fill_25 : decode cX11_fill 25 = .ok (.ifCond .eq 5, 3) := by decide +kernel
theorem dX11_fill_28 : decode cX11_fill 28 = .ok (.iconst 0, 1) := by decide +kernel
theorem dX11_fill_29 : decode cX11_fill 29 = .ok (.ireturn, 1) := by decide +kernel
theorem dX11_fill_30 : decode cX11_fill 30 = .ok (.iconst 0, 1) := by decide +kernel
theorem dX11_fill_31 : decode cX11_fill 31 = .ok (.istore_n 2, 1) := by decide +kernel
theorem dX11_fill_32 : decode cX11_fill 32 = .ok (.iconst 0, 1) := by decide +kernel
theorem dX11_fill_33 : decode cX11_fill 33 = .ok (.istore_n 3, 1) := by decide +kernel
theorem dX11_fill_34 : decode cX11_fill 34 = .ok (.iload_n 3, 1) := by decide +kernel
theorem dX11_fill_35 : decode cX11_fill 35 = .ok (.aload_n 0, 1) := by decide +kernel
theorem dX11_fill_36 : decode cX11_fill 36 = .ok (.getfield 169, 3) := by decide +kernel
theorem dX11_fill_39 : decode cX11_fill 39 = .ok (.if_icmp .ge 175, 3) := by decide +kernel
theorem dX11_fill_42 : decode cX11_fill 42 = .ok (.aload_n 0, 1) := by decide +kernel
theorem dX11_fill_43 : decode cX11_fill 43 = .ok (.getfield 50, 3) := by decide +kernel
theorem dX11_fill_46 : decode cX11_fill 46 = .ok (.iload_n 3, 1) := by decide +kernel
theorem dX11_fill_47 : decode cX11_fill 47 = .ok (.caload, 1) := by decide +kernel
theorem dX11_fill_48 : decode cX11_fill 48 = .ok (.bipush 101, 2) := by decide +kernel
theorem dX11_fill_50 : decode cX11_fill 50 = .ok (.if_icmp .ne 158, 3) := by decide +kernel
theorem dX11_fill_53 : decode cX11_fill 53 = .ok (.iconst (-1), 1) := by decide +kernel
theorem dX11_fill_54 : decode cX11_fill 54 = .ok (.istore 4, 2) := by decide +kernel
theorem dX11_fill_56 : decode cX11_fill 56 = .ok (.iload_n 3, 1) := by decide +kernel
theorem dX11_fill_57 : decode cX11_fill 57 = .ok (.iconst 1, 1) := by decide +kernel
theorem dX11_fill_58 : decode cX11_fill 58 = .ok (.isub, 1) := by decide +kernel
theorem dX11_fill_59 : decode cX11_fill 59 = .ok (.istore 5, 2) := by decide +kernel
theorem dX11_fill_61 : decode cX11_fill 61 = .ok (.iload 5, 2) := by decide +kernel
theorem dX11_fill_63 : decode cX11_fill 63 = .ok (.ifCond .lt 40, 3) := by decide +kernel
theorem dX11_fill_66 : decode cX11_fill 66 = .ok (.aload_n 0, 1) := by decide +kernel
theorem dX11_fill_67 : decode cX11_fill 67 = .ok (.getfield 50, 3) := by decide +kernel
theorem dX11_fill_70 : decode cX11_fill 70 = .ok (.iload 5, 2) := by decide +kernel
theorem dX11_fill_72 : decode cX11_fill 72 = .ok (.caload, 1) := by decide +kernel
theorem dX11_fill_73 : decode cX11_fill 73 = .ok (.bipush 101, 2) := by decide +kernel
theorem dX11_fill_75 : decode cX11_fill 75 = .ok (.if_icmp .eq 18, 3) := by decide +kernel
theorem dX11_fill_78 : decode cX11_fill 78 = .ok (.aload_n 0, 1) := by decide +kernel
theorem dX11_fill_79 : decode cX11_fill 79 = .ok (.iload 5, 2) := by decide +kernel
theorem dX11_fill_81 : decode cX11_fill 81 = .ok (.iload_n 3, 1) := by decide +kernel
theorem dX11_fill_82 : decode cX11_fill 82 = .ok (.invokevirtual 189, 3) := by decide +kernel
theorem dX11_fill_85 : decode cX11_fill 85 = .ok (.ifCond .eq 8, 3) := by decide +kernel
theorem dX11_fill_88 : decode cX11_fill 88 = .ok (.iload 5, 2) := by decide +kernel
theorem dX11_fill_90 : decode cX11_fill 90 = .ok (.goto 5, 3) := by decide +kernel
theorem dX11_fill_93 : decode cX11_fill 93 = .ok (.iload 4, 2) := by decide +kernel
theorem dX11_fill_95 : decode cX11_fill 95 = .ok (.istore 4, 2) := by decide +kernel
theorem dX11_fill_97 : decode cX11_fill 97 = .ok (.iinc 5 (-1), 3) := by decide +kernel
theorem dX11_fill_100 : decode cX11_fill 100 = .ok (.goto (-39), 3) := by decide +kernel
theorem dX11_fill_103 : decode cX11_fill 103 = .ok (.aload_n 0, 1) := by decide +kernel
theorem dX11_fill_104 : decode cX11_fill 104 = .ok (.iload_n 3, 1) := by decide +kernel
theorem dX11_fill_105 : decode cX11_fill 105 = .ok (.invokevirtual 192, 3) := by decide +kernel
theorem dX11_fill_108 : decode cX11_fill 108 = .ok (.iload 4, 2) := by decide +kernel
theorem dX11_fill_110 : decode cX11_fill 110 = .ok (.iconst (-1), 1) := by decide +kernel
theorem dX11_fill_111 : decode cX11_fill 111 = .ok (.if_icmp .ne 10, 3) := by decide +kernel
theorem dX11_fill_114 : decode cX11_fill 114 = .ok (.aload_n 0, 1) := by decide +kernel
theorem dX11_fill_115 : decode cX11_fill 115 = .ok (.invokevirtual 158, 3) := by decide +kernel
theorem dX11_fill_118 : decode cX11_fill 118 = .ok (.goto 4, 3) := by decide +kernel
theorem dX11_fill_121 : decode cX11_fill 121 = .ok (.iconst (-1), 1) := by decide +kernel
theorem dX11_fill_122 : decode cX11_fill 122 = .ok (.istore 5, 2) := by decide +kernel
theorem dX11_fill_124 : decode cX11_fill 124 = .ok (.iload 5, 2) := by decide +kernel
theorem dX11_fill_126 : decode cX11_fill 126 = .ok (.iconst (-1), 1) := by decide +kernel
theorem dX11_fill_127 : decode cX11_fill 127 = .ok (.if_icmp .ne 7, 3) := by decide +kernel
theorem dX11_fill_130 : decode cX11_fill 130 = .ok (.iconst 0, 1) := by decide +kernel
theorem dX11_fill_131 : decode cX11_fill 131 = .ok (.goto 19, 3) := by decide +kernel
theorem dX11_fill_134 : decode cX11_fill 134 = .ok (.aload_n 0, 1) := by decide +kernel
theorem dX11_fill_135 : decode cX11_fill 135 = .ok (.aload_n 0, 1) := by decide +kernel
theorem dX11_fill_136 : decode cX11_fill 136 = .ok (.iload 5, 2) := by decide +kernel
theorem dX11_fill_138 : decode cX11_fill 138 = .ok (.invokevirtual 132, 3) := by decide +kernel
theorem dX11_fill_141 : decode cX11_fill 141 = .ok (.aload_n 0, 1) := by decide +kernel
theorem dX11_fill_142 : decode cX11_fill 142 = .ok (.iload 5, 2) := by decide +kernel
theorem dX11_fill_144 : decode cX11_fill 144 = .ok (.invokevirtual 135, 3) := by decide +kernel
theorem dX11_fill_147 : decode cX11_fill 147 = .ok (.invokevirtual 138, 3) := by decide +kernel
theorem dX11_fill_150 : decode cX11_fill 150 = .ok (.istore 6, 2) := by decide +kernel
theorem dX11_fill_152 : decode cX11_fill 152 = .ok (.iload 4, 2) := by decide +kernel
theorem dX11_fill_154 : decode cX11_fill 154 = .ok (.iconst (-1), 1) := by decide +kernel
theorem dX11_fill_155 : decode cX11_fill 155 = .ok (.if_icmp .eq 13, 3) := by decide +kernel
theorem dX11_fill_158 : decode cX11_fill 158 = .ok (.aload_n 0, 1) := by decide +kernel
theorem dX11_fill_159 : decode cX11_fill 159 = .ok (.iload_n 3, 1) := by decide +kernel
theorem dX11_fill_160 : decode cX11_fill 160 = .ok (.iload 4, 2) := by decide +kernel
theorem dX11_fill_162 : decode cX11_fill 162 = .ok (.invokevirtual 195, 3) := by decide +kernel
theorem dX11_fill_165 : decode cX11_fill 165 = .ok (.goto 24, 3) := by decide +kernel
theorem dX11_fill_168 : decode cX11_fill 168 = .ok (.iload 5, 2) := by decide +kernel
theorem dX11_fill_170 : decode cX11_fill 170 = .ok (.iconst (-1), 1) := by decide +kernel
theorem dX11_fill_171 : decode cX11_fill 171 = .ok (.if_icmp .eq 18, 3) := by decide +kernel
theorem dX11_fill_174 : decode cX11_fill 174 = .ok (.iload 6, 2) := by decide +kernel
theorem dX11_fill_176 : decode cX11_fill 176 = .ok (.iload_n 1, 1) := by decide +kernel
theorem dX11_fill_177 : decode cX11_fill 177 = .ok (.if_icmp .lt 12, 3) := by decide +kernel
theorem dX11_fill_180 : decode cX11_fill 180 = .ok (.aload_n 0, 1) := by decide +kernel
theorem dX11_fill_181 : decode cX11_fill 181 = .ok (.iload_n 3, 1) := by decide +kernel
theorem dX11_fill_182 : decode cX11_fill 182 = .ok (.iload 5, 2) := by decide +kernel
theorem dX11_fill_184 : decode cX11_fill 184 = .ok (.iload 6, 2) := by decide +kernel
theorem dX11_fill_186 : decode cX11_fill 186 = .ok (.invokevirtual 199, 3) := by decide +kernel
theorem dX11_fill_189 : decode cX11_fill 189 = .ok (.iload_n 2, 1) := by decide +kernel
theorem dX11_fill_190 : decode cX11_fill 190 = .ok (.aload_n 0, 1) := by decide +kernel
theorem dX11_fill_191 : decode cX11_fill 191 = .ok (.getfield 50, 3) := by decide +kernel
theorem dX11_fill_194 : decode cX11_fill 194 = .ok (.iload_n 3, 1) := by decide +kernel
theorem dX11_fill_195 : decode cX11_fill 195 = .ok (.caload, 1) := by decide +kernel
theorem dX11_fill_196 : decode cX11_fill 196 = .ok (.bipush 101, 2) := by decide +kernel
theorem dX11_fill_198 : decode cX11_fill 198 = .ok (.if_icmp .ne 7, 3) := by decide +kernel
theorem dX11_fill_201 : decode cX11_fill 201 = .ok (.iconst 0, 1) := by decide +kernel
theorem dX11_fill_202 : decode cX11_fill 202 = .ok (.goto 4, 3) := by decide +kernel
theorem dX11_fill_205 : decode cX11_fill 205 = .ok (.iconst 1, 1) := by decide +kernel
theorem dX11_fill_206 : decode cX11_fill 206 = .ok (.iadd, 1) := by decide +kernel
theorem dX11_fill_207 : decode cX11_fill 207 = .ok (.istore_n 2, 1) := by decide +kernel
theorem dX11_fill_208 : decode cX11_fill 208 = .ok (.iinc 3 1, 3) := by decide +kernel
theorem dX11_fill_211 : decode cX11_fill 211 = .ok (.goto (-177), 3) := by decide +kernel
theorem dX11_fill_214 : decode cX11_fill 214 = .ok (.iload_n 2, 1) := by decide +kernel
theorem dX11_fill_215 : decode cX11_fill 215 = .ok (.ireturn, 1) := by decide +kernel
theorem dX11_noSegment_0 : decode cX11_noSegment 0 = .ok (.iload_n 1, 1) := by decide +kernel
theorem dX11_noSegment_1 : decode cX11_noSegment 1 = .ok (.iconst 0, 1) := by decide +kernel
theorem dX11_noSegment_2 : decode cX11_noSegment 2 = .ok (.aload_n 0, 1) := by decide +kernel
theorem dX11_noSegment_3 : decode cX11_noSegment 3 = .ok (.getfield 169, 3) := by decide +kernel
theorem dX11_noSegment_6 : decode cX11_noSegment 6 = .ok (.iconst 1, 1) := by decide +kernel
theorem dX11_noSegment_7 : decode cX11_noSegment 7 = .ok (.isub, 1) := by decide +kernel
theorem dX11_noSegment_8 : decode cX11_noSegment 8 = .ok (.invokestatic 89, 3) := by decide +kernel
theorem dX11_noSegment_11 : decode cX11_noSegment 11 = .ok (.ifCond .ne 7, 3) := by decide +kernel
theorem dX11_noSegment_14 : decode cX11_noSegment 14 = .ok (.iconst 1, 1) := by decide +kernel
theorem dX11_noSegment_15 : decode cX11_noSegment 15 = .ok (.goto 4, 3) := by decide +kernel
theorem dX11_noSegment_18 : decode cX11_noSegment 18 = .ok (.iconst 0, 1) := by decide +kernel
theorem dX11_noSegment_19 : decode cX11_noSegment 19 = .ok (.ireturn, 1) := by decide +kernel
theorem dX11_answer_0 : decode cX11_answer 0 = .ok (.aload_n 0, 1) := by decide +kernel
theorem dX11_answer_1 : decode cX11_answer 1 = .ok (.iconst 0, 1) := by decide +kernel
theorem dX11_answer_2 : decode cX11_answer 2 = .ok (.putfield 78, 3) := by decide +kernel
theorem dX11_answer_5 : decode cX11_answer 5 = .ok (.aload_n 0, 1) := by decide +kernel
theorem dX11_answer_6 : decode cX11_answer 6 = .ok (.aload_n 0, 1) := by decide +kernel
theorem dX11_answer_7 : decode cX11_answer 7 = .ok (.iload_n 1, 1) := by decide +kernel
theorem dX11_answer_8 : decode cX11_answer 8 = .ok (.invokevirtual 203, 3) := by decide +kernel
theorem dX11_answer_11 : decode cX11_answer 11 = .ok (.iconst 1, 1) := by decide +kernel
theorem dX11_answer_12 : decode cX11_answer 12 = .ok (.invokevirtual 82, 3) := by decide +kernel
theorem dX11_answer_15 : decode cX11_answer 15 = .ok (.ifCond .ne 32, 3) := by decide +kernel
theorem dX11_answer_18 : decode cX11_answer 18 = .ok (.aload_n 0, 1) := by decide +kernel
theorem dX11_answer_19 : decode cX11_answer 19 = .ok (.aload_n 0, 1) := by decide +kernel
theorem dX11_answer_20 : decode cX11_answer 20 = .ok (.getfield 86, 3) := by decide +kernel
theorem dX11_answer_23 : decode cX11_answer 23 = .ok (.ifCond .eq 12, 3) := by decide +kernel
theorem dX11_answer_26 : decode cX11_answer 26 = .ok (.aload_n 0, 1) := by decide +kernel
theorem dX11_answer_27 : decode cX11_answer 27 = .ok (.getfield 103, 3) := by decide +kernel
theorem dX11_answer_30 : decode cX11_answer 30 = .ok (.bipush 40, 2) := by decide +kernel
theorem dX11_answer_32 : decode cX11_answer 32 = .ok (.if_icmp .ne 7, 3) := by decide +kernel
theorem dX11_answer_35 : decode cX11_answer 35 = .ok (.iconst 1, 1) := by decide +kernel
theorem dX11_answer_36 : decode cX11_answer 36 = .ok (.goto 4, 3) := by decide +kernel
theorem dX11_answer_39 : decode cX11_answer 39 = .ok (.iconst 0, 1) := by decide +kernel
theorem dX11_answer_40 : decode cX11_answer 40 = .ok (.iconst 2, 1) := by decide +kernel
theorem dX11_answer_41 : decode cX11_answer 41 = .ok (.invokevirtual 82, 3) := by decide +kernel
theorem dX11_answer_44 : decode cX11_answer 44 = .ok (.ifCond .eq 5, 3) := by decide +kernel
theorem dX11_answer_47 : decode cX11_answer 47 = .ok (.iconst 0, 1) := by decide +kernel
theorem dX11_answer_48 : decode cX11_answer 48 = .ok (.ireturn, 1) := by decide +kernel
theorem dX11_answer_49 : decode cX11_answer 49 = .ok (.aload_n 0, 1) := by decide +kernel
theorem dX11_answer_50 : decode cX11_answer 50 = .ok (.getfield 50, 3) := by decide +kernel
theorem dX11_answer_53 : decode cX11_answer 53 = .ok (.iload_n 1, 1) := by decide +kernel
theorem dX11_answer_54 : decode cX11_answer 54 = .ok (.bipush 97, 2) := by decide +kernel
theorem dX11_answer_56 : decode cX11_answer 56 = .ok (.castore, 1) := by decide +kernel
theorem dX11_answer_57 : decode cX11_answer 57 = .ok (.aload_n 0, 1) := by decide +kernel
theorem dX11_answer_58 : decode cX11_answer 58 = .ok (.getfield 63, 3) := by decide +kernel
theorem dX11_answer_61 : decode cX11_answer 61 = .ok (.iload_n 1, 1) := by decide +kernel
theorem dX11_answer_62 : decode cX11_answer 62 = .ok (.aload_n 0, 1) := by decide +kernel
theorem dX11_answer_63 : decode cX11_answer 63 = .ok (.getfield 86, 3) := by decide +kernel
theorem dX11_answer_66 : decode cX11_answer 66 = .ok (.iastore, 1) := by decide +kernel
theorem dX11_answer_67 : decode cX11_answer 67 = .ok (.iconst 0, 1) := by decide +kernel
theorem dX11_answer_68 : decode cX11_answer 68 = .ok (.istore_n 2, 1) := by decide +kernel
theorem dX11_answer_69 : decode cX11_answer 69 = .ok (.iload_n 2, 1) := by decide +kernel
theorem dX11_answer_70 : decode cX11_answer 70 = .ok (.aload_n 0, 1) := by decide +kernel
theorem dX11_answer_71 : decode cX11_answer 71 = .ok (.getfield 86, 3) := by decide +kernel
theorem dX11_answer_74 : decode cX11_answer 74 = .ok (.if_icmp .ge 26, 3) := by decide +kernel
theorem dX11_answer_77 : decode cX11_answer 77 = .ok (.aload_n 0, 1) := by decide +kernel
theorem dX11_answer_78 : decode cX11_answer 78 = .ok (.getfield 60, 3) := by decide +kernel
theorem dX11_answer_81 : decode cX11_answer 81 = .ok (.bipush 60, 2) := by decide +kernel
theorem dX11_answer_83 : decode cX11_answer 83 = .ok (.iload_n 1, 1) := by decide +kernel
theorem dX11_answer_84 : decode cX11_answer 84 = .ok (.imul, 1) := by decide +kernel
theorem dX11_answer_85 : decode cX11_answer 85 = .ok (.iload_n 2, 1) := by decide +kernel
theorem dX11_answer_86 : decode cX11_answer 86 = .ok (.iadd, 1) := by decide +kernel
theorem dX11_answer_87 : decode cX11_answer 87 = .ok (.aload_n 0, 1) := by decide +kernel
theorem dX11_answer_88 : decode cX11_answer 88 = .ok (.getfield 7, 3) := by decide +kernel
theorem dX11_answer_91 : decode cX11_answer 91 = .ok (.iload_n 2, 1) := by decide +kernel
theorem dX11_answer_92 : decode cX11_answer 92 = .ok (.iaload, 1) := by decide +kernel
theorem dX11_answer_93 : decode cX11_answer 93 = .ok (.iastore, 1) := by decide +kernel
theorem dX11_answer_94 : decode cX11_answer 94 = .ok (.iinc 2 1, 3) := by decide +kernel
theorem dX11_answer_97 : decode cX11_answer 97 = .ok (.goto (-28), 3) := by decide +kernel
theorem dX11_answer_100 : decode cX11_answer 100 = .ok (.iconst 0, 1) := by decide +kernel
theorem dX11_answer_101 : decode cX11_answer 101 = .ok (.istore_n 2, 1) := by decide +kernel
theorem dX11_answer_102 : decode cX11_answer 102 = .ok (.iload_n 2, 1) := by decide +kernel
theorem dX11_answer_103 : decode cX11_answer 103 = .ok (.aload_n 0, 1) := by decide +kernel
theorem dX11_answer_104 : decode cX11_answer 104 = .ok (.iload_n 1, 1) := by decide +kernel
theorem dX11_answer_105 : decode cX11_answer 105 = .ok (.invokevirtual 176, 3) := by decide +kernel
theorem dX11_answer_108 : decode cX11_answer 108 = .ok (.if_icmp .ge 36, 3) := by decide +kernel
theorem dX11_answer_111 : decode cX11_answer 111 = .ok (.aload_n 0, 1) := by decide +kernel
theorem dX11_answer_112 : decode cX11_answer 112 = .ok (.getfield 29, 3) := by decide +kernel
theorem dX11_answer_115 : decode cX11_answer 115 = .ok (.bipush 60, 2) := by decide +kernel
theorem dX11_answer_117 : decode cX11_answer 117 = .ok (.aload_n 0, 1) := by decide +kernel
theorem dX11_answer_118 : decode cX11_answer 118 = .ok (.getfield 103, 3) := by decide +kernel
theorem dX11_answer_121 : decode cX11_answer 121 = .ok (.imul, 1) := by decide +kernel
theorem dX11_answer_122 : decode cX11_answer 122 = .ok (.iload_n 2, 1) := by decide +kernel
theorem dX11_answer_123 : decode cX11_answer 123 = .ok (.iadd, 1) := by decide +kernel
theorem dX11_answer_124 : decode cX11_answer 124 = .ok (.aload_n 0, 1) := by decide +kernel
theorem dX11_answer_125 : decode cX11_answer 125 = .ok (.getfield 44, 3) := by decide +kernel
theorem dX11_answer_128 : decode cX11_answer 128 = .ok (.aload_n 0, 1) := by decide +kernel
theorem dX11_answer_129 : decode cX11_answer 129 = .ok (.getfield 47, 3) := by decide +kernel
theorem dX11_answer_132 : decode cX11_answer 132 = .ok (.iload_n 1, 1) := by decide +kernel
theorem dX11_answer_133 : decode cX11_answer 133 = .ok (.iaload, 1) := by decide +kernel
theorem dX11_answer_134 : decode cX11_answer 134 = .ok (.iload_n 2, 1) := by decide +kernel
theorem dX11_answer_135 : decode cX11_answer 135 = .ok (.iadd, 1) := by decide +kernel
theorem dX11_answer_136 : decode cX11_answer 136 = .ok (.iaload, 1) := by decide +kernel
theorem dX11_answer_137 : decode cX11_answer 137 = .ok (.iastore, 1) := by decide +kernel
theorem dX11_answer_138 : decode cX11_answer 138 = .ok (.iinc 2 1, 3) := by decide +kernel
theorem dX11_answer_141 : decode cX11_answer 141 = .ok (.goto (-39), 3) := by decide +kernel
theorem dX11_answer_144 : decode cX11_answer 144 = .ok (.aload_n 0, 1) := by decide +kernel
theorem dX11_answer_145 : decode cX11_answer 145 = .ok (.getfield 32, 3) := by decide +kernel
theorem dX11_answer_148 : decode cX11_answer 148 = .ok (.aload_n 0, 1) := by decide +kernel
theorem dX11_answer_149 : decode cX11_answer 149 = .ok (.getfield 103, 3) := by decide +kernel
theorem dX11_answer_152 : decode cX11_answer 152 = .ok (.aload_n 0, 1) := by decide +kernel
theorem dX11_answer_153 : decode cX11_answer 153 = .ok (.iload_n 1, 1) := by decide +kernel
theorem dX11_answer_154 : decode cX11_answer 154 = .ok (.invokevirtual 176, 3) := by decide +kernel
theorem dX11_answer_157 : decode cX11_answer 157 = .ok (.iastore, 1) := by decide +kernel
theorem dX11_answer_158 : decode cX11_answer 158 = .ok (.aload_n 0, 1) := by decide +kernel
theorem dX11_answer_159 : decode cX11_answer 159 = .ok (.aload_n 0, 1) := by decide +kernel
theorem dX11_answer_160 : decode cX11_answer 160 = .ok (.getfield 103, 3) := by decide +kernel
theorem dX11_answer_163 : decode cX11_answer 163 = .ok (.invokevirtual 106, 3) := by decide +kernel
theorem dX11_answer_166 : decode cX11_answer 166 = .ok (.aload_n 0, 1) := by decide +kernel
theorem dX11_answer_167 : decode cX11_answer 167 = .ok (.getfield 41, 3) := by decide +kernel
theorem dX11_answer_170 : decode cX11_answer 170 = .ok (.aload_n 0, 1) := by decide +kernel
theorem dX11_answer_171 : decode cX11_answer 171 = .ok (.getfield 103, 3) := by decide +kernel
theorem dX11_answer_174 : decode cX11_answer 174 = .ok (.iconst 1, 1) := by decide +kernel
theorem dX11_answer_175 : decode cX11_answer 175 = .ok (.bastore, 1) := by decide +kernel
theorem dX11_answer_176 : decode cX11_answer 176 = .ok (.aload_n 0, 1) := by decide +kernel
theorem dX11_answer_177 : decode cX11_answer 177 = .ok (.dup, 1) := by decide +kernel
theorem dX11_answer_178 : decode cX11_answer 178 = .ok (.getfield 103, 3) := by decide +kernel
theorem dX11_answer_181 : decode cX11_answer 181 = .ok (.iconst 1, 1) := by decide +kernel
theorem dX11_answer_182 : decode cX11_answer 182 = .ok (.iadd, 1) := by decide +kernel
theorem dX11_answer_183 : decode cX11_answer 183 = .ok (.putfield 103, 3) := by decide +kernel
theorem dX11_answer_186 : decode cX11_answer 186 = .ok (.iconst 0, 1) := by decide +kernel
theorem dX11_answer_187 : decode cX11_answer 187 = .ok (.istore_n 2, 1) := by decide +kernel
theorem dX11_answer_188 : decode cX11_answer 188 = .ok (.iconst 0, 1) := by decide +kernel
theorem dX11_answer_189 : decode cX11_answer 189 = .ok (.istore_n 3, 1) := by decide +kernel
theorem dX11_answer_190 : decode cX11_answer 190 = .ok (.iload_n 3, 1) := by decide +kernel
theorem dX11_answer_191 : decode cX11_answer 191 = .ok (.aload_n 0, 1) := by decide +kernel
theorem dX11_answer_192 : decode cX11_answer 192 = .ok (.getfield 169, 3) := by decide +kernel
theorem dX11_answer_195 : decode cX11_answer 195 = .ok (.if_icmp .ge 43, 3) := by decide +kernel
theorem dX11_answer_198 : decode cX11_answer 198 = .ok (.iload_n 3, 1) := by decide +kernel
theorem dX11_answer_199 : decode cX11_answer 199 = .ok (.iload_n 1, 1) := by decide +kernel
theorem dX11_answer_200 : decode cX11_answer 200 = .ok (.if_icmp .eq 32, 3) := by decide +kernel
theorem dX11_answer_203 : decode cX11_answer 203 = .ok (.aload_n 0, 1) := by decide +kernel
theorem dX11_answer_204 : decode cX11_answer 204 = .ok (.getfield 50, 3) := by decide +kernel
theorem dX11_answer_207 : decode cX11_answer 207 = .ok (.iload_n 3, 1) := by decide +kernel
theorem dX11_answer_208 : decode cX11_answer 208 = .ok (.caload, 1) := by decide +kernel
theorem dX11_answer_209 : decode cX11_answer 209 = .ok (.bipush 97, 2) := by decide +kernel
theorem dX11_answer_211 : decode cX11_answer 211 = .ok (.if_icmp .eq 21, 3) := by decide +kernel
theorem dX11_answer_214 : decode cX11_answer 214 = .ok (.aload_n 0, 1) := by decide +kernel
theorem dX11_answer_215 : decode cX11_answer 215 = .ok (.iload_n 3, 1) := by decide +kernel
theorem dX11_answer_216 : decode cX11_answer 216 = .ok (.iload_n 1, 1) := by decide +kernel
theorem dX11_answer_217 : decode cX11_answer 217 = .ok (.invokevirtual 189, 3) := by decide +kernel
theorem dX11_answer_220 : decode cX11_answer 220 = .ok (.ifCond .eq 12, 3) := by decide +kernel
theorem dX11_answer_223 : decode cX11_answer 223 = .ok (.aload_n 0, 1) := by decide +kernel
theorem dX11_answer_224 : decode cX11_answer 224 = .ok (.iload_n 3, 1) := by decide +kernel
theorem dX11_answer_225 : decode cX11_answer 225 = .ok (.iload_n 1, 1) := by decide +kernel
theorem dX11_answer_226 : decode cX11_answer 226 = .ok (.invokevirtual 195, 3) := by decide +kernel
theorem dX11_answer_229 : decode cX11_answer 229 = .ok (.iinc 2 1, 3) := by decide +kernel
theorem dX11_answer_232 : decode cX11_answer 232 = .ok (.iinc 3 1, 3) := by decide +kernel
theorem dX11_answer_235 : decode cX11_answer 235 = .ok (.goto (-45), 3) := by decide +kernel
theorem dX11_answer_238 : decode cX11_answer 238 = .ok (.iload_n 2, 1) := by decide +kernel
theorem dX11_answer_239 : decode cX11_answer 239 = .ok (.ireturn, 1) := by decide +kernel
theorem dX11_stateOf_0 : decode cX11_stateOf 0 = .ok (.aload_n 0, 1) := by decide +kernel
theorem dX11_stateOf_1 : decode cX11_stateOf 1 = .ok (.iconst 0, 1) := by decide +kernel
theorem dX11_stateOf_2 : decode cX11_stateOf 2 = .ok (.putfield 78, 3) := by decide +kernel
theorem dX11_stateOf_5 : decode cX11_stateOf 5 = .ok (.aload_n 0, 1) := by decide +kernel
theorem dX11_stateOf_6 : decode cX11_stateOf 6 = .ok (.aload_n 0, 1) := by decide +kernel
theorem dX11_stateOf_7 : decode cX11_stateOf 7 = .ok (.iload_n 1, 1) := by decide +kernel
theorem dX11_stateOf_8 : decode cX11_stateOf 8 = .ok (.invokevirtual 203, 3) := by decide +kernel
theorem dX11_stateOf_11 : decode cX11_stateOf 11 = .ok (.iconst 1, 1) := by decide +kernel
theorem dX11_stateOf_12 : decode cX11_stateOf 12 = .ok (.invokevirtual 82, 3) := by decide +kernel
theorem dX11_stateOf_15 : decode cX11_stateOf 15 = .ok (.ifCond .eq 7, 3) := by decide +kernel
theorem dX11_stateOf_18 : decode cX11_stateOf 18 = .ok (.iconst 0, 1) := by decide +kernel
theorem dX11_stateOf_19 : decode cX11_stateOf 19 = .ok (.goto 9, 3) := by decide +kernel
theorem dX11_stateOf_22 : decode cX11_stateOf 22 = .ok (.aload_n 0, 1) := by decide +kernel
theorem dX11_stateOf_23 : decode cX11_stateOf 23 = .ok (.getfield 50, 3) := by decide +kernel
theorem dX11_stateOf_26 : decode cX11_stateOf 26 = .ok (.iload_n 1, 1) := by decide +kernel
theorem dX11_stateOf_27 : decode cX11_stateOf 27 = .ok (.caload, 1) := by decide +kernel
theorem dX11_stateOf_28 : decode cX11_stateOf 28 = .ok (.ireturn, 1) := by decide +kernel
theorem dX11_isFilled_0 : decode cX11_isFilled 0 = .ok (.aload_n 0, 1) := by decide +kernel
theorem dX11_isFilled_1 : decode cX11_isFilled 1 = .ok (.getfield 50, 3) := by decide +kernel
theorem dX11_isFilled_4 : decode cX11_isFilled 4 = .ok (.iload_n 1, 1) := by decide +kernel
theorem dX11_isFilled_5 : decode cX11_isFilled 5 = .ok (.caload, 1) := by decide +kernel
theorem dX11_isFilled_6 : decode cX11_isFilled 6 = .ok (.bipush 120, 2) := by decide +kernel
theorem dX11_isFilled_8 : decode cX11_isFilled 8 = .ok (.if_icmp .eq 14, 3) := by decide +kernel
theorem dX11_isFilled_11 : decode cX11_isFilled 11 = .ok (.aload_n 0, 1) := by decide +kernel
theorem dX11_isFilled_12 : decode cX11_isFilled 12 = .ok (.getfield 50, 3) := by decide +kernel
theorem dX11_isFilled_15 : decode cX11_isFilled 15 = .ok (.iload_n 1, 1) := by decide +kernel
theorem dX11_isFilled_16 : decode cX11_isFilled 16 = .ok (.caload, 1) := by decide +kernel
theorem dX11_isFilled_17 : decode cX11_isFilled 17 = .ok (.bipush 102, 2) := by decide +kernel
theorem dX11_isFilled_19 : decode cX11_isFilled 19 = .ok (.if_icmp .ne 7, 3) := by decide +kernel
theorem dX11_isFilled_22 : decode cX11_isFilled 22 = .ok (.iconst 1, 1) := by decide +kernel
theorem dX11_isFilled_23 : decode cX11_isFilled 23 = .ok (.goto 4, 3) := by decide +kernel
theorem dX11_isFilled_26 : decode cX11_isFilled 26 = .ok (.iconst 0, 1) := by decide +kernel
theorem dX11_isFilled_27 : decode cX11_isFilled 27 = .ok (.ireturn, 1) := by decide +kernel
theorem dX11_unitOf_0 : decode cX11_unitOf 0 = .ok (.aload_n 0, 1) := by decide +kernel
theorem dX11_unitOf_1 : decode cX11_unitOf 1 = .ok (.iconst 0, 1) := by decide +kernel
theorem dX11_unitOf_2 : decode cX11_unitOf 2 = .ok (.putfield 78, 3) := by decide +kernel
theorem dX11_unitOf_5 : decode cX11_unitOf 5 = .ok (.aload_n 0, 1) := by decide +kernel
theorem dX11_unitOf_6 : decode cX11_unitOf 6 = .ok (.aload_n 0, 1) := by decide +kernel
theorem dX11_unitOf_7 : decode cX11_unitOf 7 = .ok (.iload_n 1, 1) := by decide +kernel
theorem dX11_unitOf_8 : decode cX11_unitOf 8 = .ok (.invokevirtual 203, 3) := by decide +kernel
theorem dX11_unitOf_11 : decode cX11_unitOf 11 = .ok (.iconst 1, 1) := by decide +kernel
theorem dX11_unitOf_12 : decode cX11_unitOf 12 = .ok (.invokevirtual 82, 3) := by decide +kernel
theorem dX11_unitOf_15 : decode cX11_unitOf 15 = .ok (.ifCond .ne 24, 3) := by decide +kernel
theorem dX11_unitOf_18 : decode cX11_unitOf 18 = .ok (.aload_n 0, 1) := by decide +kernel
theorem dX11_unitOf_19 : decode cX11_unitOf 19 = .ok (.aload_n 0, 1) := by decide +kernel
theorem dX11_unitOf_20 : decode cX11_unitOf 20 = .ok (.iload_n 1, 1) := by decide +kernel
theorem dX11_unitOf_21 : decode cX11_unitOf 21 = .ok (.invokevirtual 206, 3) := by decide +kernel
theorem dX11_unitOf_24 : decode cX11_unitOf 24 = .ok (.ifCond .ne 7, 3) := by decide +kernel
theorem dX11_unitOf_27 : decode cX11_unitOf 27 = .ok (.iconst 1, 1) := by decide +kernel
theorem dX11_unitOf_28 : decode cX11_unitOf 28 = .ok (.goto 4, 3) := by decide +kernel
theorem dX11_unitOf_31 : decode cX11_unitOf 31 = .ok (.iconst 0, 1) := by decide +kernel
theorem dX11_unitOf_32 : decode cX11_unitOf 32 = .ok (.iconst 2, 1) := by decide +kernel
theorem dX11_unitOf_33 : decode cX11_unitOf 33 = .ok (.invokevirtual 82, 3) := by decide +kernel
theorem dX11_unitOf_36 : decode cX11_unitOf 36 = .ok (.ifCond .eq 7, 3) := by decide +kernel
theorem dX11_unitOf_39 : decode cX11_unitOf 39 = .ok (.iconst 0, 1) := by decide +kernel
theorem dX11_unitOf_40 : decode cX11_unitOf 40 = .ok (.goto 9, 3) := by decide +kernel
theorem dX11_unitOf_43 : decode cX11_unitOf 43 = .ok (.aload_n 0, 1) := by decide +kernel
theorem dX11_unitOf_44 : decode cX11_unitOf 44 = .ok (.getfield 54, 3) := by decide +kernel
theorem dX11_unitOf_47 : decode cX11_unitOf 47 = .ok (.iload_n 1, 1) := by decide +kernel
theorem dX11_unitOf_48 : decode cX11_unitOf 48 = .ok (.iaload, 1) := by decide +kernel
theorem dX11_unitOf_49 : decode cX11_unitOf 49 = .ok (.ireturn, 1) := by decide +kernel
theorem dX11_scoreOf__0 : decode cX11_scoreOf_ 0 = .ok (.aload_n 0, 1) := by decide +kernel
theorem dX11_scoreOf__1 : decode cX11_scoreOf_ 1 = .ok (.iconst 0, 1) := by decide +kernel
theorem dX11_scoreOf__2 : decode cX11_scoreOf_ 2 = .ok (.putfield 78, 3) := by decide +kernel
theorem dX11_scoreOf__5 : decode cX11_scoreOf_ 5 = .ok (.aload_n 0, 1) := by decide +kernel
theorem dX11_scoreOf__6 : decode cX11_scoreOf_ 6 = .ok (.aload_n 0, 1) := by decide +kernel
theorem dX11_scoreOf__7 : decode cX11_scoreOf_ 7 = .ok (.iload_n 1, 1) := by decide +kernel
theorem dX11_scoreOf__8 : decode cX11_scoreOf_ 8 = .ok (.invokevirtual 203, 3) := by decide +kernel
theorem dX11_scoreOf__11 : decode cX11_scoreOf_ 11 = .ok (.iconst 1, 1) := by decide +kernel
theorem dX11_scoreOf__12 : decode cX11_scoreOf_ 12 = .ok (.invokevirtual 82, 3) := by decide +kernel
theorem dX11_scoreOf__15 : decode cX11_scoreOf_ 15 = .ok (.ifCond .ne 24, 3) := by decide +kernel
theorem dX11_scoreOf__18 : decode cX11_scoreOf_ 18 = .ok (.aload_n 0, 1) := by decide +kernel
theorem dX11_scoreOf__19 : decode cX11_scoreOf_ 19 = .ok (.aload_n 0, 1) := by decide +kernel
theorem dX11_scoreOf__20 : decode cX11_scoreOf_ 20 = .ok (.iload_n 1, 1) := by decide +kernel
theorem dX11_scoreOf__21 : decode cX11_scoreOf_ 21 = .ok (.invokevirtual 206, 3) := by decide +kernel
theorem dX11_scoreOf__24 : decode cX11_scoreOf_ 24 = .ok (.ifCond .ne 7, 3) := by decide +kernel
theorem dX11_scoreOf__27 : decode cX11_scoreOf_ 27 = .ok (.iconst 1, 1) := by decide +kernel
theorem dX11_scoreOf__28 : decode cX11_scoreOf_ 28 = .ok (.goto 4, 3) := by decide +kernel
theorem dX11_scoreOf__31 : decode cX11_scoreOf_ 31 = .ok (.iconst 0, 1) := by decide +kernel
theorem dX11_scoreOf__32 : decode cX11_scoreOf_ 32 = .ok (.iconst 2, 1) := by decide +kernel
theorem dX11_scoreOf__33 : decode cX11_scoreOf_ 33 = .ok (.invokevirtual 82, 3) := by decide +kernel
theorem dX11_scoreOf__36 : decode cX11_scoreOf_ 36 = .ok (.ifCond .eq 7, 3) := by decide +kernel
theorem dX11_scoreOf__39 : decode cX11_scoreOf_ 39 = .ok (.iconst 0, 1) := by decide +kernel
theorem dX11_scoreOf__40 : decode cX11_scoreOf_ 40 = .ok (.goto 9, 3) := by decide +kernel
theorem dX11_scoreOf__43 : decode cX11_scoreOf_ 43 = .ok (.aload_n 0, 1) := by decide +kernel
theorem dX11_scoreOf__44 : decode cX11_scoreOf_ 44 = .ok (.getfield 57, 3) := by decide +kernel
theorem dX11_scoreOf__47 : decode cX11_scoreOf_ 47 = .ok (.iload_n 1, 1) := by decide +kernel
theorem dX11_scoreOf__48 : decode cX11_scoreOf_ 48 = .ok (.iaload, 1) := by decide +kernel
theorem dX11_scoreOf__49 : decode cX11_scoreOf_ 49 = .ok (.ireturn, 1) := by decide +kernel
theorem dX11_segmentLength_0 : decode cX11_segmentLength 0 = .ok (.aload_n 0, 1) := by decide +kernel
theorem dX11_segmentLength_1 : decode cX11_segmentLength 1 = .ok (.iconst 0, 1) := by decide +kernel
theorem dX11_segmentLength_2 : decode cX11_segmentLength 2 = .ok (.putfield 78, 3) := by decide +kernel
theorem dX11_segmentLength_5 : decode cX11_segmentLength 5 = .ok (.aload_n 0, 1) := by decide +kernel
theorem dX11_segmentLength_6 : decode cX11_segmentLength 6 = .ok (.aload_n 0, 1) := by decide +kernel
theorem dX11_segmentLength_7 : decode cX11_segmentLength 7 = .ok (.iload_n 1, 1) := by decide +kernel
theorem dX11_segmentLength_8 : decode cX11_segmentLength 8 = .ok (.invokevirtual 203, 3) := by decide +kernel
theorem dX11_segmentLength_11 : decode cX11_segmentLength 11 = .ok (.iconst 1, 1) := by decide +kernel
theorem dX11_segmentLength_12 : decode cX11_segmentLength 12 = .ok (.invokevirtual 82, 3) := by decide +kernel
theorem dX11_segmentLength_15 : decode cX11_segmentLength 15 = .ok (.ifCond .eq 7, 3) := by decide +kernel
theorem dX11_segmentLength_18 : decode cX11_segmentLength 18 = .ok (.iconst 0, 1) := by decide +kernel
theorem dX11_segmentLength_19 : decode cX11_segmentLength 19 = .ok (.goto 8, 3) := by decide +kernel
theorem dX11_segmentLength_22 : decode cX11_segmentLength 22 = .ok (.aload_n 0, 1) := by decide +kernel
theorem dX11_segmentLength_23 : decode cX11_segmentLength 23 = .ok (.iload_n 1, 1) := by decide +kernel
theorem dX11_segmentLength_24 : decode cX11_segmentLength 24 = .ok (.invokevirtual 176, 3) := by decide +kernel
theorem dX11_segmentLength_27 : decode cX11_segmentLength 27 = .ok (.ireturn, 1) := by decide +kernel
theorem dX11_segmentToken_0 : decode cX11_segmentToken 0 = .ok (.aload_n 0, 1) := by decide +kernel
theorem dX11_segmentToken_1 : decode cX11_segmentToken 1 = .ok (.iconst 0, 1) := by decide +kernel
theorem dX11_segmentToken_2 : decode cX11_segmentToken 2 = .ok (.putfield 78, 3) := by decide +kernel
theorem dX11_segmentToken_5 : decode cX11_segmentToken 5 = .ok (.aload_n 0, 1) := by decide +kernel
theorem dX11_segmentToken_6 : decode cX11_segmentToken 6 = .ok (.aload_n 0, 1) := by decide +kernel
theorem dX11_segmentToken_7 : decode cX11_segmentToken 7 = .ok (.iload_n 1, 1) := by decide +kernel
theorem dX11_segmentToken_8 : decode cX11_segmentToken 8 = .ok (.invokevirtual 203, 3) := by decide +kernel
theorem dX11_segmentToken_11 : decode cX11_segmentToken 11 = .ok (.iconst 1, 1) := by decide +kernel
theorem dX11_segmentToken_12 : decode cX11_segmentToken 12 = .ok (.invokevirtual 82, 3) := by decide +kernel
theorem dX11_segmentToken_15 : decode cX11_segmentToken 15 = .ok (.ifCond .ne 31, 3) := by decide +kernel
theorem dX11_segmentToken_18 : decode cX11_segmentToken 18 = .ok (.aload_n 0, 1) := by decide +kernel
theorem dX11_segmentToken_19 : decode cX11_segmentToken 19 = .ok (.iload_n 2, 1) := by decide +kernel
theorem dX11_segmentToken_20 : decode cX11_segmentToken 20 = .ok (.iconst 0, 1) := by decide +kernel
theorem dX11_segmentToken_21 : decode cX11_segmentToken 21 = .ok (.aload_n 0, 1) := by decide +kernel
theorem dX11_segmentToken_22 : decode cX11_segmentToken 22 = .ok (.iload_n 1, 1) := by decide +kernel
theorem dX11_segmentToken_23 : decode cX11_segmentToken 23 = .ok (.invokevirtual 176, 3) := by decide +kernel
theorem dX11_segmentToken_26 : decode cX11_segmentToken 26 = .ok (.iconst 1, 1) := by decide +kernel
theorem dX11_segmentToken_27 : decode cX11_segmentToken 27 = .ok (.isub, 1) := by decide +kernel
theorem dX11_segmentToken_28 : decode cX11_segmentToken 28 = .ok (.invokestatic 89, 3) := by decide +kernel
theorem dX11_segmentToken_31 : decode cX11_segmentToken 31 = .ok (.ifCond .ne 7, 3) := by decide +kernel
theorem dX11_segmentToken_34 : decode cX11_segmentToken 34 = .ok (.iconst 1, 1) := by decide +kernel
theorem dX11_segmentToken_35 : decode cX11_segmentToken 35 = .ok (.goto 4, 3) := by decide +kernel
theorem dX11_segmentToken_38 : decode cX11_segmentToken 38 = .ok (.iconst 0, 1) := by decide +kernel
theorem dX11_segmentToken_39 : decode cX11_segmentToken 39 = .ok (.iconst 1, 1) := by decide +kernel
theorem dX11_segmentToken_40 : decode cX11_segmentToken 40 = .ok (.invokevirtual 82, 3) := by decide +kernel
theorem dX11_segmentToken_43 : decode cX11_segmentToken 43 = .ok (.ifCond .eq 7, 3) := by decide +kernel
theorem dX11_segmentToken_46 : decode cX11_segmentToken 46 = .ok (.iconst 0, 1) := by decide +kernel
theorem dX11_segmentToken_47 : decode cX11_segmentToken 47 = .ok (.goto 20, 3) := by decide +kernel
theorem dX11_segmentToken_50 : decode cX11_segmentToken 50 = .ok (.aload_n 0, 1) := by decide +kernel
theorem dX11_segmentToken_51 : decode cX11_segmentToken 51 = .ok (.getfield 44, 3) := by decide +kernel
theorem dX11_segmentToken_54 : decode cX11_segmentToken 54 = .ok (.aload_n 0, 1) := by decide +kernel
theorem dX11_segmentToken_55 : decode cX11_segmentToken 55 = .ok (.getfield 47, 3) := by decide +kernel
theorem dX11_segmentToken_58 : decode cX11_segmentToken 58 = .ok (.iload_n 1, 1) := by decide +kernel
theorem dX11_segmentToken_59 : decode cX11_segmentToken 59 = .ok (.iaload, 1) := by decide +kernel
theorem dX11_segmentToken_60 : decode cX11_segmentToken 60 = .ok (.iload_n 2, 1) := by decide +kernel
theorem dX11_segmentToken_61 : decode cX11_segmentToken 61 = .ok (.iadd, 1) := by decide +kernel
theorem dX11_segmentToken_62 : decode cX11_segmentToken 62 = .ok (.iaload, 1) := by decide +kernel
theorem dX11_segmentToken_63 : decode cX11_segmentToken 63 = .ok (.sipush 10000, 3) := by decide +kernel
theorem dX11_segmentToken_66 : decode cX11_segmentToken 66 = .ok (.irem, 1) := by decide +kernel
theorem dX11_segmentToken_67 : decode cX11_segmentToken 67 = .ok (.ireturn, 1) := by decide +kernel
theorem dX11_targetLength_0 : decode cX11_targetLength 0 = .ok (.aload_n 0, 1) := by decide +kernel
theorem dX11_targetLength_1 : decode cX11_targetLength 1 = .ok (.iconst 0, 1) := by decide +kernel
theorem dX11_targetLength_2 : decode cX11_targetLength 2 = .ok (.putfield 78, 3) := by decide +kernel
theorem dX11_targetLength_5 : decode cX11_targetLength 5 = .ok (.aload_n 0, 1) := by decide +kernel
theorem dX11_targetLength_6 : decode cX11_targetLength 6 = .ok (.aload_n 0, 1) := by decide +kernel
theorem dX11_targetLength_7 : decode cX11_targetLength 7 = .ok (.iload_n 1, 1) := by decide +kernel
theorem dX11_targetLength_8 : decode cX11_targetLength 8 = .ok (.invokevirtual 203, 3) := by decide +kernel
theorem dX11_targetLength_11 : decode cX11_targetLength 11 = .ok (.iconst 1, 1) := by decide +kernel
theorem dX11_targetLength_12 : decode cX11_targetLength 12 = .ok (.invokevirtual 82, 3) := by decide +kernel
theorem dX11_targetLength_15 : decode cX11_targetLength 15 = .ok (.ifCond .ne 27, 3) := by decide +kernel
theorem dX11_targetLength_18 : decode cX11_targetLength 18 = .ok (.aload_n 0, 1) := by decide +kernel
theorem dX11_targetLength_19 : decode cX11_targetLength 19 = .ok (.aload_n 0, 1) := by decide +kernel
theorem dX11_targetLength_20 : decode cX11_targetLength 20 = .ok (.getfield 50, 3) := by decide +kernel
theorem dX11_targetLength_23 : decode cX11_targetLength 23 = .ok (.iload_n 1, 1) := by decide +kernel
theorem dX11_targetLength_24 : decode cX11_targetLength 24 = .ok (.caload, 1) := by decide +kernel
theorem dX11_targetLength_25 : decode cX11_targetLength 25 = .ok (.bipush 101, 2) := by decide +kernel
theorem dX11_targetLength_27 : decode cX11_targetLength 27 = .ok (.if_icmp .ne 7, 3) := by decide +kernel
theorem dX11_targetLength_30 : decode cX11_targetLength 30 = .ok (.iconst 1, 1) := by decide +kernel
theorem dX11_targetLength_31 : decode cX11_targetLength 31 = .ok (.goto 4, 3) := by decide +kernel
theorem dX11_targetLength_34 : decode cX11_targetLength 34 = .ok (.iconst 0, 1) := by decide +kernel
theorem dX11_targetLength_35 : decode cX11_targetLength 35 = .ok (.iconst 2, 1) := by decide +kernel
theorem dX11_targetLength_36 : decode cX11_targetLength 36 = .ok (.invokevirtual 82, 3) := by decide +kernel
theorem dX11_targetLength_39 : decode cX11_targetLength 39 = .ok (.ifCond .eq 7, 3) := by decide +kernel
theorem dX11_targetLength_42 : decode cX11_targetLength 42 = .ok (.iconst 0, 1) := by decide +kernel
theorem dX11_targetLength_43 : decode cX11_targetLength 43 = .ok (.goto 9, 3) := by decide +kernel
theorem dX11_targetLength_46 : decode cX11_targetLength 46 = .ok (.aload_n 0, 1) := by decide +kernel
theorem dX11_targetLength_47 : decode cX11_targetLength 47 = .ok (.getfield 63, 3) := by decide +kernel
theorem dX11_targetLength_50 : decode cX11_targetLength 50 = .ok (.iload_n 1, 1) := by decide +kernel
theorem dX11_targetLength_51 : decode cX11_targetLength 51 = .ok (.iaload, 1) := by decide +kernel
theorem dX11_targetLength_52 : decode cX11_targetLength 52 = .ok (.ireturn, 1) := by decide +kernel
theorem dX11_hasToken_0 : decode cX11_hasToken 0 = .ok (.aload_n 0, 1) := by decide +kernel
theorem dX11_hasToken_1 : decode cX11_hasToken 1 = .ok (.iconst 0, 1) := by decide +kernel
theorem dX11_hasToken_2 : decode cX11_hasToken 2 = .ok (.putfield 78, 3) := by decide +kernel
theorem dX11_hasToken_5 : decode cX11_hasToken 5 = .ok (.aload_n 0, 1) := by decide +kernel
theorem dX11_hasToken_6 : decode cX11_hasToken 6 = .ok (.aload_n 0, 1) := by decide +kernel
theorem dX11_hasToken_7 : decode cX11_hasToken 7 = .ok (.iload_n 1, 1) := by decide +kernel
theorem dX11_hasToken_8 : decode cX11_hasToken 8 = .ok (.invokevirtual 203, 3) := by decide +kernel
theorem dX11_hasToken_11 : decode cX11_hasToken 11 = .ok (.iconst 1, 1) := by decide +kernel
theorem dX11_hasToken_12 : decode cX11_hasToken 12 = .ok (.invokevirtual 82, 3) := by decide +kernel
theorem dX11_hasToken_15 : decode cX11_hasToken 15 = .ok (.ifCond .ne 47, 3) := by decide +kernel
theorem dX11_hasToken_18 : decode cX11_hasToken 18 = .ok (.aload_n 0, 1) := by decide +kernel
theorem dX11_hasToken_19 : decode cX11_hasToken 19 = .ok (.aload_n 0, 1) := by decide +kernel
theorem dX11_hasToken_20 : decode cX11_hasToken 20 = .ok (.getfield 50, 3) := by decide +kernel
theorem dX11_hasToken_23 : decode cX11_hasToken 23 = .ok (.iload_n 1, 1) := by decide +kernel
theorem dX11_hasToken_24 : decode cX11_hasToken 24 = .ok (.caload, 1) := by decide +kernel
theorem dX11_hasToken_25 : decode cX11_hasToken 25 = .ok (.bipush 101, 2) := by decide +kernel
theorem dX11_hasToken_27 : decode cX11_hasToken 27 = .ok (.if_icmp .eq 19, 3) := by decide +kernel
theorem dX11_hasToken_30 : decode cX11_hasToken 30 = .ok (.iload_n 2, 1) := by decide +kernel
theorem dX11_hasToken_31 : decode cX11_hasToken 31 = .ok (.iconst 0, 1) := by decide +kernel
theorem dX11_hasToken_32 : decode cX11_hasToken 32 = .ok (.aload_n 0, 1) := by decide +kernel
theorem dX11_hasToken_33 : decode cX11_hasToken 33 = .ok (.getfield 63, 3) := by decide +kernel
theorem dX11_hasToken_36 : decode cX11_hasToken 36 = .ok (.iload_n 1, 1) := by decide +kernel
theorem dX11_hasToken_37 : decode cX11_hasToken 37 = .ok (.iaload, 1) := by decide +kernel
theorem dX11_hasToken_38 : decode cX11_hasToken 38 = .ok (.iconst 1, 1) := by decide +kernel
theorem dX11_hasToken_39 : decode cX11_hasToken 39 = .ok (.isub, 1) := by decide +kernel
theorem dX11_hasToken_40 : decode cX11_hasToken 40 = .ok (.invokestatic 89, 3) := by decide +kernel
theorem dX11_hasToken_43 : decode cX11_hasToken 43 = .ok (.ifCond .ne 7, 3) := by decide +kernel
theorem dX11_hasToken_46 : decode cX11_hasToken 46 = .ok (.iconst 1, 1) := by decide +kernel
theorem dX11_hasToken_47 : decode cX11_hasToken 47 = .ok (.goto 4, 3) := by decide +kernel
theorem dX11_hasToken_50 : decode cX11_hasToken 50 = .ok (.iconst 0, 1) := by decide +kernel
theorem dX11_hasToken_51 : decode cX11_hasToken 51 = .ok (.iconst 2, 1) := by decide +kernel
theorem dX11_hasToken_52 : decode cX11_hasToken 52 = .ok (.invokevirtual 82, 3) := by decide +kernel
theorem dX11_hasToken_55 : decode cX11_hasToken 55 = .ok (.ifCond .ne 7, 3) := by decide +kernel
theorem dX11_hasToken_58 : decode cX11_hasToken 58 = .ok (.iconst 1, 1) := by decide +kernel
theorem dX11_hasToken_59 : decode cX11_hasToken 59 = .ok (.goto 4, 3) := by decide +kernel
theorem dX11_hasToken_62 : decode cX11_hasToken 62 = .ok (.iconst 0, 1) := by decide +kernel
theorem dX11_hasToken_63 : decode cX11_hasToken 63 = .ok (.ireturn, 1) := by decide +kernel
theorem dX11_targetToken_0 : decode cX11_targetToken 0 = .ok (.aload_n 0, 1) := by decide +kernel
theorem dX11_targetToken_1 : decode cX11_targetToken 1 = .ok (.iload_n 1, 1) := by decide +kernel
theorem dX11_targetToken_2 : decode cX11_targetToken 2 = .ok (.iload_n 2, 1) := by decide +kernel
theorem dX11_targetToken_3 : decode cX11_targetToken 3 = .ok (.invokevirtual 209, 3) := by decide +kernel
theorem dX11_targetToken_6 : decode cX11_targetToken 6 = .ok (.ifCond .eq 21, 3) := by decide +kernel
theorem dX11_targetToken_9 : decode cX11_targetToken 9 = .ok (.aload_n 0, 1) := by decide +kernel
theorem dX11_targetToken_10 : decode cX11_targetToken 10 = .ok (.getfield 60, 3) := by decide +kernel
theorem dX11_targetToken_13 : decode cX11_targetToken 13 = .ok (.bipush 60, 2) := by decide +kernel
theorem dX11_targetToken_15 : decode cX11_targetToken 15 = .ok (.iload_n 1, 1) := by decide +kernel
theorem dX11_targetToken_16 : decode cX11_targetToken 16 = .ok (.imul, 1) := by decide +kernel
theorem dX11_targetToken_17 : decode cX11_targetToken 17 = .ok (.iload_n 2, 1) := by decide +kernel
theorem dX11_targetToken_18 : decode cX11_targetToken 18 = .ok (.iadd, 1) := by decide +kernel
theorem dX11_targetToken_19 : decode cX11_targetToken 19 = .ok (.iaload, 1) := by decide +kernel
theorem dX11_targetToken_20 : decode cX11_targetToken 20 = .ok (.sipush 10000, 3) := by decide +kernel
theorem dX11_targetToken_23 : decode cX11_targetToken 23 = .ok (.irem, 1) := by decide +kernel
theorem dX11_targetToken_24 : decode cX11_targetToken 24 = .ok (.goto 4, 3) := by decide +kernel
theorem dX11_targetToken_27 : decode cX11_targetToken 27 = .ok (.iconst 0, 1) := by decide +kernel
theorem dX11_targetToken_28 : decode cX11_targetToken 28 = .ok (.ireturn, 1) := by decide +kernel
theorem dX11_targetKind_0 : decode cX11_targetKind 0 = .ok (.aload_n 0, 1) := by decide +kernel
theorem dX11_targetKind_1 : decode cX11_targetKind 1 = .ok (.iload_n 1, 1) := by decide +kernel
theorem dX11_targetKind_2 : decode cX11_targetKind 2 = .ok (.iload_n 2, 1) := by decide +kernel
theorem dX11_targetKind_3 : decode cX11_targetKind 3 = .ok (.invokevirtual 209, 3) := by decide +kernel
theorem dX11_targetKind_6 : decode cX11_targetKind 6 = .ok (.ifCond .eq 21, 3) := by decide +kernel
theorem dX11_targetKind_9 : decode cX11_targetKind 9 = .ok (.aload_n 0, 1) := by decide +kernel
theorem dX11_targetKind_10 : decode cX11_targetKind 10 = .ok (.getfield 60, 3) := by decide +kernel
theorem dX11_targetKind_13 : decode cX11_targetKind 13 = .ok (.bipush 60, 2) := by decide +kernel
theorem dX11_targetKind_15 : decode cX11_targetKind 15 = .ok (.iload_n 1, 1) := by decide +kernel
theorem dX11_targetKind_16 : decode cX11_targetKind 16 = .ok (.imul, 1) := by decide +kernel
theorem dX11_targetKind_17 : decode cX11_targetKind 17 = .ok (.iload_n 2, 1) := by decide +kernel
theorem dX11_targetKind_18 : decode cX11_targetKind 18 = .ok (.iadd, 1) := by decide +kernel
theorem dX11_targetKind_19 : decode cX11_targetKind 19 = .ok (.iaload, 1) := by decide +kernel
theorem dX11_targetKind_20 : decode cX11_targetKind 20 = .ok (.sipush 10000, 3) := by decide +kernel
theorem dX11_targetKind_23 : decode cX11_targetKind 23 = .ok (.idiv, 1) := by decide +kernel
theorem dX11_targetKind_24 : decode cX11_targetKind 24 = .ok (.goto 4, 3) := by decide +kernel
theorem dX11_targetKind_27 : decode cX11_targetKind 27 = .ok (.iconst 3, 1) := by decide +kernel
theorem dX11_targetKind_28 : decode cX11_targetKind 28 = .ok (.istore_n 3, 1) := by decide +kernel
theorem dX11_targetKind_29 : decode cX11_targetKind 29 = .ok (.iload_n 3, 1) := by decide +kernel
theorem dX11_targetKind_30 : decode cX11_targetKind 30 = .ok (.ifCond .ne 8, 3) := by decide +kernel
theorem dX11_targetKind_33 : decode cX11_targetKind 33 = .ok (.bipush 119, 2) := by decide +kernel
theorem dX11_targetKind_35 : decode cX11_targetKind 35 = .ok (.goto 25, 3) := by decide +kernel
theorem dX11_targetKind_38 : decode cX11_targetKind 38 = .ok (.iload_n 3, 1) := by decide +kernel
theorem dX11_targetKind_39 : decode cX11_targetKind 39 = .ok (.iconst 1, 1) := by decide +kernel
theorem dX11_targetKind_40 : decode cX11_targetKind 40 = .ok (.if_icmp .ne 8, 3) := by decide +kernel
theorem dX11_targetKind_43 : decode cX11_targetKind 43 = .ok (.bipush 110, 2) := by decide +kernel
theorem dX11_targetKind_45 : decode cX11_targetKind 45 = .ok (.goto 15, 3) := by decide +kernel
theorem dX11_targetKind_48 : decode cX11_targetKind 48 = .ok (.iload_n 3, 1) := by decide +kernel
theorem dX11_targetKind_49 : decode cX11_targetKind 49 = .ok (.iconst 2, 1) := by decide +kernel
theorem dX11_targetKind_50 : decode cX11_targetKind 50 = .ok (.if_icmp .ne 8, 3) := by decide +kernel
theorem dX11_targetKind_53 : decode cX11_targetKind 53 = .ok (.bipush 116, 2) := by decide +kernel
theorem dX11_targetKind_55 : decode cX11_targetKind 55 = .ok (.goto 5, 3) := by decide +kernel
theorem dX11_targetKind_58 : decode cX11_targetKind 58 = .ok (.bipush 109, 2) := by decide +kernel
theorem dX11_targetKind_60 : decode cX11_targetKind 60 = .ok (.ireturn, 1) := by decide +kernel
theorem dX11_repeats_0 : decode cX11_repeats 0 = .ok (.aload_n 0, 1) := by decide +kernel
theorem dX11_repeats_1 : decode cX11_repeats 1 = .ok (.iconst 0, 1) := by decide +kernel
theorem dX11_repeats_2 : decode cX11_repeats 2 = .ok (.putfield 78, 3) := by decide +kernel
theorem dX11_repeats_5 : decode cX11_repeats 5 = .ok (.iconst 0, 1) := by decide +kernel
theorem dX11_repeats_6 : decode cX11_repeats 6 = .ok (.istore_n 1, 1) := by decide +kernel
theorem dX11_repeats_7 : decode cX11_repeats 7 = .ok (.iconst 0, 1) := by decide +kernel
theorem dX11_repeats_8 : decode cX11_repeats 8 = .ok (.istore_n 2, 1) := by decide +kernel
theorem dX11_repeats_9 : decode cX11_repeats 9 = .ok (.iload_n 2, 1) := by decide +kernel
theorem dX11_repeats_10 : decode cX11_repeats 10 = .ok (.aload_n 0, 1) := by decide +kernel
theorem dX11_repeats_11 : decode cX11_repeats 11 = .ok (.getfield 169, 3) := by decide +kernel
theorem dX11_repeats_14 : decode cX11_repeats 14 = .ok (.if_icmp .ge 58, 3) := by decide +kernel
theorem dX11_repeats_17 : decode cX11_repeats 17 = .ok (.iconst 0, 1) := by decide +kernel
theorem dX11_repeats_18 : decode cX11_repeats 18 = .ok (.istore_n 3, 1) := by decide +kernel
theorem dX11_repeats_19 : decode cX11_repeats 19 = .ok (.iconst 0, 1) := by decide +kernel
theorem dX11_repeats_20 : decode cX11_repeats 20 = .ok (.istore 4, 2) := by decide +kernel
theorem dX11_repeats_22 : decode cX11_repeats 22 = .ok (.iload 4, 2) := by decide +kernel
theorem dX11_repeats_24 : decode cX11_repeats 24 = .ok (.iload_n 2, 1) := by decide +kernel
theorem dX11_repeats_25 : decode cX11_repeats 25 = .ok (.if_icmp .ge 29, 3) := by decide +kernel
theorem dX11_repeats_28 : decode cX11_repeats 28 = .ok (.iload_n 3, 1) := by decide +kernel
theorem dX11_repeats_29 : decode cX11_repeats 29 = .ok (.ifCond .ne 13, 3) := by decide +kernel
theorem dX11_repeats_32 : decode cX11_repeats 32 = .ok (.aload_n 0, 1) := by decide +kernel
theorem dX11_repeats_33 : decode cX11_repeats 33 = .ok (.iload 4, 2) := by decide +kernel
theorem dX11_repeats_35 : decode cX11_repeats 35 = .ok (.iload_n 2, 1) := by decide +kernel
theorem dX11_repeats_36 : decode cX11_repeats 36 = .ok (.invokevirtual 189, 3) := by decide +kernel
theorem dX11_repeats_39 : decode cX11_repeats 39 = .ok (.ifCond .eq 7, 3) := by decide +kernel
theorem dX11_repeats_42 : decode cX11_repeats 42 = .ok (.iconst 1, 1) := by decide +kernel
theorem dX11_repeats_43 : decode cX11_repeats 43 = .ok (.goto 4, 3) := by decide +kernel
theorem dX11_repeats_46 : decode cX11_repeats 46 = .ok (.iconst 0, 1) := by decide +kernel
theorem dX11_repeats_47 : decode cX11_repeats 47 = .ok (.istore_n 3, 1) := by decide +kernel
theorem dX11_repeats_48 : decode cX11_repeats 48 = .ok (.iinc 4 1, 3) := by decide +kernel
theorem dX11_repeats_51 : decode cX11_repeats 51 = .ok (.goto (-29), 3) := by decide +kernel
theorem dX11_repeats_54 : decode cX11_repeats 54 = .ok (.iload_n 1, 1) := by decide +kernel
theorem dX11_repeats_55 : decode cX11_repeats 55 = .ok (.iload_n 3, 1) := by decide +kernel
theorem dX11_repeats_56 : decode cX11_repeats 56 = .ok (.ifCond .eq 7, 3) := by decide +kernel
theorem dX11_repeats_59 : decode cX11_repeats 59 = .ok (.iconst 1, 1) := by decide +kernel
theorem dX11_repeats_60 : decode cX11_repeats 60 = .ok (.goto 4, 3) := by decide +kernel
theorem dX11_repeats_63 : decode cX11_repeats 63 = .ok (.iconst 0, 1) := by decide +kernel
theorem dX11_repeats_64 : decode cX11_repeats 64 = .ok (.iadd, 1) := by decide +kernel
theorem dX11_repeats_65 : decode cX11_repeats 65 = .ok (.istore_n 1, 1) := by decide +kernel
theorem dX11_repeats_66 : decode cX11_repeats 66 = .ok (.iinc 2 1, 3) := by decide +kernel
theorem dX11_repeats_69 : decode cX11_repeats 69 = .ok (.goto (-60), 3) := by decide +kernel
theorem dX11_repeats_72 : decode cX11_repeats 72 = .ok (.iload_n 1, 1) := by decide +kernel
theorem dX11_repeats_73 : decode cX11_repeats 73 = .ok (.ireturn, 1) := by decide +kernel
theorem dX11_openWeight_0 : decode cX11_openWeight 0 = .ok (.aload_n 0, 1) := by decide +kernel
theorem dX11_openWeight_1 : decode cX11_openWeight 1 = .ok (.iconst 0, 1) := by decide +kernel
theorem dX11_openWeight_2 : decode cX11_openWeight 2 = .ok (.putfield 78, 3) := by decide +kernel
theorem dX11_openWeight_5 : decode cX11_openWeight 5 = .ok (.lconst 0, 1) := by decide +kernel
theorem dX11_openWeight_6 : decode cX11_openWeight 6 = .ok (.lstore_n 1, 1) := by decide +kernel
theorem dX11_openWeight_7 : decode cX11_openWeight 7 = .ok (.iconst 0, 1) := by decide +kernel
theorem dX11_openWeight_8 : decode cX11_openWeight 8 = .ok (.istore_n 3, 1) := by decide +kernel
theorem dX11_openWeight_9 : decode cX11_openWeight 9 = .ok (.iload_n 3, 1) := by decide +kernel
theorem dX11_openWeight_10 : decode cX11_openWeight 10 = .ok (.aload_n 0, 1) := by decide +kernel
theorem dX11_openWeight_11 : decode cX11_openWeight 11 = .ok (.getfield 169, 3) := by decide +kernel
theorem dX11_openWeight_14 : decode cX11_openWeight 14 = .ok (.if_icmp .ge 62, 3) := by decide +kernel
theorem dX11_openWeight_17 : decode cX11_openWeight 17 = .ok (.aload_n 0, 1) := by decide +kernel
theorem dX11_openWeight_18 : decode cX11_openWeight 18 = .ok (.getfield 47, 3) := by decide +kernel
theorem dX11_openWeight_21 : decode cX11_openWeight 21 = .ok (.iload_n 3, 1) := by decide +kernel
theorem dX11_openWeight_22 : decode cX11_openWeight 22 = .ok (.iaload, 1) := by decide +kernel
theorem dX11_openWeight_23 : decode cX11_openWeight 23 = .ok (.istore 4, 2) := by decide +kernel
theorem dX11_openWeight_25 : decode cX11_openWeight 25 = .ok (.iload 4, 2) := by decide +kernel
theorem dX11_openWeight_27 : decode cX11_openWeight 27 = .ok (.aload_n 0, 1) := by decide +kernel
theorem dX11_openWeight_28 : decode cX11_openWeight 28 = .ok (.getfield 47, 3) := by decide +kernel
theorem dX11_openWeight_31 : decode cX11_openWeight 31 = .ok (.iload_n 3, 1) := by decide +kernel
theorem dX11_openWeight_32 : decode cX11_openWeight 32 = .ok (.iconst 1, 1) := by decide +kernel
theorem dX11_openWeight_33 : decode cX11_openWeight 33 = .ok (.iadd, 1) := by decide +kernel
theorem dX11_openWeight_34 : decode cX11_openWeight 34 = .ok (.iaload, 1) := by decide +kernel
theorem dX11_openWeight_35 : decode cX11_openWeight 35 = .ok (.if_icmp .ge 35, 3) := by decide +kernel
theorem dX11_openWeight_38 : decode cX11_openWeight 38 = .ok (.aload_n 0, 1) := by decide +kernel
theorem dX11_openWeight_39 : decode cX11_openWeight 39 = .ok (.getfield 50, 3) := by decide +kernel
theorem dX11_openWeight_42 : decode cX11_openWeight 42 = .ok (.iload_n 3, 1) := by decide +kernel
theorem dX11_openWeight_43 : decode cX11_openWeight 43 = .ok (.caload, 1) := by decide +kernel
theorem dX11_openWeight_44 : decode cX11_openWeight 44 = .ok (.bipush 101, 2) := by decide +kernel
theorem dX11_openWeight_46 : decode cX11_openWeight 46 = .ok (.if_icmp .ne 24, 3) := by decide +kernel
theorem dX11_openWeight_49 : decode cX11_openWeight 49 = .ok (.lload_n 1, 1) := by decide +kernel
theorem dX11_openWeight_50 : decode cX11_openWeight 50 = .ok (.aload_n 0, 1) := by decide +kernel
theorem dX11_openWeight_51 : decode cX11_openWeight 51 = .ok (.aload_n 0, 1) := by decide +kernel
theorem dX11_openWeight_52 : decode cX11_openWeight 52 = .ok (.getfield 44, 3) := by decide +kernel
theorem dX11_openWeight_55 : decode cX11_openWeight 55 = .ok (.iload 4, 2) := by decide +kernel
theorem dX11_openWeight_57 : decode cX11_openWeight 57 = .ok (.iaload, 1) := by decide +kernel
theorem dX11_openWeight_58 : decode cX11_openWeight 58 = .ok (.invokevirtual 117, 3) := by decide +kernel
theorem dX11_openWeight_61 : decode cX11_openWeight 61 = .ok (.i2l, 1) := by decide +kernel
theorem dX11_openWeight_62 : decode cX11_openWeight 62 = .ok (.ladd, 1) := by decide +kernel
theorem dX11_openWeight_63 : decode cX11_openWeight 63 = .ok (.lstore_n 1, 1) := by decide +kernel
theorem dX11_openWeight_64 : decode cX11_openWeight 64 = .ok (.iinc 4 1, 3) := by decide +kernel
theorem dX11_openWeight_67 : decode cX11_openWeight 67 = .ok (.goto (-42), 3) := by decide +kernel
theorem dX11_openWeight_70 : decode cX11_openWeight 70 = .ok (.iinc 3 1, 3) := by decide +kernel
theorem dX11_openWeight_73 : decode cX11_openWeight 73 = .ok (.goto (-64), 3) := by decide +kernel
theorem dX11_openWeight_76 : decode cX11_openWeight 76 = .ok (.lload_n 1, 1) := by decide +kernel
theorem dX11_openWeight_77 : decode cX11_openWeight 77 = .ok (.lreturn, 1) := by decide +kernel
theorem dX11_filledShare_0 : decode cX11_filledShare 0 = .ok (.aload_n 0, 1) := by decide +kernel
theorem dX11_filledShare_1 : decode cX11_filledShare 1 = .ok (.iconst 0, 1) := by decide +kernel
theorem dX11_filledShare_2 : decode cX11_filledShare 2 = .ok (.putfield 78, 3) := by decide +kernel
theorem dX11_filledShare_5 : decode cX11_filledShare 5 = .ok (.aload_n 0, 1) := by decide +kernel
theorem dX11_filledShare_6 : decode cX11_filledShare 6 = .ok (.aload_n 0, 1) := by decide +kernel
theorem dX11_filledShare_7 : decode cX11_filledShare 7 = .ok (.getfield 169, 3) := by decide +kernel
theorem dX11_filledShare_10 : decode cX11_filledShare 10 = .ok (.ifCond .ne 7, 3) := by decide +kernel
theorem dX11_filledShare_13 : decode cX11_filledShare 13 = .ok (.iconst 1, 1) := by decide +kernel
theorem dX11_filledShare_14 : decode cX11_filledShare 14 = .ok (.goto 4, 3) := by decide +kernel
theorem dX11_filledShare_17 : decode cX11_filledShare 17 = .ok (.iconst 0, 1) := by decide +kernel
theorem dX11_filledShare_18 : decode cX11_filledShare 18 = .ok (.iconst 1, 1) := by decide +kernel
theorem dX11_filledShare_19 : decode cX11_filledShare 19 = .ok (.invokevirtual 82, 3) := by decide +kernel
theorem dX11_filledShare_22 : decode cX11_filledShare 22 = .ok (.ifCond .eq 5, 3) := by decide +kernel
theorem dX11_filledShare_25 : decode cX11_filledShare 25 = .ok (.fconst 0, 1) := by decide +kernel
theorem dX11_filledShare_26 : decode cX11_filledShare 26 = .ok (.freturn, 1) := by decide +kernel
theorem dX11_filledShare_27 : decode cX11_filledShare 27 = .ok (.iconst 0, 1) := by decide +kernel
theorem dX11_filledShare_28 : decode cX11_filledShare 28 = .ok (.istore_n 1, 1) := by decide +kernel
theorem dX11_filledShare_29 : decode cX11_filledShare 29 = .ok (.iconst 0, 1) := by decide +kernel
theorem dX11_filledShare_30 : decode cX11_filledShare 30 = .ok (.istore_n 2, 1) := by decide +kernel
theorem dX11_filledShare_31 : decode cX11_filledShare 31 = .ok (.iload_n 2, 1) := by decide +kernel
theorem dX11_filledShare_32 : decode cX11_filledShare 32 = .ok (.aload_n 0, 1) := by decide +kernel
theorem dX11_filledShare_33 : decode cX11_filledShare 33 = .ok (.getfield 169, 3) := by decide +kernel
theorem dX11_filledShare_36 : decode cX11_filledShare 36 = .ok (.if_icmp .ge 28, 3) := by decide +kernel
theorem dX11_filledShare_39 : decode cX11_filledShare 39 = .ok (.iload_n 1, 1) := by decide +kernel
theorem dX11_filledShare_40 : decode cX11_filledShare 40 = .ok (.aload_n 0, 1) := by decide +kernel
theorem dX11_filledShare_41 : decode cX11_filledShare 41 = .ok (.getfield 50, 3) := by decide +kernel
theorem dX11_filledShare_44 : decode cX11_filledShare 44 = .ok (.iload_n 2, 1) := by decide +kernel
theorem dX11_filledShare_45 : decode cX11_filledShare 45 = .ok (.caload, 1) := by decide +kernel
theorem dX11_filledShare_46 : decode cX11_filledShare 46 = .ok (.bipush 101, 2) := by decide +kernel
theorem dX11_filledShare_48 : decode cX11_filledShare 48 = .ok (.if_icmp .ne 7, 3) := by decide +kernel
theorem dX11_filledShare_51 : decode cX11_filledShare 51 = .ok (.iconst 0, 1) := by decide +kernel
theorem dX11_filledShare_52 : decode cX11_filledShare 52 = .ok (.goto 4, 3) := by decide +kernel
theorem dX11_filledShare_55 : decode cX11_filledShare 55 = .ok (.iconst 1, 1) := by decide +kernel
theorem dX11_filledShare_56 : decode cX11_filledShare 56 = .ok (.iadd, 1) := by decide +kernel
theorem dX11_filledShare_57 : decode cX11_filledShare 57 = .ok (.istore_n 1, 1) := by decide +kernel
theorem dX11_filledShare_58 : decode cX11_filledShare 58 = .ok (.iinc 2 1, 3) := by decide +kernel
theorem dX11_filledShare_61 : decode cX11_filledShare 61 = .ok (.goto (-30), 3) := by decide +kernel
theorem dX11_filledShare_64 : decode cX11_filledShare 64 = .ok (.iload_n 1, 1) := by decide +kernel
theorem dX11_filledShare_65 : decode cX11_filledShare 65 = .ok (.i2f, 1) := by decide +kernel
theorem dX11_filledShare_66 : decode cX11_filledShare 66 = .ok (.aload_n 0, 1) := by decide +kernel
theorem dX11_filledShare_67 : decode cX11_filledShare 67 = .ok (.getfield 169, 3) := by decide +kernel
theorem dX11_filledShare_70 : decode cX11_filledShare 70 = .ok (.i2f, 1) := by decide +kernel
theorem dX11_filledShare_71 : decode cX11_filledShare 71 = .ok (.fdiv, 1) := by decide +kernel
theorem dX11_filledShare_72 : decode cX11_filledShare 72 = .ok (.freturn, 1) := by decide +kernel
theorem dX11_meanLikeness_0 : decode cX11_meanLikeness 0 = .ok (.aload_n 0, 1) := by decide +kernel
theorem dX11_meanLikeness_1 : decode cX11_meanLikeness 1 = .ok (.iconst 0, 1) := by decide +kernel
theorem dX11_meanLikeness_2 : decode cX11_meanLikeness 2 = .ok (.putfield 78, 3) := by decide +kernel
theorem dX11_meanLikeness_5 : decode cX11_meanLikeness 5 = .ok (.aload_n 0, 1) := by decide +kernel
theorem dX11_meanLikeness_6 : decode cX11_meanLikeness 6 = .ok (.aload_n 0, 1) := by decide +kernel
theorem dX11_meanLikeness_7 : decode cX11_meanLikeness 7 = .ok (.getfield 86, 3) := by decide +kernel
theorem dX11_meanLikeness_10 : decode cX11_meanLikeness 10 = .ok (.ifCond .ne 7, 3) := by decide +kernel
theorem dX11_meanLikeness_13 : decode cX11_meanLikeness 13 = .ok (.iconst 1, 1) := by decide +kernel
theorem dX11_meanLikeness_14 : decode cX11_meanLikeness 14 = .ok (.goto 4, 3) := by decide +kernel
theorem dX11_meanLikeness_17 : decode cX11_meanLikeness 17 = .ok (.iconst 0, 1) := by decide +kernel
theorem dX11_meanLikeness_18 : decode cX11_meanLikeness 18 = .ok (.iconst 1, 1) := by decide +kernel
theorem dX11_meanLikeness_19 : decode cX11_meanLikeness 19 = .ok (.invokevirtual 82, 3) := by decide +kernel
theorem dX11_meanLikeness_22 : decode cX11_meanLikeness 22 = .ok (.ifCond .eq 5, 3) := by decide +kernel
theorem dX11_meanLikeness_25 : decode cX11_meanLikeness 25 = .ok (.dconst 0, 1) := by decide +kernel
theorem dX11_meanLikeness_26 : decode cX11_meanLikeness 26 = .ok (.dreturn, 1) := by decide +kernel
theorem dX11_meanLikeness_27 : decode cX11_meanLikeness 27 = .ok (.aload_n 0, 1) := by decide +kernel
theorem dX11_meanLikeness_28 : decode cX11_meanLikeness 28 = .ok (.invokevirtual 141, 3) := by decide +kernel
theorem dX11_meanLikeness_31 : decode cX11_meanLikeness 31 = .ok (.iconst 0, 1) := by decide +kernel
theorem dX11_meanLikeness_32 : decode cX11_meanLikeness 32 = .ok (.istore_n 1, 1) := by decide +kernel
theorem dX11_meanLikeness_33 : decode cX11_meanLikeness 33 = .ok (.iconst 0, 1) := by decide +kernel
theorem dX11_meanLikeness_34 : decode cX11_meanLikeness 34 = .ok (.istore_n 2, 1) := by decide +kernel
theorem dX11_meanLikeness_35 : decode cX11_meanLikeness 35 = .ok (.iconst 0, 1) := by decide +kernel
theorem dX11_meanLikeness_36 : decode cX11_meanLikeness 36 = .ok (.istore_n 3, 1) := by decide +kernel
theorem dX11_meanLikeness_37 : decode cX11_meanLikeness 37 = .ok (.iload_n 3, 1) := by decide +kernel
theorem dX11_meanLikeness_38 : decode cX11_meanLikeness 38 = .ok (.aload_n 0, 1) := by decide +kernel
theorem dX11_meanLikeness_39 : decode cX11_meanLikeness 39 = .ok (.getfield 103, 3) := by decide +kernel
theorem dX11_meanLikeness_42 : decode cX11_meanLikeness 42 = .ok (.if_icmp .ge 29, 3) := by decide +kernel
theorem dX11_meanLikeness_45 : decode cX11_meanLikeness 45 = .ok (.aload_n 0, 1) := by decide +kernel
theorem dX11_meanLikeness_46 : decode cX11_meanLikeness 46 = .ok (.getfield 41, 3) := by decide +kernel
theorem dX11_meanLikeness_49 : decode cX11_meanLikeness 49 = .ok (.iload_n 3, 1) := by decide +kernel
theorem dX11_meanLikeness_50 : decode cX11_meanLikeness 50 = .ok (.baload, 1) := by decide +kernel
theorem dX11_meanLikeness_51 : decode cX11_meanLikeness 51 = .ok (.ifCond .eq 14, 3) := by decide +kernel
theorem dX11_meanLikeness_54 : decode cX11_meanLikeness 54 = .ok (.iload_n 1, 1) := by decide +kernel
theorem dX11_meanLikeness_55 : decode cX11_meanLikeness 55 = .ok (.aload_n 0, 1) := by decide +kernel
theorem dX11_meanLikeness_56 : decode cX11_meanLikeness 56 = .ok (.iload_n 3, 1) := by decide +kernel
theorem dX11_meanLikeness_57 : decode cX11_meanLikeness 57 = .ok (.invokevirtual 132, 3) := by decide +kernel
theorem dX11_meanLikeness_60 : decode cX11_meanLikeness 60 = .ok (.iadd, 1) := by decide +kernel
theorem dX11_meanLikeness_61 : decode cX11_meanLikeness 61 = .ok (.istore_n 1, 1) := by decide +kernel
theorem dX11_meanLikeness_62 : decode cX11_meanLikeness 62 = .ok (.iinc 2 1, 3) := by decide +kernel
theorem dX11_meanLikeness_65 : decode cX11_meanLikeness 65 = .ok (.iinc 3 1, 3) := by decide +kernel
theorem dX11_meanLikeness_68 : decode cX11_meanLikeness 68 = .ok (.goto (-31), 3) := by decide +kernel
theorem dX11_meanLikeness_71 : decode cX11_meanLikeness 71 = .ok (.aload_n 0, 1) := by decide +kernel
theorem dX11_meanLikeness_72 : decode cX11_meanLikeness 72 = .ok (.iload_n 2, 1) := by decide +kernel
theorem dX11_meanLikeness_73 : decode cX11_meanLikeness 73 = .ok (.ifCond .ne 7, 3) := by decide +kernel
theorem dX11_meanLikeness_76 : decode cX11_meanLikeness 76 = .ok (.iconst 1, 1) := by decide +kernel
theorem dX11_meanLikeness_77 : decode cX11_meanLikeness 77 = .ok (.goto 4, 3) := by decide +kernel
theorem dX11_meanLikeness_80 : decode cX11_meanLikeness 80 = .ok (.iconst 0, 1) := by decide +kernel
theorem dX11_meanLikeness_81 : decode cX11_meanLikeness 81 = .ok (.iconst 2, 1) := by decide +kernel
theorem dX11_meanLikeness_82 : decode cX11_meanLikeness 82 = .ok (.invokevirtual 82, 3) := by decide +kernel
theorem dX11_meanLikeness_85 : decode cX11_meanLikeness 85 = .ok (.ifCond .eq 7, 3) := by decide +kernel
theorem dX11_meanLikeness_88 : decode cX11_meanLikeness 88 = .ok (.dconst 0, 1) := by decide +kernel
theorem dX11_meanLikeness_89 : decode cX11_meanLikeness 89 = .ok (.goto 8, 3) := by decide +kernel
theorem dX11_meanLikeness_92 : decode cX11_meanLikeness 92 = .ok (.iload_n 1, 1) := by decide +kernel
theorem dX11_meanLikeness_93 : decode cX11_meanLikeness 93 = .ok (.i2d, 1) := by decide +kernel
theorem dX11_meanLikeness_94 : decode cX11_meanLikeness 94 = .ok (.iload_n 2, 1) := by decide +kernel
theorem dX11_meanLikeness_95 : decode cX11_meanLikeness 95 = .ok (.i2d, 1) := by decide +kernel
theorem dX11_meanLikeness_96 : decode cX11_meanLikeness 96 = .ok (.ddiv, 1) := by decide +kernel
theorem dX11_meanLikeness_97 : decode cX11_meanLikeness 97 = .ok (.dreturn, 1) := by decide +kernel
theorem dX11_isSound_0 : decode cX11_isSound 0 = .ok (.aload_n 0, 1) := by decide +kernel
theorem dX11_isSound_1 : decode cX11_isSound 1 = .ok (.iconst 0, 1) := by decide +kernel
theorem dX11_isSound_2 : decode cX11_isSound 2 = .ok (.putfield 78, 3) := by decide +kernel
theorem dX11_isSound_5 : decode cX11_isSound 5 = .ok (.iconst 1, 1) := by decide +kernel
theorem dX11_isSound_6 : decode cX11_isSound 6 = .ok (.ireturn, 1) := by decide +kernel
