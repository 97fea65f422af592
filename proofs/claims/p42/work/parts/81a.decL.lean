theorem dL_cell_0 : decode cL_cell 0 = .ok (.ldc 7, 2) := by decide +kernel
theorem dL_cell_2 : decode cL_cell 2 = .ok (.iload_n 1, 1) := by decide +kernel
theorem dL_cell_3 : decode cL_cell 3 = .ok (.aload_n 0, 1) := by decide +kernel
theorem dL_cell_4 : decode cL_cell 4 = .ok (.arraylength, 1) := by decide +kernel
theorem dL_cell_5 : decode cL_cell 5 = .ok (.if_icmp .ge 9, 3) := by decide +kernel
theorem dL_cell_8 : decode cL_cell 8 = .ok (.aload_n 0, 1) := by decide +kernel
theorem dL_cell_9 : decode cL_cell 9 = .ok (.iload_n 1, 1) := by decide +kernel
theorem dL_cell_10 : decode cL_cell 10 = .ok (.iaload, 1) := by decide +kernel
theorem dL_cell_11 : decode cL_cell 11 = .ok (.goto 4, 3) := by decide +kernel
theorem dL_cell_14 : decode cL_cell 14 = .ok (.iconst 0, 1) := by decide +kernel
theorem dL_cell_15 : decode cL_cell 15 = .ok (.sipush 1009, 3) := by decide +kernel
theorem dL_cell_18 : decode cL_cell 18 = .ok (.iload_n 1, 1) := by decide +kernel
theorem dL_cell_19 : decode cL_cell 19 = .ok (.imul, 1) := by decide +kernel
theorem dL_cell_20 : decode cL_cell 20 = .ok (.iadd, 1) := by decide +kernel
theorem dL_cell_21 : decode cL_cell 21 = .ok (.imul, 1) := by decide +kernel
theorem dL_cell_22 : decode cL_cell 22 = .ok (.sipush 12345, 3) := by decide +kernel
theorem dL_cell_25 : decode cL_cell 25 = .ok (.iadd, 1) := by decide +kernel
theorem dL_cell_26 : decode cL_cell 26 = .ok (.istore_n 2, 1) := by decide +kernel
theorem dL_cell_27 : decode cL_cell 27 = .ok (.iload_n 2, 1) := by decide +kernel
theorem dL_cell_28 : decode cL_cell 28 = .ok (.iload_n 2, 1) := by decide +kernel
theorem dL_cell_29 : decode cL_cell 29 = .ok (.bipush 13, 2) := by decide +kernel
theorem dL_cell_31 : decode cL_cell 31 = .ok (.iushr, 1) := by decide +kernel
theorem dL_cell_32 : decode cL_cell 32 = .ok (.ixor, 1) := by decide +kernel
theorem dL_cell_33 : decode cL_cell 33 = .ok (.ldc 8, 2) := by decide +kernel
theorem dL_cell_35 : decode cL_cell 35 = .ok (.imul, 1) := by decide +kernel
theorem dL_cell_36 : decode cL_cell 36 = .ok (.istore_n 2, 1) := by decide +kernel
theorem dL_cell_37 : decode cL_cell 37 = .ok (.iload_n 2, 1) := by decide +kernel
theorem dL_cell_38 : decode cL_cell 38 = .ok (.iload_n 2, 1) := by decide +kernel
theorem dL_cell_39 : decode cL_cell 39 = .ok (.bipush 16, 2) := by decide +kernel
theorem dL_cell_41 : decode cL_cell 41 = .ok (.iushr, 1) := by decide +kernel
theorem dL_cell_42 : decode cL_cell 42 = .ok (.ixor, 1) := by decide +kernel
theorem dL_cell_43 : decode cL_cell 43 = .ok (.ireturn, 1) := by decide +kernel
theorem dL_pick_0 : decode cL_pick 0 = .ok (.aload_n 0, 1) := by decide +kernel
theorem dL_pick_1 : decode cL_pick 1 = .ok (.iload_n 1, 1) := by decide +kernel
theorem dL_pick_2 : decode cL_pick 2 = .ok (.invokestatic 9, 3) := by decide +kernel
theorem dL_pick_5 : decode cL_pick 5 = .ok (.bipush 8, 2) := by decide +kernel
theorem dL_pick_7 : decode cL_pick 7 = .ok (.iushr, 1) := by decide +kernel
theorem dL_pick_8 : decode cL_pick 8 = .ok (.iload_n 2, 1) := by decide +kernel
theorem dL_pick_9 : decode cL_pick 9 = .ok (.irem, 1) := by decide +kernel
theorem dL_pick_10 : decode cL_pick 10 = .ok (.ireturn, 1) := by decide +kernel
theorem dL_told_0 : decode cL_told 0 = .ok (.iload_n 0, 1) := by decide +kernel
theorem dL_told_1 : decode cL_told 1 = .ok (.ifCond .eq 7, 3) := by decide +kernel
theorem dL_told_4 : decode cL_told 4 = .ok (.iconst 1, 1) := by decide +kernel
theorem dL_told_5 : decode cL_told 5 = .ok (.goto 4, 3) := by decide +kernel
theorem dL_told_8 : decode cL_told 8 = .ok (.iconst 0, 1) := by decide +kernel
theorem dL_told_9 : decode cL_told 9 = .ok (.ireturn, 1) := by decide +kernel
theorem dL_plain_0 : decode cL_plain 0 = .ok (.iload_n 1, 1) := by decide +kernel
theorem dL_plain_1 : decode cL_plain 1 = .ok (.tableswitch 152 0 12 #[67, 73, 79, 85, 92, 103, 112, 119, 124, 129, 135, 141, 146], 67) := by decide +kernel
theorem dL_plain_68 : decode cL_plain 68 = .ok (.aload_n 0, 1) := by decide +kernel
theorem dL_plain_69 : decode cL_plain 69 = .ok (.iload_n 2, 1) := by decide +kernel
theorem dL_plain_70 : decode cL_plain 70 = .ok (.invokevirtual 15, 3) := by decide +kernel
theorem dL_plain_73 : decode cL_plain 73 = .ok (.ireturn, 1) := by decide +kernel
theorem dL_plain_74 : decode cL_plain 74 = .ok (.aload_n 0, 1) := by decide +kernel
theorem dL_plain_75 : decode cL_plain 75 = .ok (.iload_n 2, 1) := by decide +kernel
theorem dL_plain_76 : decode cL_plain 76 = .ok (.invokevirtual 21, 3) := by decide +kernel
theorem dL_plain_79 : decode cL_plain 79 = .ok (.ireturn, 1) := by decide +kernel
theorem dL_plain_80 : decode cL_plain 80 = .ok (.aload_n 0, 1) := by decide +kernel
theorem dL_plain_81 : decode cL_plain 81 = .ok (.iload_n 2, 1) := by decide +kernel
theorem dL_plain_82 : decode cL_plain 82 = .ok (.invokevirtual 24, 3) := by decide +kernel
theorem dL_plain_85 : decode cL_plain 85 = .ok (.ireturn, 1) := by decide +kernel
theorem dL_plain_86 : decode cL_plain 86 = .ok (.aload_n 0, 1) := by decide +kernel
theorem dL_plain_87 : decode cL_plain 87 = .ok (.iload_n 2, 1) := by decide +kernel
theorem dL_plain_88 : decode cL_plain 88 = .ok (.i2c, 1) := by decide +kernel
theorem dL_plain_89 : decode cL_plain 89 = .ok (.invokevirtual 27, 3) := by decide +kernel
theorem dL_plain_92 : decode cL_plain 92 = .ok (.ireturn, 1) := by decide +kernel
theorem dL_plain_93 : decode cL_plain 93 = .ok (.aload_n 0, 1) := by decide +kernel
theorem dL_plain_94 : decode cL_plain 94 = .ok (.iload_n 2, 1) := by decide +kernel
theorem dL_plain_95 : decode cL_plain 95 = .ok (.iload_n 3, 1) := by decide +kernel
theorem dL_plain_96 : decode cL_plain 96 = .ok (.iload 4, 2) := by decide +kernel
theorem dL_plain_98 : decode cL_plain 98 = .ok (.iload 5, 2) := by decide +kernel
theorem dL_plain_100 : decode cL_plain 100 = .ok (.invokevirtual 31, 3) := by decide +kernel
theorem dL_plain_103 : decode cL_plain 103 = .ok (.ireturn, 1) := by decide +kernel
theorem dL_plain_104 : decode cL_plain 104 = .ok (.aload_n 0, 1) := by decide +kernel
theorem dL_plain_105 : decode cL_plain 105 = .ok (.iload_n 2, 1) := by decide +kernel
theorem dL_plain_106 : decode cL_plain 106 = .ok (.invokevirtual 35, 3) := by decide +kernel
theorem dL_plain_109 : decode cL_plain 109 = .ok (.invokestatic 39, 3) := by decide +kernel
theorem dL_plain_112 : decode cL_plain 112 = .ok (.ireturn, 1) := by decide +kernel
theorem dL_plain_113 : decode cL_plain 113 = .ok (.aload_n 0, 1) := by decide +kernel
theorem dL_plain_114 : decode cL_plain 114 = .ok (.iload_n 2, 1) := by decide +kernel
theorem dL_plain_115 : decode cL_plain 115 = .ok (.iload_n 3, 1) := by decide +kernel
theorem dL_plain_116 : decode cL_plain 116 = .ok (.invokevirtual 43, 3) := by decide +kernel
theorem dL_plain_119 : decode cL_plain 119 = .ok (.ireturn, 1) := by decide +kernel
theorem dL_plain_120 : decode cL_plain 120 = .ok (.aload_n 0, 1) := by decide +kernel
theorem dL_plain_121 : decode cL_plain 121 = .ok (.invokevirtual 47, 3) := by decide +kernel
theorem dL_plain_124 : decode cL_plain 124 = .ok (.ireturn, 1) := by decide +kernel
theorem dL_plain_125 : decode cL_plain 125 = .ok (.aload_n 0, 1) := by decide +kernel
theorem dL_plain_126 : decode cL_plain 126 = .ok (.invokevirtual 51, 3) := by decide +kernel
theorem dL_plain_129 : decode cL_plain 129 = .ok (.ireturn, 1) := by decide +kernel
theorem dL_plain_130 : decode cL_plain 130 = .ok (.aload_n 0, 1) := by decide +kernel
theorem dL_plain_131 : decode cL_plain 131 = .ok (.iload_n 2, 1) := by decide +kernel
theorem dL_plain_132 : decode cL_plain 132 = .ok (.invokevirtual 54, 3) := by decide +kernel
theorem dL_plain_135 : decode cL_plain 135 = .ok (.ireturn, 1) := by decide +kernel
theorem dL_plain_136 : decode cL_plain 136 = .ok (.aload_n 0, 1) := by decide +kernel
theorem dL_plain_137 : decode cL_plain 137 = .ok (.iload_n 2, 1) := by decide +kernel
theorem dL_plain_138 : decode cL_plain 138 = .ok (.invokevirtual 57, 3) := by decide +kernel
theorem dL_plain_141 : decode cL_plain 141 = .ok (.ireturn, 1) := by decide +kernel
theorem dL_plain_142 : decode cL_plain 142 = .ok (.aload_n 0, 1) := by decide +kernel
theorem dL_plain_143 : decode cL_plain 143 = .ok (.invokevirtual 60, 3) := by decide +kernel
theorem dL_plain_146 : decode cL_plain 146 = .ok (.ireturn, 1) := by decide +kernel
theorem dL_plain_147 : decode cL_plain 147 = .ok (.aload_n 0, 1) := by decide +kernel
theorem dL_plain_148 : decode cL_plain 148 = .ok (.iload_n 2, 1) := by decide +kernel
theorem dL_plain_149 : decode cL_plain 149 = .ok (.invokevirtual 63, 3) := by decide +kernel
theorem dL_plain_152 : decode cL_plain 152 = .ok (.ireturn, 1) := by decide +kernel
theorem dL_plain_153 : decode cL_plain 153 = .ok (.aload_n 0, 1) := by decide +kernel
theorem dL_plain_154 : decode cL_plain 154 = .ok (.iload_n 2, 1) := by decide +kernel
theorem dL_plain_155 : decode cL_plain 155 = .ok (.invokevirtual 66, 3) := by decide +kernel
theorem dL_plain_158 : decode cL_plain 158 = .ok (.ireturn, 1) := by decide +kernel
theorem dL_deed_0 : decode cL_deed 0 = .ok (.aload_n 0, 1) := by decide +kernel
theorem dL_deed_1 : decode cL_deed 1 = .ok (.iload_n 1, 1) := by decide +kernel
theorem dL_deed_2 : decode cL_deed 2 = .ok (.iload_n 2, 1) := by decide +kernel
theorem dL_deed_3 : decode cL_deed 3 = .ok (.iload_n 3, 1) := by decide +kernel
theorem dL_deed_4 : decode cL_deed 4 = .ok (.iload 4, 2) := by decide +kernel
theorem dL_deed_6 : decode cL_deed 6 = .ok (.iload 5, 2) := by decide +kernel
theorem dL_deed_8 : decode cL_deed 8 = .ok (.invokestatic 69, 3) := by decide +kernel
theorem dL_deed_11 : decode cL_deed 11 = .ok (.ireturn, 1) := by decide +kernel
theorem dL_deed_12 : decode cL_deed 12 = .ok (.astore 6, 2) := by decide +kernel
theorem dL_deed_14 : decode cL_deed 14 = .ok (.sipush (-2001), 3) := by decide +kernel
theorem dL_deed_17 : decode cL_deed 17 = .ok (.ireturn, 1) := by decide +kernel
theorem dL_deed_18 : decode cL_deed 18 = .ok (.astore 6, 2) := by decide +kernel
theorem dL_deed_20 : decode cL_deed 20 = .ok (.sipush (-2002), 3) := by decide +kernel
theorem dL_deed_23 : decode cL_deed 23 = .ok (.ireturn, 1) := by decide +kernel
theorem dL_deed_24 : decode cL_deed 24 = .ok (.astore 6, 2) := by decide +kernel
theorem dL_deed_26 : decode cL_deed 26 = .ok (.sipush (-2003), 3) := by decide +kernel
theorem dL_deed_29 : decode cL_deed 29 = .ok (.ireturn, 1) := by decide +kernel
theorem dL_deed_30 : decode cL_deed 30 = .ok (.astore 6, 2) := by decide +kernel
theorem dL_deed_32 : decode cL_deed 32 = .ok (.sipush (-2004), 3) := by decide +kernel
theorem dL_deed_35 : decode cL_deed 35 = .ok (.ireturn, 1) := by decide +kernel
theorem dL_deed_36 : decode cL_deed 36 = .ok (.astore 6, 2) := by decide +kernel
theorem dL_deed_38 : decode cL_deed 38 = .ok (.sipush (-2005), 3) := by decide +kernel
theorem dL_deed_41 : decode cL_deed 41 = .ok (.ireturn, 1) := by decide +kernel
theorem dL_asked_0 : decode cL_asked 0 = .ok (.iload_n 1, 1) := by decide +kernel
theorem dL_asked_1 : decode cL_asked 1 = .ok (.tableswitch 178 0 15 #[79, 85, 91, 97, 103, 109, 115, 120, 125, 134, 140, 146, 152, 158, 165, 171], 79) := by decide +kernel
theorem dL_asked_80 : decode cL_asked 80 = .ok (.aload_n 0, 1) := by decide +kernel
theorem dL_asked_81 : decode cL_asked 81 = .ok (.iload_n 2, 1) := by decide +kernel
theorem dL_asked_82 : decode cL_asked 82 = .ok (.invokevirtual 83, 3) := by decide +kernel
theorem dL_asked_85 : decode cL_asked 85 = .ok (.ireturn, 1) := by decide +kernel
theorem dL_asked_86 : decode cL_asked 86 = .ok (.aload_n 0, 1) := by decide +kernel
theorem dL_asked_87 : decode cL_asked 87 = .ok (.iload_n 2, 1) := by decide +kernel
theorem dL_asked_88 : decode cL_asked 88 = .ok (.invokevirtual 86, 3) := by decide +kernel
theorem dL_asked_91 : decode cL_asked 91 = .ok (.ireturn, 1) := by decide +kernel
theorem dL_asked_92 : decode cL_asked 92 = .ok (.aload_n 0, 1) := by decide +kernel
theorem dL_asked_93 : decode cL_asked 93 = .ok (.iload_n 2, 1) := by decide +kernel
theorem dL_asked_94 : decode cL_asked 94 = .ok (.invokevirtual 89, 3) := by decide +kernel
theorem dL_asked_97 : decode cL_asked 97 = .ok (.ireturn, 1) := by decide +kernel
theorem dL_asked_98 : decode cL_asked 98 = .ok (.aload_n 0, 1) := by decide +kernel
theorem dL_asked_99 : decode cL_asked 99 = .ok (.iload_n 2, 1) := by decide +kernel
theorem dL_asked_100 : decode cL_asked 100 = .ok (.invokevirtual 92, 3) := by decide +kernel
theorem dL_asked_103 : decode cL_asked 103 = .ok (.ireturn, 1) := by decide +kernel
theorem dL_asked_104 : decode cL_asked 104 = .ok (.aload_n 0, 1) := by decide +kernel
theorem dL_asked_105 : decode cL_asked 105 = .ok (.iload_n 2, 1) := by decide +kernel
theorem dL_asked_106 : decode cL_asked 106 = .ok (.invokevirtual 95, 3) := by decide +kernel
theorem dL_asked_109 : decode cL_asked 109 = .ok (.ireturn, 1) := by decide +kernel
theorem dL_asked_110 : decode cL_asked 110 = .ok (.aload_n 0, 1) := by decide +kernel
theorem dL_asked_111 : decode cL_asked 111 = .ok (.iload_n 2, 1) := by decide +kernel
theorem dL_asked_112 : decode cL_asked 112 = .ok (.invokevirtual 98, 3) := by decide +kernel
theorem dL_asked_115 : decode cL_asked 115 = .ok (.ireturn, 1) := by decide +kernel
theorem dL_asked_116 : decode cL_asked 116 = .ok (.aload_n 0, 1) := by decide +kernel
theorem dL_asked_117 : decode cL_asked 117 = .ok (.invokevirtual 101, 3) := by decide +kernel
theorem dL_asked_120 : decode cL_asked 120 = .ok (.ireturn, 1) := by decide +kernel
theorem dL_asked_121 : decode cL_asked 121 = .ok (.aload_n 0, 1) := by decide +kernel
theorem dL_asked_122 : decode cL_asked 122 = .ok (.invokevirtual 104, 3) := by decide +kernel
theorem dL_asked_125 : decode cL_asked 125 = .ok (.ireturn, 1) := by decide +kernel
theorem dL_asked_126 : decode cL_asked 126 = .ok (.aload_n 0, 1) := by decide +kernel
theorem dL_asked_127 : decode cL_asked 127 = .ok (.iload_n 2, 1) := by decide +kernel
theorem dL_asked_128 : decode cL_asked 128 = .ok (.invokevirtual 107, 3) := by decide +kernel
theorem dL_asked_131 : decode cL_asked 131 = .ok (.invokestatic 39, 3) := by decide +kernel
theorem dL_asked_134 : decode cL_asked 134 = .ok (.ireturn, 1) := by decide +kernel
theorem dL_asked_135 : decode cL_asked 135 = .ok (.aload_n 0, 1) := by decide +kernel
theorem dL_asked_136 : decode cL_asked 136 = .ok (.iload_n 2, 1) := by decide +kernel
theorem dL_asked_137 : decode cL_asked 137 = .ok (.invokevirtual 110, 3) := by decide +kernel
theorem dL_asked_140 : decode cL_asked 140 = .ok (.ireturn, 1) := by decide +kernel
theorem dL_asked_141 : decode cL_asked 141 = .ok (.aload_n 0, 1) := by decide +kernel
theorem dL_asked_142 : decode cL_asked 142 = .ok (.iload_n 2, 1) := by decide +kernel
theorem dL_asked_143 : decode cL_asked 143 = .ok (.invokevirtual 114, 3) := by decide +kernel
theorem dL_asked_146 : decode cL_asked 146 = .ok (.ireturn, 1) := by decide +kernel
theorem dL_asked_147 : decode cL_asked 147 = .ok (.aload_n 0, 1) := by decide +kernel
theorem dL_asked_148 : decode cL_asked 148 = .ok (.iload_n 2, 1) := by decide +kernel
theorem dL_asked_149 : decode cL_asked 149 = .ok (.invokevirtual 117, 3) := by decide +kernel
theorem dL_asked_152 : decode cL_asked 152 = .ok (.ireturn, 1) := by decide +kernel
theorem dL_asked_153 : decode cL_asked 153 = .ok (.aload_n 0, 1) := by decide +kernel
theorem dL_asked_154 : decode cL_asked 154 = .ok (.iload_n 2, 1) := by decide +kernel
theorem dL_asked_155 : decode cL_asked 155 = .ok (.invokevirtual 120, 3) := by decide +kernel
theorem dL_asked_158 : decode cL_asked 158 = .ok (.ireturn, 1) := by decide +kernel
theorem dL_asked_159 : decode cL_asked 159 = .ok (.aload_n 0, 1) := by decide +kernel
theorem dL_asked_160 : decode cL_asked 160 = .ok (.iload_n 2, 1) := by decide +kernel
theorem dL_asked_161 : decode cL_asked 161 = .ok (.iload_n 3, 1) := by decide +kernel
theorem dL_asked_162 : decode cL_asked 162 = .ok (.invokevirtual 123, 3) := by decide +kernel
theorem dL_asked_165 : decode cL_asked 165 = .ok (.ireturn, 1) := by decide +kernel
theorem dL_asked_166 : decode cL_asked 166 = .ok (.aload_n 0, 1) := by decide +kernel
theorem dL_asked_167 : decode cL_asked 167 = .ok (.iload_n 2, 1) := by decide +kernel
theorem dL_asked_168 : decode cL_asked 168 = .ok (.invokevirtual 126, 3) := by decide +kernel
theorem dL_asked_171 : decode cL_asked 171 = .ok (.ireturn, 1) := by decide +kernel
theorem dL_asked_172 : decode cL_asked 172 = .ok (.aload_n 0, 1) := by decide +kernel
theorem dL_asked_173 : decode cL_asked 173 = .ok (.iload_n 2, 1) := by decide +kernel
theorem dL_asked_174 : decode cL_asked 174 = .ok (.iload_n 3, 1) := by decide +kernel
theorem dL_asked_175 : decode cL_asked 175 = .ok (.invokevirtual 129, 3) := by decide +kernel
theorem dL_asked_178 : decode cL_asked 178 = .ok (.ireturn, 1) := by decide +kernel
theorem dL_asked_179 : decode cL_asked 179 = .ok (.aload_n 0, 1) := by decide +kernel
theorem dL_asked_180 : decode cL_asked 180 = .ok (.iload_n 2, 1) := by decide +kernel
theorem dL_asked_181 : decode cL_asked 181 = .ok (.iload_n 3, 1) := by decide +kernel
theorem dL_asked_182 : decode cL_asked 182 = .ok (.invokevirtual 132, 3) := by decide +kernel
theorem dL_asked_185 : decode cL_asked 185 = .ok (.ireturn, 1) := by decide +kernel
theorem dL_ask_0 : decode cL_ask 0 = .ok (.aload_n 0, 1) := by decide +kernel
theorem dL_ask_1 : decode cL_ask 1 = .ok (.iload_n 1, 1) := by decide +kernel
theorem dL_ask_2 : decode cL_ask 2 = .ok (.iload_n 2, 1) := by decide +kernel
theorem dL_ask_3 : decode cL_ask 3 = .ok (.iload_n 3, 1) := by decide +kernel
theorem dL_ask_4 : decode cL_ask 4 = .ok (.invokestatic 136, 3) := by decide +kernel
theorem dL_ask_7 : decode cL_ask 7 = .ok (.ireturn, 1) := by decide +kernel
theorem dL_ask_8 : decode cL_ask 8 = .ok (.astore 4, 2) := by decide +kernel
theorem dL_ask_10 : decode cL_ask 10 = .ok (.sipush (-2001), 3) := by decide +kernel
theorem dL_ask_13 : decode cL_ask 13 = .ok (.ireturn, 1) := by decide +kernel
theorem dL_ask_14 : decode cL_ask 14 = .ok (.astore 4, 2) := by decide +kernel
theorem dL_ask_16 : decode cL_ask 16 = .ok (.sipush (-2003), 3) := by decide +kernel
theorem dL_ask_19 : decode cL_ask 19 = .ok (.ireturn, 1) := by decide +kernel
theorem dL_ask_20 : decode cL_ask 20 = .ok (.astore 4, 2) := by decide +kernel
theorem dL_ask_22 : decode cL_ask 22 = .ok (.sipush (-2005), 3) := by decide +kernel
theorem dL_ask_25 : decode cL_ask 25 = .ok (.ireturn, 1) := by decide +kernel
theorem dL_mark_0 : decode cL_mark 0 = .ok (.iload_n 0, 1) := by decide +kernel
theorem dL_mark_1 : decode cL_mark 1 = .ok (.ifCond .ne 8, 3) := by decide +kernel
theorem dL_mark_4 : decode cL_mark 4 = .ok (.bipush 46, 2) := by decide +kernel
theorem dL_mark_6 : decode cL_mark 6 = .ok (.goto 35, 3) := by decide +kernel
theorem dL_mark_9 : decode cL_mark 9 = .ok (.iload_n 0, 1) := by decide +kernel
theorem dL_mark_10 : decode cL_mark 10 = .ok (.iconst 1, 1) := by decide +kernel
theorem dL_mark_11 : decode cL_mark 11 = .ok (.if_icmp .ne 8, 3) := by decide +kernel
theorem dL_mark_14 : decode cL_mark 14 = .ok (.bipush 33, 2) := by decide +kernel
theorem dL_mark_16 : decode cL_mark 16 = .ok (.goto 25, 3) := by decide +kernel
theorem dL_mark_19 : decode cL_mark 19 = .ok (.iload_n 0, 1) := by decide +kernel
theorem dL_mark_20 : decode cL_mark 20 = .ok (.iconst 2, 1) := by decide +kernel
theorem dL_mark_21 : decode cL_mark 21 = .ok (.if_icmp .ne 8, 3) := by decide +kernel
theorem dL_mark_24 : decode cL_mark 24 = .ok (.bipush 63, 2) := by decide +kernel
theorem dL_mark_26 : decode cL_mark 26 = .ok (.goto 15, 3) := by decide +kernel
theorem dL_mark_29 : decode cL_mark 29 = .ok (.iload_n 0, 1) := by decide +kernel
theorem dL_mark_30 : decode cL_mark 30 = .ok (.iconst 3, 1) := by decide +kernel
theorem dL_mark_31 : decode cL_mark 31 = .ok (.if_icmp .ne 8, 3) := by decide +kernel
theorem dL_mark_34 : decode cL_mark 34 = .ok (.bipush 44, 2) := by decide +kernel
theorem dL_mark_36 : decode cL_mark 36 = .ok (.goto 5, 3) := by decide +kernel
theorem dL_mark_39 : decode cL_mark 39 = .ok (.bipush 59, 2) := by decide +kernel
theorem dL_mark_41 : decode cL_mark 41 = .ok (.ireturn, 1) := by decide +kernel
theorem dL_token_0 : decode cL_token 0 = .ok (.aload_n 0, 1) := by decide +kernel
theorem dL_token_1 : decode cL_token 1 = .ok (.iload_n 1, 1) := by decide +kernel
theorem dL_token_2 : decode cL_token 2 = .ok (.bipush 8, 2) := by decide +kernel
theorem dL_token_4 : decode cL_token 4 = .ok (.invokestatic 140, 3) := by decide +kernel
theorem dL_token_7 : decode cL_token 7 = .ok (.istore_n 2, 1) := by decide +kernel
theorem dL_token_8 : decode cL_token 8 = .ok (.aload_n 0, 1) := by decide +kernel
theorem dL_token_9 : decode cL_token 9 = .ok (.iload_n 1, 1) := by decide +kernel
theorem dL_token_10 : decode cL_token 10 = .ok (.sipush 3000, 3) := by decide +kernel
theorem dL_token_13 : decode cL_token 13 = .ok (.iadd, 1) := by decide +kernel
theorem dL_token_14 : decode cL_token 14 = .ok (.invokestatic 9, 3) := by decide +kernel
theorem dL_token_17 : decode cL_token 17 = .ok (.iconst 5, 1) := by decide +kernel
theorem dL_token_18 : decode cL_token 18 = .ok (.iushr, 1) := by decide +kernel
theorem dL_token_19 : decode cL_token 19 = .ok (.istore_n 3, 1) := by decide +kernel
theorem dL_token_20 : decode cL_token 20 = .ok (.iload_n 2, 1) := by decide +kernel
theorem dL_token_21 : decode cL_token 21 = .ok (.iconst 4, 1) := by decide +kernel
theorem dL_token_22 : decode cL_token 22 = .ok (.if_icmp .ge 10, 3) := by decide +kernel
theorem dL_token_25 : decode cL_token 25 = .ok (.iload_n 3, 1) := by decide +kernel
theorem dL_token_26 : decode cL_token 26 = .ok (.bipush 24, 2) := by decide +kernel
theorem dL_token_28 : decode cL_token 28 = .ok (.irem, 1) := by decide +kernel
theorem dL_token_29 : decode cL_token 29 = .ok (.goto 43, 3) := by decide +kernel
theorem dL_token_32 : decode cL_token 32 = .ok (.iload_n 2, 1) := by decide +kernel
theorem dL_token_33 : decode cL_token 33 = .ok (.iconst 4, 1) := by decide +kernel
theorem dL_token_34 : decode cL_token 34 = .ok (.if_icmp .ne 13, 3) := by decide +kernel
theorem dL_token_37 : decode cL_token 37 = .ok (.sipush 10000, 3) := by decide +kernel
theorem dL_token_40 : decode cL_token 40 = .ok (.iload_n 3, 1) := by decide +kernel
theorem dL_token_41 : decode cL_token 41 = .ok (.iconst 4, 1) := by decide +kernel
theorem dL_token_42 : decode cL_token 42 = .ok (.irem, 1) := by decide +kernel
theorem dL_token_43 : decode cL_token 43 = .ok (.iadd, 1) := by decide +kernel
theorem dL_token_44 : decode cL_token 44 = .ok (.goto 28, 3) := by decide +kernel
theorem dL_token_47 : decode cL_token 47 = .ok (.iload_n 2, 1) := by decide +kernel
theorem dL_token_48 : decode cL_token 48 = .ok (.iconst 5, 1) := by decide +kernel
theorem dL_token_49 : decode cL_token 49 = .ok (.if_icmp .ne 13, 3) := by decide +kernel
theorem dL_token_52 : decode cL_token 52 = .ok (.sipush 20000, 3) := by decide +kernel
theorem dL_token_55 : decode cL_token 55 = .ok (.iload_n 3, 1) := by decide +kernel
theorem dL_token_56 : decode cL_token 56 = .ok (.iconst 3, 1) := by decide +kernel
theorem dL_token_57 : decode cL_token 57 = .ok (.irem, 1) := by decide +kernel
theorem dL_token_58 : decode cL_token 58 = .ok (.iadd, 1) := by decide +kernel
theorem dL_token_59 : decode cL_token 59 = .ok (.goto 13, 3) := by decide +kernel
theorem dL_token_62 : decode cL_token 62 = .ok (.sipush 30000, 3) := by decide +kernel
theorem dL_token_65 : decode cL_token 65 = .ok (.iload_n 3, 1) := by decide +kernel
theorem dL_token_66 : decode cL_token 66 = .ok (.iconst 5, 1) := by decide +kernel
theorem dL_token_67 : decode cL_token 67 = .ok (.irem, 1) := by decide +kernel
theorem dL_token_68 : decode cL_token 68 = .ok (.invokestatic 144, 3) := by decide +kernel
theorem dL_token_71 : decode cL_token 71 = .ok (.iadd, 1) := by decide +kernel
theorem dL_token_72 : decode cL_token 72 = .ok (.ireturn, 1) := by decide +kernel
theorem dL_text_0 : decode cL_text 0 = .ok (.bipush 61, 2) := by decide +kernel
theorem dL_text_2 : decode cL_text 2 = .ok (.newarray .int, 2) := by decide +kernel
theorem dL_text_4 : decode cL_text 4 = .ok (.astore_n 3, 1) := by decide +kernel
theorem dL_text_5 : decode cL_text 5 = .ok (.aload_n 3, 1) := by decide +kernel
theorem dL_text_6 : decode cL_text 6 = .ok (.iconst 0, 1) := by decide +kernel
theorem dL_text_7 : decode cL_text 7 = .ok (.iconst 1, 1) := by decide +kernel
theorem dL_text_8 : decode cL_text 8 = .ok (.aload_n 0, 1) := by decide +kernel
theorem dL_text_9 : decode cL_text 9 = .ok (.iload_n 1, 1) := by decide +kernel
theorem dL_text_10 : decode cL_text 10 = .ok (.iload_n 2, 1) := by decide +kernel
theorem dL_text_11 : decode cL_text 11 = .ok (.invokestatic 140, 3) := by decide +kernel
theorem dL_text_14 : decode cL_text 14 = .ok (.iadd, 1) := by decide +kernel
theorem dL_text_15 : decode cL_text 15 = .ok (.iastore, 1) := by decide +kernel
theorem dL_text_16 : decode cL_text 16 = .ok (.iconst 1, 1) := by decide +kernel
theorem dL_text_17 : decode cL_text 17 = .ok (.istore 4, 2) := by decide +kernel
theorem dL_text_19 : decode cL_text 19 = .ok (.iload 4, 2) := by decide +kernel
theorem dL_text_21 : decode cL_text 21 = .ok (.aload_n 3, 1) := by decide +kernel
theorem dL_text_22 : decode cL_text 22 = .ok (.iconst 0, 1) := by decide +kernel
theorem dL_text_23 : decode cL_text 23 = .ok (.iaload, 1) := by decide +kernel
theorem dL_text_24 : decode cL_text 24 = .ok (.if_icmp .gt 24, 3) := by decide +kernel
theorem dL_text_27 : decode cL_text 27 = .ok (.aload_n 3, 1) := by decide +kernel
theorem dL_text_28 : decode cL_text 28 = .ok (.iload 4, 2) := by decide +kernel
theorem dL_text_30 : decode cL_text 30 = .ok (.aload_n 0, 1) := by decide +kernel
theorem dL_text_31 : decode cL_text 31 = .ok (.iload_n 1, 1) := by decide +kernel
theorem dL_text_32 : decode cL_text 32 = .ok (.bipush 7, 2) := by decide +kernel
theorem dL_text_34 : decode cL_text 34 = .ok (.iload 4, 2) := by decide +kernel
theorem dL_text_36 : decode cL_text 36 = .ok (.imul, 1) := by decide +kernel
theorem dL_text_37 : decode cL_text 37 = .ok (.iadd, 1) := by decide +kernel
theorem dL_text_38 : decode cL_text 38 = .ok (.invokestatic 146, 3) := by decide +kernel
theorem dL_text_41 : decode cL_text 41 = .ok (.iastore, 1) := by decide +kernel
theorem dL_text_42 : decode cL_text 42 = .ok (.iinc 4 1, 3) := by decide +kernel
theorem dL_text_45 : decode cL_text 45 = .ok (.goto (-26), 3) := by decide +kernel
theorem dL_text_48 : decode cL_text 48 = .ok (.aload_n 3, 1) := by decide +kernel
theorem dL_text_49 : decode cL_text 49 = .ok (.areturn, 1) := by decide +kernel
theorem dL_like_0 : decode cL_like 0 = .ok (.bipush 61, 2) := by decide +kernel
theorem dL_like_2 : decode cL_like 2 = .ok (.newarray .int, 2) := by decide +kernel
theorem dL_like_4 : decode cL_like 4 = .ok (.astore_n 3, 1) := by decide +kernel
theorem dL_like_5 : decode cL_like 5 = .ok (.iconst 1, 1) := by decide +kernel
theorem dL_like_6 : decode cL_like 6 = .ok (.istore 4, 2) := by decide +kernel
theorem dL_like_8 : decode cL_like 8 = .ok (.iload 4, 2) := by decide +kernel
theorem dL_like_10 : decode cL_like 10 = .ok (.aload_n 0, 1) := by decide +kernel
theorem dL_like_11 : decode cL_like 11 = .ok (.iconst 0, 1) := by decide +kernel
theorem dL_like_12 : decode cL_like 12 = .ok (.iaload, 1) := by decide +kernel
theorem dL_like_13 : decode cL_like 13 = .ok (.if_icmp .gt 67, 3) := by decide +kernel
theorem dL_like_16 : decode cL_like 16 = .ok (.aload_n 1, 1) := by decide +kernel
theorem dL_like_17 : decode cL_like 17 = .ok (.iload_n 2, 1) := by decide +kernel
theorem dL_like_18 : decode cL_like 18 = .ok (.iload 4, 2) := by decide +kernel
theorem dL_like_20 : decode cL_like 20 = .ok (.iadd, 1) := by decide +kernel
theorem dL_like_21 : decode cL_like 21 = .ok (.bipush 7, 2) := by decide +kernel
theorem dL_like_23 : decode cL_like 23 = .ok (.invokestatic 140, 3) := by decide +kernel
theorem dL_like_26 : decode cL_like 26 = .ok (.istore 5, 2) := by decide +kernel
theorem dL_like_28 : decode cL_like 28 = .ok (.iload 5, 2) := by decide +kernel
theorem dL_like_30 : decode cL_like 30 = .ok (.ifCond .gt 9, 3) := by decide +kernel
theorem dL_like_33 : decode cL_like 33 = .ok (.iload 4, 2) := by decide +kernel
theorem dL_like_35 : decode cL_like 35 = .ok (.iconst 1, 1) := by decide +kernel
theorem dL_like_36 : decode cL_like 36 = .ok (.if_icmp .ne 38, 3) := by decide +kernel
theorem dL_like_39 : decode cL_like 39 = .ok (.aload_n 3, 1) := by decide +kernel
theorem dL_like_40 : decode cL_like 40 = .ok (.iconst 0, 1) := by decide +kernel
theorem dL_like_41 : decode cL_like 41 = .ok (.dup2, 1) := by decide +kernel
theorem dL_like_42 : decode cL_like 42 = .ok (.iaload, 1) := by decide +kernel
theorem dL_like_43 : decode cL_like 43 = .ok (.iconst 1, 1) := by decide +kernel
theorem dL_like_44 : decode cL_like 44 = .ok (.iadd, 1) := by decide +kernel
theorem dL_like_45 : decode cL_like 45 = .ok (.iastore, 1) := by decide +kernel
theorem dL_like_46 : decode cL_like 46 = .ok (.aload_n 3, 1) := by decide +kernel
theorem dL_like_47 : decode cL_like 47 = .ok (.aload_n 3, 1) := by decide +kernel
theorem dL_like_48 : decode cL_like 48 = .ok (.iconst 0, 1) := by decide +kernel
theorem dL_like_49 : decode cL_like 49 = .ok (.iaload, 1) := by decide +kernel
theorem dL_like_50 : decode cL_like 50 = .ok (.iload 5, 2) := by decide +kernel
theorem dL_like_52 : decode cL_like 52 = .ok (.iconst 1, 1) := by decide +kernel
theorem dL_like_53 : decode cL_like 53 = .ok (.if_icmp .ne 16, 3) := by decide +kernel
theorem dL_like_56 : decode cL_like 56 = .ok (.aload_n 1, 1) := by decide +kernel
theorem dL_like_57 : decode cL_like 57 = .ok (.iload_n 2, 1) := by decide +kernel
theorem dL_like_58 : decode cL_like 58 = .ok (.iconst 5, 1) := by decide +kernel
theorem dL_like_59 : decode cL_like 59 = .ok (.iload 4, 2) := by decide +kernel
theorem dL_like_61 : decode cL_like 61 = .ok (.imul, 1) := by decide +kernel
theorem dL_like_62 : decode cL_like 62 = .ok (.iadd, 1) := by decide +kernel
theorem dL_like_63 : decode cL_like 63 = .ok (.invokestatic 146, 3) := by decide +kernel
theorem dL_like_66 : decode cL_like 66 = .ok (.goto 7, 3) := by decide +kernel
theorem dL_like_69 : decode cL_like 69 = .ok (.aload_n 0, 1) := by decide +kernel
theorem dL_like_70 : decode cL_like 70 = .ok (.iload 4, 2) := by decide +kernel
theorem dL_like_72 : decode cL_like 72 = .ok (.iaload, 1) := by decide +kernel
theorem dL_like_73 : decode cL_like 73 = .ok (.iastore, 1) := by decide +kernel
theorem dL_like_74 : decode cL_like 74 = .ok (.iinc 4 1, 3) := by decide +kernel
theorem dL_like_77 : decode cL_like 77 = .ok (.goto (-69), 3) := by decide +kernel
theorem dL_like_80 : decode cL_like 80 = .ok (.aload_n 3, 1) := by decide +kernel
theorem dL_like_81 : decode cL_like 81 = .ok (.areturn, 1) := by decide +kernel
theorem dL_types_0 : decode cL_types 0 = .ok (.aload_n 0, 1) := by decide +kernel
theorem dL_types_1 : decode cL_types 1 = .ok (.invokevirtual 149, 3) := by decide +kernel
theorem dL_types_4 : decode cL_types 4 = .ok (.ifCond .lt 7, 3) := by decide +kernel
theorem dL_types_7 : decode cL_types 7 = .ok (.iconst 1, 1) := by decide +kernel
theorem dL_types_8 : decode cL_types 8 = .ok (.goto 4, 3) := by decide +kernel
theorem dL_types_11 : decode cL_types 11 = .ok (.iconst 0, 1) := by decide +kernel
theorem dL_types_12 : decode cL_types 12 = .ok (.istore_n 2, 1) := by decide +kernel
theorem dL_types_13 : decode cL_types 13 = .ok (.iconst 1, 1) := by decide +kernel
theorem dL_types_14 : decode cL_types 14 = .ok (.istore_n 3, 1) := by decide +kernel
theorem dL_types_15 : decode cL_types 15 = .ok (.iload_n 3, 1) := by decide +kernel
theorem dL_types_16 : decode cL_types 16 = .ok (.aload_n 1, 1) := by decide +kernel
theorem dL_types_17 : decode cL_types 17 = .ok (.iconst 0, 1) := by decide +kernel
theorem dL_types_18 : decode cL_types 18 = .ok (.iaload, 1) := by decide +kernel
theorem dL_types_19 : decode cL_types 19 = .ok (.if_icmp .gt 44, 3) := by decide +kernel
theorem dL_types_22 : decode cL_types 22 = .ok (.iload_n 2, 1) := by decide +kernel
theorem dL_types_23 : decode cL_types 23 = .ok (.ifCond .eq 32, 3) := by decide +kernel
theorem dL_types_26 : decode cL_types 26 = .ok (.aload_n 0, 1) := by decide +kernel
theorem dL_types_27 : decode cL_types 27 = .ok (.aload_n 1, 1) := by decide +kernel
theorem dL_types_28 : decode cL_types 28 = .ok (.iload_n 3, 1) := by decide +kernel
theorem dL_types_29 : decode cL_types 29 = .ok (.iaload, 1) := by decide +kernel
theorem dL_types_30 : decode cL_types 30 = .ok (.sipush 10000, 3) := by decide +kernel
theorem dL_types_33 : decode cL_types 33 = .ok (.idiv, 1) := by decide +kernel
theorem dL_types_34 : decode cL_types 34 = .ok (.aload_n 1, 1) := by decide +kernel
theorem dL_types_35 : decode cL_types 35 = .ok (.iload_n 3, 1) := by decide +kernel
theorem dL_types_36 : decode cL_types 36 = .ok (.iaload, 1) := by decide +kernel
theorem dL_types_37 : decode cL_types 37 = .ok (.sipush 10000, 3) := by decide +kernel
theorem dL_types_40 : decode cL_types 40 = .ok (.irem, 1) := by decide +kernel
theorem dL_types_41 : decode cL_types 41 = .ok (.iconst 0, 1) := by decide +kernel
theorem dL_types_42 : decode cL_types 42 = .ok (.iconst 0, 1) := by decide +kernel
theorem dL_types_43 : decode cL_types 43 = .ok (.iconst 0, 1) := by decide +kernel
theorem dL_types_44 : decode cL_types 44 = .ok (.invokestatic 152, 3) := by decide +kernel
theorem dL_types_47 : decode cL_types 47 = .ok (.iload_n 3, 1) := by decide +kernel
theorem dL_types_48 : decode cL_types 48 = .ok (.if_icmp .ne 7, 3) := by decide +kernel
theorem dL_types_51 : decode cL_types 51 = .ok (.iconst 1, 1) := by decide +kernel
theorem dL_types_52 : decode cL_types 52 = .ok (.goto 4, 3) := by decide +kernel
theorem dL_types_55 : decode cL_types 55 = .ok (.iconst 0, 1) := by decide +kernel
theorem dL_types_56 : decode cL_types 56 = .ok (.istore_n 2, 1) := by decide +kernel
theorem dL_types_57 : decode cL_types 57 = .ok (.iinc 3 1, 3) := by decide +kernel
theorem dL_types_60 : decode cL_types 60 = .ok (.goto (-45), 3) := by decide +kernel
theorem dL_types_63 : decode cL_types 63 = .ok (.iload_n 2, 1) := by decide +kernel
theorem dL_types_64 : decode cL_types 64 = .ok (.ireturn, 1) := by decide +kernel
theorem dL_unit_0 : decode cL_unit 0 = .ok (.aload_n 0, 1) := by decide +kernel
theorem dL_unit_1 : decode cL_unit 1 = .ok (.aload_n 1, 1) := by decide +kernel
theorem dL_unit_2 : decode cL_unit 2 = .ok (.invokestatic 155, 3) := by decide +kernel
theorem dL_unit_5 : decode cL_unit 5 = .ok (.ifCond .eq 31, 3) := by decide +kernel
theorem dL_unit_8 : decode cL_unit 8 = .ok (.aload_n 0, 1) := by decide +kernel
theorem dL_unit_9 : decode cL_unit 9 = .ok (.bipush 7, 2) := by decide +kernel
theorem dL_unit_11 : decode cL_unit 11 = .ok (.iconst 0, 1) := by decide +kernel
theorem dL_unit_12 : decode cL_unit 12 = .ok (.iconst 0, 1) := by decide +kernel
theorem dL_unit_13 : decode cL_unit 13 = .ok (.iconst 0, 1) := by decide +kernel
theorem dL_unit_14 : decode cL_unit 14 = .ok (.iconst 0, 1) := by decide +kernel
theorem dL_unit_15 : decode cL_unit 15 = .ok (.invokestatic 152, 3) := by decide +kernel
theorem dL_unit_18 : decode cL_unit 18 = .ok (.aload_n 1, 1) := by decide +kernel
theorem dL_unit_19 : decode cL_unit 19 = .ok (.iconst 0, 1) := by decide +kernel
theorem dL_unit_20 : decode cL_unit 20 = .ok (.iaload, 1) := by decide +kernel
theorem dL_unit_21 : decode cL_unit 21 = .ok (.if_icmp .ne 15, 3) := by decide +kernel
theorem dL_unit_24 : decode cL_unit 24 = .ok (.aload_n 0, 1) := by decide +kernel
theorem dL_unit_25 : decode cL_unit 25 = .ok (.aload_n 2, 1) := by decide +kernel
theorem dL_unit_26 : decode cL_unit 26 = .ok (.invokestatic 155, 3) := by decide +kernel
theorem dL_unit_29 : decode cL_unit 29 = .ok (.ifCond .eq 7, 3) := by decide +kernel
theorem dL_unit_32 : decode cL_unit 32 = .ok (.iconst 1, 1) := by decide +kernel
theorem dL_unit_33 : decode cL_unit 33 = .ok (.goto 4, 3) := by decide +kernel
theorem dL_unit_36 : decode cL_unit 36 = .ok (.iconst 0, 1) := by decide +kernel
theorem dL_unit_37 : decode cL_unit 37 = .ok (.istore_n 3, 1) := by decide +kernel
theorem dL_unit_38 : decode cL_unit 38 = .ok (.iload_n 3, 1) := by decide +kernel
theorem dL_unit_39 : decode cL_unit 39 = .ok (.ifCond .eq 16, 3) := by decide +kernel
theorem dL_unit_42 : decode cL_unit 42 = .ok (.aload_n 0, 1) := by decide +kernel
theorem dL_unit_43 : decode cL_unit 43 = .ok (.bipush 8, 2) := by decide +kernel
theorem dL_unit_45 : decode cL_unit 45 = .ok (.iconst 0, 1) := by decide +kernel
theorem dL_unit_46 : decode cL_unit 46 = .ok (.iconst 0, 1) := by decide +kernel
theorem dL_unit_47 : decode cL_unit 47 = .ok (.iconst 0, 1) := by decide +kernel
theorem dL_unit_48 : decode cL_unit 48 = .ok (.iconst 0, 1) := by decide +kernel
theorem dL_unit_49 : decode cL_unit 49 = .ok (.invokestatic 152, 3) := by decide +kernel
theorem dL_unit_52 : decode cL_unit 52 = .ok (.goto 5, 3) := by decide +kernel
theorem dL_unit_55 : decode cL_unit 55 = .ok (.bipush (-9), 2) := by decide +kernel
theorem dL_unit_57 : decode cL_unit 57 = .ok (.ireturn, 1) := by decide +kernel
theorem dL_isSegment_0 : decode cL_isSegment 0 = .ok (.aload_n 0, 1) := by decide +kernel
theorem dL_isSegment_1 : decode cL_isSegment 1 = .ok (.bipush 12, 2) := by decide +kernel
theorem dL_isSegment_3 : decode cL_isSegment 3 = .ok (.iload_n 1, 1) := by decide +kernel
theorem dL_isSegment_4 : decode cL_isSegment 4 = .ok (.iconst 0, 1) := by decide +kernel
theorem dL_isSegment_5 : decode cL_isSegment 5 = .ok (.invokestatic 159, 3) := by decide +kernel
theorem dL_isSegment_8 : decode cL_isSegment 8 = .ok (.iload 4, 2) := by decide +kernel
theorem dL_isSegment_10 : decode cL_isSegment 10 = .ok (.if_icmp .ne 22, 3) := by decide +kernel
theorem dL_isSegment_13 : decode cL_isSegment 13 = .ok (.aload_n 0, 1) := by decide +kernel
theorem dL_isSegment_14 : decode cL_isSegment 14 = .ok (.bipush 13, 2) := by decide +kernel
theorem dL_isSegment_16 : decode cL_isSegment 16 = .ok (.iload_n 1, 1) := by decide +kernel
theorem dL_isSegment_17 : decode cL_isSegment 17 = .ok (.iload 4, 2) := by decide +kernel
theorem dL_isSegment_19 : decode cL_isSegment 19 = .ok (.invokestatic 159, 3) := by decide +kernel
theorem dL_isSegment_22 : decode cL_isSegment 22 = .ok (.sipush (-2001), 3) := by decide +kernel
theorem dL_isSegment_25 : decode cL_isSegment 25 = .ok (.if_icmp .ne 7, 3) := by decide +kernel
theorem dL_isSegment_28 : decode cL_isSegment 28 = .ok (.iconst 1, 1) := by decide +kernel
theorem dL_isSegment_29 : decode cL_isSegment 29 = .ok (.goto 4, 3) := by decide +kernel
theorem dL_isSegment_32 : decode cL_isSegment 32 = .ok (.iconst 0, 1) := by decide +kernel
theorem dL_isSegment_33 : decode cL_isSegment 33 = .ok (.istore 5, 2) := by decide +kernel
theorem dL_isSegment_35 : decode cL_isSegment 35 = .ok (.iconst 0, 1) := by decide +kernel
theorem dL_isSegment_36 : decode cL_isSegment 36 = .ok (.istore 6, 2) := by decide +kernel
theorem dL_isSegment_38 : decode cL_isSegment 38 = .ok (.iload 6, 2) := by decide +kernel
theorem dL_isSegment_40 : decode cL_isSegment 40 = .ok (.iload 4, 2) := by decide +kernel
theorem dL_isSegment_42 : decode cL_isSegment 42 = .ok (.if_icmp .ge 43, 3) := by decide +kernel
theorem dL_isSegment_45 : decode cL_isSegment 45 = .ok (.iload 5, 2) := by decide +kernel
theorem dL_isSegment_47 : decode cL_isSegment 47 = .ok (.ifCond .eq 38, 3) := by decide +kernel
theorem dL_isSegment_50 : decode cL_isSegment 50 = .ok (.aload_n 0, 1) := by decide +kernel
theorem dL_isSegment_51 : decode cL_isSegment 51 = .ok (.bipush 13, 2) := by decide +kernel
theorem dL_isSegment_53 : decode cL_isSegment 53 = .ok (.iload_n 1, 1) := by decide +kernel
theorem dL_isSegment_54 : decode cL_isSegment 54 = .ok (.iload 6, 2) := by decide +kernel
theorem dL_isSegment_56 : decode cL_isSegment 56 = .ok (.invokestatic 159, 3) := by decide +kernel
theorem dL_isSegment_59 : decode cL_isSegment 59 = .ok (.aload_n 2, 1) := by decide +kernel
theorem dL_isSegment_60 : decode cL_isSegment 60 = .ok (.iload_n 3, 1) := by decide +kernel
theorem dL_isSegment_61 : decode cL_isSegment 61 = .ok (.iload 6, 2) := by decide +kernel
theorem dL_isSegment_63 : decode cL_isSegment 63 = .ok (.iadd, 1) := by decide +kernel
theorem dL_isSegment_64 : decode cL_isSegment 64 = .ok (.iaload, 1) := by decide +kernel
theorem dL_isSegment_65 : decode cL_isSegment 65 = .ok (.sipush 10000, 3) := by decide +kernel
theorem dL_isSegment_68 : decode cL_isSegment 68 = .ok (.irem, 1) := by decide +kernel
theorem dL_isSegment_69 : decode cL_isSegment 69 = .ok (.if_icmp .ne 7, 3) := by decide +kernel
theorem dL_isSegment_72 : decode cL_isSegment 72 = .ok (.iconst 1, 1) := by decide +kernel
theorem dL_isSegment_73 : decode cL_isSegment 73 = .ok (.goto 4, 3) := by decide +kernel
theorem dL_isSegment_76 : decode cL_isSegment 76 = .ok (.iconst 0, 1) := by decide +kernel
theorem dL_isSegment_77 : decode cL_isSegment 77 = .ok (.istore 5, 2) := by decide +kernel
theorem dL_isSegment_79 : decode cL_isSegment 79 = .ok (.iinc 6 1, 3) := by decide +kernel
theorem dL_isSegment_82 : decode cL_isSegment 82 = .ok (.goto (-44), 3) := by decide +kernel
theorem dL_isSegment_85 : decode cL_isSegment 85 = .ok (.iload 5, 2) := by decide +kernel
theorem dL_isSegment_87 : decode cL_isSegment 87 = .ok (.ireturn, 1) := by decide +kernel
theorem dL_isTarget_0 : decode cL_isTarget 0 = .ok (.aload_n 0, 1) := by decide +kernel
theorem dL_isTarget_1 : decode cL_isTarget 1 = .ok (.bipush 14, 2) := by decide +kernel
theorem dL_isTarget_3 : decode cL_isTarget 3 = .ok (.iload_n 1, 1) := by decide +kernel
theorem dL_isTarget_4 : decode cL_isTarget 4 = .ok (.iconst 0, 1) := by decide +kernel
theorem dL_isTarget_5 : decode cL_isTarget 5 = .ok (.invokestatic 159, 3) := by decide +kernel
theorem dL_isTarget_8 : decode cL_isTarget 8 = .ok (.aload_n 2, 1) := by decide +kernel
theorem dL_isTarget_9 : decode cL_isTarget 9 = .ok (.iconst 0, 1) := by decide +kernel
theorem dL_isTarget_10 : decode cL_isTarget 10 = .ok (.iaload, 1) := by decide +kernel
theorem dL_isTarget_11 : decode cL_isTarget 11 = .ok (.if_icmp .ne 39, 3) := by decide +kernel
theorem dL_isTarget_14 : decode cL_isTarget 14 = .ok (.aload_n 0, 1) := by decide +kernel
theorem dL_isTarget_15 : decode cL_isTarget 15 = .ok (.bipush 15, 2) := by decide +kernel
theorem dL_isTarget_17 : decode cL_isTarget 17 = .ok (.iload_n 1, 1) := by decide +kernel
theorem dL_isTarget_18 : decode cL_isTarget 18 = .ok (.aload_n 2, 1) := by decide +kernel
theorem dL_isTarget_19 : decode cL_isTarget 19 = .ok (.iconst 0, 1) := by decide +kernel
theorem dL_isTarget_20 : decode cL_isTarget 20 = .ok (.iaload, 1) := by decide +kernel
theorem dL_isTarget_21 : decode cL_isTarget 21 = .ok (.invokestatic 159, 3) := by decide +kernel
theorem dL_isTarget_24 : decode cL_isTarget 24 = .ok (.sipush (-2005), 3) := by decide +kernel
theorem dL_isTarget_27 : decode cL_isTarget 27 = .ok (.if_icmp .ne 23, 3) := by decide +kernel
theorem dL_isTarget_30 : decode cL_isTarget 30 = .ok (.aload_n 0, 1) := by decide +kernel
theorem dL_isTarget_31 : decode cL_isTarget 31 = .ok (.bipush 16, 2) := by decide +kernel
theorem dL_isTarget_33 : decode cL_isTarget 33 = .ok (.iload_n 1, 1) := by decide +kernel
theorem dL_isTarget_34 : decode cL_isTarget 34 = .ok (.aload_n 2, 1) := by decide +kernel
theorem dL_isTarget_35 : decode cL_isTarget 35 = .ok (.iconst 0, 1) := by decide +kernel
theorem dL_isTarget_36 : decode cL_isTarget 36 = .ok (.iaload, 1) := by decide +kernel
theorem dL_isTarget_37 : decode cL_isTarget 37 = .ok (.invokestatic 159, 3) := by decide +kernel
theorem dL_isTarget_40 : decode cL_isTarget 40 = .ok (.sipush (-2005), 3) := by decide +kernel
theorem dL_isTarget_43 : decode cL_isTarget 43 = .ok (.if_icmp .ne 7, 3) := by decide +kernel
theorem dL_isTarget_46 : decode cL_isTarget 46 = .ok (.iconst 1, 1) := by decide +kernel
theorem dL_isTarget_47 : decode cL_isTarget 47 = .ok (.goto 4, 3) := by decide +kernel
theorem dL_isTarget_50 : decode cL_isTarget 50 = .ok (.iconst 0, 1) := by decide +kernel
theorem dL_isTarget_51 : decode cL_isTarget 51 = .ok (.istore_n 3, 1) := by decide +kernel
theorem dL_isTarget_52 : decode cL_isTarget 52 = .ok (.iconst 0, 1) := by decide +kernel
theorem dL_isTarget_53 : decode cL_isTarget 53 = .ok (.istore 4, 2) := by decide +kernel
theorem dL_isTarget_55 : decode cL_isTarget 55 = .ok (.iload 4, 2) := by decide +kernel
theorem dL_isTarget_57 : decode cL_isTarget 57 = .ok (.aload_n 2, 1) := by decide +kernel
theorem dL_isTarget_58 : decode cL_isTarget 58 = .ok (.iconst 0, 1) := by decide +kernel
theorem dL_isTarget_59 : decode cL_isTarget 59 = .ok (.iaload, 1) := by decide +kernel
theorem dL_isTarget_60 : decode cL_isTarget 60 = .ok (.if_icmp .ge 99, 3) := by decide +kernel
theorem dL_isTarget_63 : decode cL_isTarget 63 = .ok (.iload_n 3, 1) := by decide +kernel
theorem dL_isTarget_64 : decode cL_isTarget 64 = .ok (.ifCond .eq 95, 3) := by decide +kernel
theorem dL_isTarget_67 : decode cL_isTarget 67 = .ok (.aload_n 2, 1) := by decide +kernel
theorem dL_isTarget_68 : decode cL_isTarget 68 = .ok (.iload 4, 2) := by decide +kernel
theorem dL_isTarget_70 : decode cL_isTarget 70 = .ok (.iconst 1, 1) := by decide +kernel
theorem dL_isTarget_71 : decode cL_isTarget 71 = .ok (.iadd, 1) := by decide +kernel
theorem dL_isTarget_72 : decode cL_isTarget 72 = .ok (.iaload, 1) := by decide +kernel
theorem dL_isTarget_73 : decode cL_isTarget 73 = .ok (.sipush 10000, 3) := by decide +kernel
theorem dL_isTarget_76 : decode cL_isTarget 76 = .ok (.idiv, 1) := by decide +kernel
theorem dL_isTarget_77 : decode cL_isTarget 77 = .ok (.istore 5, 2) := by decide +kernel
theorem dL_isTarget_79 : decode cL_isTarget 79 = .ok (.aload_n 0, 1) := by decide +kernel
theorem dL_isTarget_80 : decode cL_isTarget 80 = .ok (.bipush 15, 2) := by decide +kernel
theorem dL_isTarget_82 : decode cL_isTarget 82 = .ok (.iload_n 1, 1) := by decide +kernel
theorem dL_isTarget_83 : decode cL_isTarget 83 = .ok (.iload 4, 2) := by decide +kernel
theorem dL_isTarget_85 : decode cL_isTarget 85 = .ok (.invokestatic 159, 3) := by decide +kernel
theorem dL_isTarget_88 : decode cL_isTarget 88 = .ok (.aload_n 2, 1) := by decide +kernel
theorem dL_isTarget_89 : decode cL_isTarget 89 = .ok (.iload 4, 2) := by decide +kernel
theorem dL_isTarget_91 : decode cL_isTarget 91 = .ok (.iconst 1, 1) := by decide +kernel
theorem dL_isTarget_92 : decode cL_isTarget 92 = .ok (.iadd, 1) := by decide +kernel
theorem dL_isTarget_93 : decode cL_isTarget 93 = .ok (.iaload, 1) := by decide +kernel
theorem dL_isTarget_94 : decode cL_isTarget 94 = .ok (.sipush 10000, 3) := by decide +kernel
theorem dL_isTarget_97 : decode cL_isTarget 97 = .ok (.irem, 1) := by decide +kernel
theorem dL_isTarget_98 : decode cL_isTarget 98 = .ok (.if_icmp .ne 53, 3) := by decide +kernel
theorem dL_isTarget_101 : decode cL_isTarget 101 = .ok (.aload_n 0, 1) := by decide +kernel
theorem dL_isTarget_102 : decode cL_isTarget 102 = .ok (.bipush 16, 2) := by decide +kernel
theorem dL_isTarget_104 : decode cL_isTarget 104 = .ok (.iload_n 1, 1) := by decide +kernel
theorem dL_isTarget_105 : decode cL_isTarget 105 = .ok (.iload 4, 2) := by decide +kernel
theorem dL_isTarget_107 : decode cL_isTarget 107 = .ok (.invokestatic 159, 3) := by decide +kernel
theorem dL_isTarget_110 : decode cL_isTarget 110 = .ok (.iload 5, 2) := by decide +kernel
theorem dL_isTarget_112 : decode cL_isTarget 112 = .ok (.ifCond .ne 8, 3) := by decide +kernel
theorem dL_isTarget_115 : decode cL_isTarget 115 = .ok (.bipush 119, 2) := by decide +kernel
theorem dL_isTarget_117 : decode cL_isTarget 117 = .ok (.goto 27, 3) := by decide +kernel
theorem dL_isTarget_120 : decode cL_isTarget 120 = .ok (.iload 5, 2) := by decide +kernel
theorem dL_isTarget_122 : decode cL_isTarget 122 = .ok (.iconst 1, 1) := by decide +kernel
theorem dL_isTarget_123 : decode cL_isTarget 123 = .ok (.if_icmp .ne 8, 3) := by decide +kernel
theorem dL_isTarget_126 : decode cL_isTarget 126 = .ok (.bipush 110, 2) := by decide +kernel
theorem dL_isTarget_128 : decode cL_isTarget 128 = .ok (.goto 16, 3) := by decide +kernel
theorem dL_isTarget_131 : decode cL_isTarget 131 = .ok (.iload 5, 2) := by decide +kernel
theorem dL_isTarget_133 : decode cL_isTarget 133 = .ok (.iconst 2, 1) := by decide +kernel
theorem dL_isTarget_134 : decode cL_isTarget 134 = .ok (.if_icmp .ne 8, 3) := by decide +kernel
theorem dL_isTarget_137 : decode cL_isTarget 137 = .ok (.bipush 116, 2) := by decide +kernel
theorem dL_isTarget_139 : decode cL_isTarget 139 = .ok (.goto 5, 3) := by decide +kernel
theorem dL_isTarget_142 : decode cL_isTarget 142 = .ok (.bipush 109, 2) := by decide +kernel
theorem dL_isTarget_144 : decode cL_isTarget 144 = .ok (.if_icmp .ne 7, 3) := by decide +kernel
theorem dL_isTarget_147 : decode cL_isTarget 147 = .ok (.iconst 1, 1) := by decide +kernel
theorem dL_isTarget_148 : decode cL_isTarget 148 = .ok (.goto 4, 3) := by decide +kernel
theorem dL_isTarget_151 : decode cL_isTarget 151 = .ok (.iconst 0, 1) := by decide +kernel
theorem dL_isTarget_152 : decode cL_isTarget 152 = .ok (.istore_n 3, 1) := by decide +kernel
theorem dL_isTarget_153 : decode cL_isTarget 153 = .ok (.iinc 4 1, 3) := by decide +kernel
theorem dL_isTarget_156 : decode cL_isTarget 156 = .ok (.goto (-101), 3) := by decide +kernel
theorem dL_isTarget_159 : decode cL_isTarget 159 = .ok (.iload_n 3, 1) := by decide +kernel
theorem dL_isTarget_160 : decode cL_isTarget 160 = .ok (.ireturn, 1) := by decide +kernel
theorem dL_areSame_0 : decode cL_areSame 0 = .ok (.aload_n 0, 1) := by decide +kernel
theorem dL_areSame_1 : decode cL_areSame 1 = .ok (.iconst 0, 1) := by decide +kernel
theorem dL_areSame_2 : decode cL_areSame 2 = .ok (.iaload, 1) := by decide +kernel
theorem dL_areSame_3 : decode cL_areSame 3 = .ok (.aload_n 1, 1) := by decide +kernel
theorem dL_areSame_4 : decode cL_areSame 4 = .ok (.iconst 0, 1) := by decide +kernel
theorem dL_areSame_5 : decode cL_areSame 5 = .ok (.iaload, 1) := by decide +kernel
theorem dL_areSame_6 : decode cL_areSame 6 = .ok (.if_icmp .ne 7, 3) := by decide +kernel
theorem dL_areSame_9 : decode cL_areSame 9 = .ok (.iconst 1, 1) := by decide +kernel
theorem dL_areSame_10 : decode cL_areSame 10 = .ok (.goto 4, 3) := by decide +kernel
theorem dL_areSame_13 : decode cL_areSame 13 = .ok (.iconst 0, 1) := by decide +kernel
theorem dL_areSame_14 : decode cL_areSame 14 = .ok (.istore_n 2, 1) := by decide +kernel
theorem dL_areSame_15 : decode cL_areSame 15 = .ok (.iconst 1, 1) := by decide +kernel
theorem dL_areSame_16 : decode cL_areSame 16 = .ok (.istore_n 3, 1) := by decide +kernel
theorem dL_areSame_17 : decode cL_areSame 17 = .ok (.iload_n 3, 1) := by decide +kernel
theorem dL_areSame_18 : decode cL_areSame 18 = .ok (.aload_n 0, 1) := by decide +kernel
theorem dL_areSame_19 : decode cL_areSame 19 = .ok (.iconst 0, 1) := by decide +kernel
theorem dL_areSame_20 : decode cL_areSame 20 = .ok (.iaload, 1) := by decide +kernel
theorem dL_areSame_21 : decode cL_areSame 21 = .ok (.if_icmp .gt 28, 3) := by decide +kernel
theorem dL_areSame_24 : decode cL_areSame 24 = .ok (.iload_n 2, 1) := by decide +kernel
theorem dL_areSame_25 : decode cL_areSame 25 = .ok (.ifCond .eq 24, 3) := by decide +kernel
theorem dL_areSame_28 : decode cL_areSame 28 = .ok (.aload_n 0, 1) := by decide +kernel
theorem dL_areSame_29 : decode cL_areSame 29 = .ok (.iload_n 3, 1) := by decide +kernel
theorem dL_areSame_30 : decode cL_areSame 30 = .ok (.iaload, 1) := by decide +kernel
theorem dL_areSame_31 : decode cL_areSame 31 = .ok (.aload_n 1, 1) := by decide +kernel
theorem dL_areSame_32 : decode cL_areSame 32 = .ok (.iload_n 3, 1) := by decide +kernel
theorem dL_areSame_33 : decode cL_areSame 33 = .ok (.iaload, 1) := by decide +kernel
theorem dL_areSame_34 : decode cL_areSame 34 = .ok (.if_icmp .ne 7, 3) := by decide +kernel
theorem dL_areSame_37 : decode cL_areSame 37 = .ok (.iconst 1, 1) := by decide +kernel
theorem dL_areSame_38 : decode cL_areSame 38 = .ok (.goto 4, 3) := by decide +kernel
theorem dL_areSame_41 : decode cL_areSame 41 = .ok (.iconst 0, 1) := by decide +kernel
theorem dL_areSame_42 : decode cL_areSame 42 = .ok (.istore_n 2, 1) := by decide +kernel
theorem dL_areSame_43 : decode cL_areSame 43 = .ok (.iinc 3 1, 3) := by decide +kernel
theorem dL_areSame_46 : decode cL_areSame 46 = .ok (.goto (-29), 3) := by decide +kernel
theorem dL_areSame_49 : decode cL_areSame 49 = .ok (.iload_n 2, 1) := by decide +kernel
theorem dL_areSame_50 : decode cL_areSame 50 = .ok (.ireturn, 1) := by decide +kernel
theorem dL_isCompared_0 : decode cL_isCompared 0 = .ok (.aload_n 0, 1) := by decide +kernel
theorem dL_isCompared_1 : decode cL_isCompared 1 = .ok (.aload_n 1, 1) := by decide +kernel
theorem dL_isCompared_2 : decode cL_isCompared 2 = .ok (.invokestatic 155, 3) := by decide +kernel
theorem dL_isCompared_5 : decode cL_isCompared 5 = .ok (.istore_n 3, 1) := by decide +kernel
theorem dL_isCompared_6 : decode cL_isCompared 6 = .ok (.iconst (-1), 1) := by decide +kernel
theorem dL_isCompared_7 : decode cL_isCompared 7 = .ok (.istore 4, 2) := by decide +kernel
theorem dL_isCompared_9 : decode cL_isCompared 9 = .ok (.iconst 0, 1) := by decide +kernel
theorem dL_isCompared_10 : decode cL_isCompared 10 = .ok (.istore 5, 2) := by decide +kernel
theorem dL_isCompared_12 : decode cL_isCompared 12 = .ok (.iconst 0, 1) := by decide +kernel
theorem dL_isCompared_13 : decode cL_isCompared 13 = .ok (.istore 6, 2) := by decide +kernel
theorem dL_isCompared_15 : decode cL_isCompared 15 = .ok (.iconst 0, 1) := by decide +kernel
theorem dL_isCompared_16 : decode cL_isCompared 16 = .ok (.istore 7, 2) := by decide +kernel
theorem dL_isCompared_18 : decode cL_isCompared 18 = .ok (.iload 7, 2) := by decide +kernel
theorem dL_isCompared_20 : decode cL_isCompared 20 = .ok (.aload_n 0, 1) := by decide +kernel
theorem dL_isCompared_21 : decode cL_isCompared 21 = .ok (.invokevirtual 162, 3) := by decide +kernel
theorem dL_isCompared_24 : decode cL_isCompared 24 = .ok (.if_icmp .ge 248, 3) := by decide +kernel
theorem dL_isCompared_27 : decode cL_isCompared 27 = .ok (.iload_n 3, 1) := by decide +kernel
theorem dL_isCompared_28 : decode cL_isCompared 28 = .ok (.ifCond .eq 244, 3) := by decide +kernel
theorem dL_isCompared_31 : decode cL_isCompared 31 = .ok (.aload_n 0, 1) := by decide +kernel
theorem dL_isCompared_32 : decode cL_isCompared 32 = .ok (.iconst 0, 1) := by decide +kernel
theorem dL_isCompared_33 : decode cL_isCompared 33 = .ok (.iload 7, 2) := by decide +kernel
theorem dL_isCompared_35 : decode cL_isCompared 35 = .ok (.iconst 0, 1) := by decide +kernel
theorem dL_isCompared_36 : decode cL_isCompared 36 = .ok (.invokestatic 159, 3) := by decide +kernel
theorem dL_isCompared_39 : decode cL_isCompared 39 = .ok (.istore 8, 2) := by decide +kernel
theorem dL_isCompared_41 : decode cL_isCompared 41 = .ok (.aload_n 0, 1) := by decide +kernel
theorem dL_isCompared_42 : decode cL_isCompared 42 = .ok (.iconst 2, 1) := by decide +kernel
theorem dL_isCompared_43 : decode cL_isCompared 43 = .ok (.iload 7, 2) := by decide +kernel
theorem dL_isCompared_45 : decode cL_isCompared 45 = .ok (.iconst 0, 1) := by decide +kernel
theorem dL_isCompared_46 : decode cL_isCompared 46 = .ok (.invokestatic 159, 3) := by decide +kernel
theorem dL_isCompared_49 : decode cL_isCompared 49 = .ok (.istore 9, 2) := by decide +kernel
theorem dL_isCompared_51 : decode cL_isCompared 51 = .ok (.aload_n 0, 1) := by decide +kernel
theorem dL_isCompared_52 : decode cL_isCompared 52 = .ok (.iconst 3, 1) := by decide +kernel
theorem dL_isCompared_53 : decode cL_isCompared 53 = .ok (.iload 7, 2) := by decide +kernel
theorem dL_isCompared_55 : decode cL_isCompared 55 = .ok (.iconst 0, 1) := by decide +kernel
theorem dL_isCompared_56 : decode cL_isCompared 56 = .ok (.invokestatic 159, 3) := by decide +kernel
theorem dL_isCompared_59 : decode cL_isCompared 59 = .ok (.istore 10, 2) := by decide +kernel
theorem dL_isCompared_61 : decode cL_isCompared 61 = .ok (.aload_n 0, 1) := by decide +kernel
theorem dL_isCompared_62 : decode cL_isCompared 62 = .ok (.iconst 4, 1) := by decide +kernel
theorem dL_isCompared_63 : decode cL_isCompared 63 = .ok (.iload 7, 2) := by decide +kernel
theorem dL_isCompared_65 : decode cL_isCompared 65 = .ok (.iconst 0, 1) := by decide +kernel
theorem dL_isCompared_66 : decode cL_isCompared 66 = .ok (.invokestatic 159, 3) := by decide +kernel
theorem dL_isCompared_69 : decode cL_isCompared 69 = .ok (.istore 11, 2) := by decide +kernel
theorem dL_isCompared_71 : decode cL_isCompared 71 = .ok (.iload 8, 2) := by decide +kernel
theorem dL_isCompared_73 : decode cL_isCompared 73 = .ok (.aload_n 0, 1) := by decide +kernel
theorem dL_isCompared_74 : decode cL_isCompared 74 = .ok (.iconst 1, 1) := by decide +kernel
theorem dL_isCompared_75 : decode cL_isCompared 75 = .ok (.iload 7, 2) := by decide +kernel
theorem dL_isCompared_77 : decode cL_isCompared 77 = .ok (.iconst 0, 1) := by decide +kernel
theorem dL_isCompared_78 : decode cL_isCompared 78 = .ok (.invokestatic 159, 3) := by decide +kernel
theorem dL_isCompared_81 : decode cL_isCompared 81 = .ok (.if_icmp .ne 97, 3) := by decide +kernel
theorem dL_isCompared_84 : decode cL_isCompared 84 = .ok (.iload 8, 2) := by decide +kernel
theorem dL_isCompared_86 : decode cL_isCompared 86 = .ok (.ifCond .ne 7, 3) := by decide +kernel
theorem dL_isCompared_89 : decode cL_isCompared 89 = .ok (.iconst 1, 1) := by decide +kernel
theorem dL_isCompared_90 : decode cL_isCompared 90 = .ok (.goto 4, 3) := by decide +kernel
theorem dL_isCompared_93 : decode cL_isCompared 93 = .ok (.iconst 0, 1) := by decide +kernel
theorem dL_isCompared_94 : decode cL_isCompared 94 = .ok (.aload_n 1, 1) := by decide +kernel
theorem dL_isCompared_95 : decode cL_isCompared 95 = .ok (.aload_n 2, 1) := by decide +kernel
theorem dL_isCompared_96 : decode cL_isCompared 96 = .ok (.iload 7, 2) := by decide +kernel
theorem dL_isCompared_98 : decode cL_isCompared 98 = .ok (.aaload, 1) := by decide +kernel
theorem dL_isCompared_99 : decode cL_isCompared 99 = .ok (.invokestatic 165, 3) := by decide +kernel
theorem dL_isCompared_102 : decode cL_isCompared 102 = .ok (.if_icmp .ne 76, 3) := by decide +kernel
theorem dL_isCompared_105 : decode cL_isCompared 105 = .ok (.iload 9, 2) := by decide +kernel
theorem dL_isCompared_107 : decode cL_isCompared 107 = .ok (.ifCond .lt 71, 3) := by decide +kernel
theorem dL_isCompared_110 : decode cL_isCompared 110 = .ok (.iload 9, 2) := by decide +kernel
theorem dL_isCompared_112 : decode cL_isCompared 112 = .ok (.bipush 100, 2) := by decide +kernel
theorem dL_isCompared_114 : decode cL_isCompared 114 = .ok (.if_icmp .gt 64, 3) := by decide +kernel
theorem dL_isCompared_117 : decode cL_isCompared 117 = .ok (.iload 9, 2) := by decide +kernel
theorem dL_isCompared_119 : decode cL_isCompared 119 = .ok (.bipush 100, 2) := by decide +kernel
theorem dL_isCompared_121 : decode cL_isCompared 121 = .ok (.if_icmp .ne 7, 3) := by decide +kernel
theorem dL_isCompared_124 : decode cL_isCompared 124 = .ok (.iconst 1, 1) := by decide +kernel
theorem dL_isCompared_125 : decode cL_isCompared 125 = .ok (.goto 4, 3) := by decide +kernel
theorem dL_isCompared_128 : decode cL_isCompared 128 = .ok (.iconst 0, 1) := by decide +kernel
theorem dL_isCompared_129 : decode cL_isCompared 129 = .ok (.iload 8, 2) := by decide +kernel
theorem dL_isCompared_131 : decode cL_isCompared 131 = .ok (.ifCond .ne 7, 3) := by decide +kernel
theorem dL_isCompared_134 : decode cL_isCompared 134 = .ok (.iconst 1, 1) := by decide +kernel
theorem dL_isCompared_135 : decode cL_isCompared 135 = .ok (.goto 4, 3) := by decide +kernel
theorem dL_isCompared_138 : decode cL_isCompared 138 = .ok (.iconst 0, 1) := by decide +kernel
theorem dL_isCompared_139 : decode cL_isCompared 139 = .ok (.if_icmp .ne 39, 3) := by decide +kernel
theorem dL_isCompared_142 : decode cL_isCompared 142 = .ok (.iload 10, 2) := by decide +kernel
theorem dL_isCompared_144 : decode cL_isCompared 144 = .ok (.ifCond .lt 34, 3) := by decide +kernel
theorem dL_isCompared_147 : decode cL_isCompared 147 = .ok (.iload 11, 2) := by decide +kernel
theorem dL_isCompared_149 : decode cL_isCompared 149 = .ok (.iload 9, 2) := by decide +kernel
theorem dL_isCompared_151 : decode cL_isCompared 151 = .ok (.bipush 10, 2) := by decide +kernel
theorem dL_isCompared_153 : decode cL_isCompared 153 = .ok (.iload 10, 2) := by decide +kernel
theorem dL_isCompared_155 : decode cL_isCompared 155 = .ok (.imul, 1) := by decide +kernel
theorem dL_isCompared_156 : decode cL_isCompared 156 = .ok (.if_icmp .le 14, 3) := by decide +kernel
theorem dL_isCompared_159 : decode cL_isCompared 159 = .ok (.iload 9, 2) := by decide +kernel
theorem dL_isCompared_161 : decode cL_isCompared 161 = .ok (.bipush 10, 2) := by decide +kernel
theorem dL_isCompared_163 : decode cL_isCompared 163 = .ok (.iload 10, 2) := by decide +kernel
theorem dL_isCompared_165 : decode cL_isCompared 165 = .ok (.imul, 1) := by decide +kernel
theorem dL_isCompared_166 : decode cL_isCompared 166 = .ok (.isub, 1) := by decide +kernel
theorem dL_isCompared_167 : decode cL_isCompared 167 = .ok (.goto 4, 3) := by decide +kernel
theorem dL_isCompared_170 : decode cL_isCompared 170 = .ok (.iconst 0, 1) := by decide +kernel
theorem dL_isCompared_171 : decode cL_isCompared 171 = .ok (.if_icmp .ne 7, 3) := by decide +kernel
theorem dL_isCompared_174 : decode cL_isCompared 174 = .ok (.iconst 1, 1) := by decide +kernel
theorem dL_isCompared_175 : decode cL_isCompared 175 = .ok (.goto 4, 3) := by decide +kernel
theorem dL_isCompared_178 : decode cL_isCompared 178 = .ok (.iconst 0, 1) := by decide +kernel
theorem dL_isCompared_179 : decode cL_isCompared 179 = .ok (.istore_n 3, 1) := by decide +kernel
theorem dL_isCompared_180 : decode cL_isCompared 180 = .ok (.iload_n 3, 1) := by decide +kernel
theorem dL_isCompared_181 : decode cL_isCompared 181 = .ok (.ifCond .eq 32, 3) := by decide +kernel
theorem dL_isCompared_184 : decode cL_isCompared 184 = .ok (.aload_n 0, 1) := by decide +kernel
theorem dL_isCompared_185 : decode cL_isCompared 185 = .ok (.iconst 5, 1) := by decide +kernel
theorem dL_isCompared_186 : decode cL_isCompared 186 = .ok (.iload 7, 2) := by decide +kernel
theorem dL_isCompared_188 : decode cL_isCompared 188 = .ok (.iconst 0, 1) := by decide +kernel
theorem dL_isCompared_189 : decode cL_isCompared 189 = .ok (.invokestatic 159, 3) := by decide +kernel
theorem dL_isCompared_192 : decode cL_isCompared 192 = .ok (.ifCond .lt 21, 3) := by decide +kernel
theorem dL_isCompared_195 : decode cL_isCompared 195 = .ok (.aload_n 0, 1) := by decide +kernel
theorem dL_isCompared_196 : decode cL_isCompared 196 = .ok (.iconst 5, 1) := by decide +kernel
theorem dL_isCompared_197 : decode cL_isCompared 197 = .ok (.iload 7, 2) := by decide +kernel
theorem dL_isCompared_199 : decode cL_isCompared 199 = .ok (.iconst 0, 1) := by decide +kernel
theorem dL_isCompared_200 : decode cL_isCompared 200 = .ok (.invokestatic 159, 3) := by decide +kernel
theorem dL_isCompared_203 : decode cL_isCompared 203 = .ok (.aload_n 1, 1) := by decide +kernel
theorem dL_isCompared_204 : decode cL_isCompared 204 = .ok (.iconst 0, 1) := by decide +kernel
theorem dL_isCompared_205 : decode cL_isCompared 205 = .ok (.iaload, 1) := by decide +kernel
theorem dL_isCompared_206 : decode cL_isCompared 206 = .ok (.if_icmp .ge 7, 3) := by decide +kernel
theorem dL_isCompared_209 : decode cL_isCompared 209 = .ok (.iconst 1, 1) := by decide +kernel
theorem dL_isCompared_210 : decode cL_isCompared 210 = .ok (.goto 4, 3) := by decide +kernel
theorem dL_isCompared_213 : decode cL_isCompared 213 = .ok (.iconst 0, 1) := by decide +kernel
theorem dL_isCompared_214 : decode cL_isCompared 214 = .ok (.istore_n 3, 1) := by decide +kernel
theorem dL_isCompared_215 : decode cL_isCompared 215 = .ok (.aload_n 0, 1) := by decide +kernel
theorem dL_isCompared_216 : decode cL_isCompared 216 = .ok (.bipush 8, 2) := by decide +kernel
theorem dL_isCompared_218 : decode cL_isCompared 218 = .ok (.iload 7, 2) := by decide +kernel
theorem dL_isCompared_220 : decode cL_isCompared 220 = .ok (.iconst 0, 1) := by decide +kernel
theorem dL_isCompared_221 : decode cL_isCompared 221 = .ok (.invokestatic 159, 3) := by decide +kernel
theorem dL_isCompared_224 : decode cL_isCompared 224 = .ok (.iconst 1, 1) := by decide +kernel
theorem dL_isCompared_225 : decode cL_isCompared 225 = .ok (.if_icmp .ne 41, 3) := by decide +kernel
theorem dL_isCompared_228 : decode cL_isCompared 228 = .ok (.iload 11, 2) := by decide +kernel
theorem dL_isCompared_230 : decode cL_isCompared 230 = .ok (.ifCond .le 36, 3) := by decide +kernel
theorem dL_isCompared_233 : decode cL_isCompared 233 = .ok (.iload 11, 2) := by decide +kernel
theorem dL_isCompared_235 : decode cL_isCompared 235 = .ok (.iload 5, 2) := by decide +kernel
theorem dL_isCompared_237 : decode cL_isCompared 237 = .ok (.if_icmp .gt 17, 3) := by decide +kernel
theorem dL_isCompared_240 : decode cL_isCompared 240 = .ok (.iload 11, 2) := by decide +kernel
theorem dL_isCompared_242 : decode cL_isCompared 242 = .ok (.iload 5, 2) := by decide +kernel
theorem dL_isCompared_244 : decode cL_isCompared 244 = .ok (.if_icmp .ne 22, 3) := by decide +kernel
theorem dL_isCompared_247 : decode cL_isCompared 247 = .ok (.iload 9, 2) := by decide +kernel
theorem dL_isCompared_249 : decode cL_isCompared 249 = .ok (.iload 6, 2) := by decide +kernel
theorem dL_isCompared_251 : decode cL_isCompared 251 = .ok (.if_icmp .lt 15, 3) := by decide +kernel
theorem dL_isCompared_254 : decode cL_isCompared 254 = .ok (.iload 7, 2) := by decide +kernel
theorem dL_isCompared_256 : decode cL_isCompared 256 = .ok (.istore 4, 2) := by decide +kernel
theorem dL_isCompared_258 : decode cL_isCompared 258 = .ok (.iload 11, 2) := by decide +kernel
theorem dL_isCompared_260 : decode cL_isCompared 260 = .ok (.istore 5, 2) := by decide +kernel
theorem dL_isCompared_262 : decode cL_isCompared 262 = .ok (.iload 9, 2) := by decide +kernel
theorem dL_isCompared_264 : decode cL_isCompared 264 = .ok (.istore 6, 2) := by decide +kernel
theorem dL_isCompared_266 : decode cL_isCompared 266 = .ok (.iinc 7 1, 3) := by decide +kernel
theorem dL_isCompared_269 : decode cL_isCompared 269 = .ok (.goto (-251), 3) := by decide +kernel
theorem dL_isCompared_272 : decode cL_isCompared 272 = .ok (.iload_n 3, 1) := by decide +kernel
theorem dL_isCompared_273 : decode cL_isCompared 273 = .ok (.ifCond .eq 57, 3) := by decide +kernel
theorem dL_isCompared_276 : decode cL_isCompared 276 = .ok (.aload_n 0, 1) := by decide +kernel
theorem dL_isCompared_277 : decode cL_isCompared 277 = .ok (.bipush 6, 2) := by decide +kernel
theorem dL_isCompared_279 : decode cL_isCompared 279 = .ok (.iconst 0, 1) := by decide +kernel
theorem dL_isCompared_280 : decode cL_isCompared 280 = .ok (.iconst 0, 1) := by decide +kernel
theorem dL_isCompared_281 : decode cL_isCompared 281 = .ok (.invokestatic 159, 3) := by decide +kernel
theorem dL_isCompared_284 : decode cL_isCompared 284 = .ok (.iload 4, 2) := by decide +kernel
theorem dL_isCompared_286 : decode cL_isCompared 286 = .ok (.iconst (-1), 1) := by decide +kernel
theorem dL_isCompared_287 : decode cL_isCompared 287 = .ok (.if_icmp .ne 9, 3) := by decide +kernel
theorem dL_isCompared_290 : decode cL_isCompared 290 = .ok (.sipush (-2005), 3) := by decide +kernel
theorem dL_isCompared_293 : decode cL_isCompared 293 = .ok (.goto 5, 3) := by decide +kernel
theorem dL_isCompared_296 : decode cL_isCompared 296 = .ok (.iload 4, 2) := by decide +kernel
theorem dL_isCompared_298 : decode cL_isCompared 298 = .ok (.if_icmp .ne 32, 3) := by decide +kernel
theorem dL_isCompared_301 : decode cL_isCompared 301 = .ok (.aload_n 0, 1) := by decide +kernel
theorem dL_isCompared_302 : decode cL_isCompared 302 = .ok (.bipush 7, 2) := by decide +kernel
theorem dL_isCompared_304 : decode cL_isCompared 304 = .ok (.iconst 0, 1) := by decide +kernel
theorem dL_isCompared_305 : decode cL_isCompared 305 = .ok (.iconst 0, 1) := by decide +kernel
theorem dL_isCompared_306 : decode cL_isCompared 306 = .ok (.invokestatic 159, 3) := by decide +kernel
theorem dL_isCompared_309 : decode cL_isCompared 309 = .ok (.iload 4, 2) := by decide +kernel
theorem dL_isCompared_311 : decode cL_isCompared 311 = .ok (.iconst (-1), 1) := by decide +kernel
theorem dL_isCompared_312 : decode cL_isCompared 312 = .ok (.if_icmp .ne 9, 3) := by decide +kernel
theorem dL_isCompared_315 : decode cL_isCompared 315 = .ok (.sipush (-2005), 3) := by decide +kernel
theorem dL_isCompared_318 : decode cL_isCompared 318 = .ok (.goto 5, 3) := by decide +kernel
theorem dL_isCompared_321 : decode cL_isCompared 321 = .ok (.iload 4, 2) := by decide +kernel
theorem dL_isCompared_323 : decode cL_isCompared 323 = .ok (.if_icmp .ne 7, 3) := by decide +kernel
theorem dL_isCompared_326 : decode cL_isCompared 326 = .ok (.iconst 1, 1) := by decide +kernel
theorem dL_isCompared_327 : decode cL_isCompared 327 = .ok (.goto 4, 3) := by decide +kernel
theorem dL_isCompared_330 : decode cL_isCompared 330 = .ok (.iconst 0, 1) := by decide +kernel
theorem dL_isCompared_331 : decode cL_isCompared 331 = .ok (.istore_n 3, 1) := by decide +kernel
theorem dL_isCompared_332 : decode cL_isCompared 332 = .ok (.iload_n 3, 1) := by decide +kernel
theorem dL_isCompared_333 : decode cL_isCompared 333 = .ok (.ifCond .eq 47, 3) := by decide +kernel
theorem dL_isCompared_336 : decode cL_isCompared 336 = .ok (.aload_n 0, 1) := by decide +kernel
theorem dL_isCompared_337 : decode cL_isCompared 337 = .ok (.invokevirtual 149, 3) := by decide +kernel
theorem dL_isCompared_340 : decode cL_isCompared 340 = .ok (.aload_n 1, 1) := by decide +kernel
theorem dL_isCompared_341 : decode cL_isCompared 341 = .ok (.iconst 0, 1) := by decide +kernel
theorem dL_isCompared_342 : decode cL_isCompared 342 = .ok (.iaload, 1) := by decide +kernel
theorem dL_isCompared_343 : decode cL_isCompared 343 = .ok (.if_icmp .ne 37, 3) := by decide +kernel
theorem dL_isCompared_346 : decode cL_isCompared 346 = .ok (.aload_n 0, 1) := by decide +kernel
theorem dL_isCompared_347 : decode cL_isCompared 347 = .ok (.bipush 6, 2) := by decide +kernel
theorem dL_isCompared_349 : decode cL_isCompared 349 = .ok (.iconst 0, 1) := by decide +kernel
theorem dL_isCompared_350 : decode cL_isCompared 350 = .ok (.iconst 0, 1) := by decide +kernel
theorem dL_isCompared_351 : decode cL_isCompared 351 = .ok (.invokestatic 159, 3) := by decide +kernel
theorem dL_isCompared_354 : decode cL_isCompared 354 = .ok (.sipush (-2003), 3) := by decide +kernel
theorem dL_isCompared_357 : decode cL_isCompared 357 = .ok (.if_icmp .ne 23, 3) := by decide +kernel
theorem dL_isCompared_360 : decode cL_isCompared 360 = .ok (.aload_n 0, 1) := by decide +kernel
theorem dL_isCompared_361 : decode cL_isCompared 361 = .ok (.iconst 0, 1) := by decide +kernel
theorem dL_isCompared_362 : decode cL_isCompared 362 = .ok (.aload_n 0, 1) := by decide +kernel
theorem dL_isCompared_363 : decode cL_isCompared 363 = .ok (.invokevirtual 162, 3) := by decide +kernel
theorem dL_isCompared_366 : decode cL_isCompared 366 = .ok (.iconst 0, 1) := by decide +kernel
theorem dL_isCompared_367 : decode cL_isCompared 367 = .ok (.invokestatic 159, 3) := by decide +kernel
theorem dL_isCompared_370 : decode cL_isCompared 370 = .ok (.sipush (-2005), 3) := by decide +kernel
theorem dL_isCompared_373 : decode cL_isCompared 373 = .ok (.if_icmp .ne 7, 3) := by decide +kernel
theorem dL_isCompared_376 : decode cL_isCompared 376 = .ok (.iconst 1, 1) := by decide +kernel
theorem dL_isCompared_377 : decode cL_isCompared 377 = .ok (.goto 4, 3) := by decide +kernel
theorem dL_isCompared_380 : decode cL_isCompared 380 = .ok (.iconst 0, 1) := by decide +kernel
theorem dL_isCompared_381 : decode cL_isCompared 381 = .ok (.ireturn, 1) := by decide +kernel
theorem dL_segment_0 : decode cL_segment 0 = .ok (.iconst 1, 1) := by decide +kernel
theorem dL_segment_1 : decode cL_segment 1 = .ok (.istore_n 3, 1) := by decide +kernel
theorem dL_segment_2 : decode cL_segment 2 = .ok (.iconst 0, 1) := by decide +kernel
theorem dL_segment_3 : decode cL_segment 3 = .ok (.istore 4, 2) := by decide +kernel
theorem dL_segment_5 : decode cL_segment 5 = .ok (.iload 4, 2) := by decide +kernel
theorem dL_segment_7 : decode cL_segment 7 = .ok (.iload_n 2, 1) := by decide +kernel
theorem dL_segment_8 : decode cL_segment 8 = .ok (.if_icmp .ge 21, 3) := by decide +kernel
theorem dL_segment_11 : decode cL_segment 11 = .ok (.iload_n 3, 1) := by decide +kernel
theorem dL_segment_12 : decode cL_segment 12 = .ok (.aload_n 0, 1) := by decide +kernel
theorem dL_segment_13 : decode cL_segment 13 = .ok (.bipush 12, 2) := by decide +kernel
theorem dL_segment_15 : decode cL_segment 15 = .ok (.iload 4, 2) := by decide +kernel
theorem dL_segment_17 : decode cL_segment 17 = .ok (.iconst 0, 1) := by decide +kernel
theorem dL_segment_18 : decode cL_segment 18 = .ok (.invokestatic 159, 3) := by decide +kernel
theorem dL_segment_21 : decode cL_segment 21 = .ok (.iadd, 1) := by decide +kernel
theorem dL_segment_22 : decode cL_segment 22 = .ok (.istore_n 3, 1) := by decide +kernel
theorem dL_segment_23 : decode cL_segment 23 = .ok (.iinc 4 1, 3) := by decide +kernel
theorem dL_segment_26 : decode cL_segment 26 = .ok (.goto (-21), 3) := by decide +kernel
theorem dL_segment_29 : decode cL_segment 29 = .ok (.bipush 61, 2) := by decide +kernel
theorem dL_segment_31 : decode cL_segment 31 = .ok (.newarray .int, 2) := by decide +kernel
theorem dL_segment_33 : decode cL_segment 33 = .ok (.astore 4, 2) := by decide +kernel
theorem dL_segment_35 : decode cL_segment 35 = .ok (.aload 4, 2) := by decide +kernel
theorem dL_segment_37 : decode cL_segment 37 = .ok (.iconst 0, 1) := by decide +kernel
theorem dL_segment_38 : decode cL_segment 38 = .ok (.aload_n 0, 1) := by decide +kernel
theorem dL_segment_39 : decode cL_segment 39 = .ok (.bipush 12, 2) := by decide +kernel
theorem dL_segment_41 : decode cL_segment 41 = .ok (.iload_n 2, 1) := by decide +kernel
theorem dL_segment_42 : decode cL_segment 42 = .ok (.iconst 0, 1) := by decide +kernel
theorem dL_segment_43 : decode cL_segment 43 = .ok (.invokestatic 159, 3) := by decide +kernel
theorem dL_segment_46 : decode cL_segment 46 = .ok (.iastore, 1) := by decide +kernel
theorem dL_segment_47 : decode cL_segment 47 = .ok (.iconst 0, 1) := by decide +kernel
theorem dL_segment_48 : decode cL_segment 48 = .ok (.istore 5, 2) := by decide +kernel
theorem dL_segment_50 : decode cL_segment 50 = .ok (.iload 5, 2) := by decide +kernel
theorem dL_segment_52 : decode cL_segment 52 = .ok (.aload 4, 2) := by decide +kernel
theorem dL_segment_54 : decode cL_segment 54 = .ok (.iconst 0, 1) := by decide +kernel
theorem dL_segment_55 : decode cL_segment 55 = .ok (.iaload, 1) := by decide +kernel
theorem dL_segment_56 : decode cL_segment 56 = .ok (.if_icmp .ge 22, 3) := by decide +kernel
theorem dL_segment_59 : decode cL_segment 59 = .ok (.aload 4, 2) := by decide +kernel
theorem dL_segment_61 : decode cL_segment 61 = .ok (.iconst 1, 1) := by decide +kernel
theorem dL_segment_62 : decode cL_segment 62 = .ok (.iload 5, 2) := by decide +kernel
theorem dL_segment_64 : decode cL_segment 64 = .ok (.iadd, 1) := by decide +kernel
theorem dL_segment_65 : decode cL_segment 65 = .ok (.aload_n 1, 1) := by decide +kernel
theorem dL_segment_66 : decode cL_segment 66 = .ok (.iload_n 3, 1) := by decide +kernel
theorem dL_segment_67 : decode cL_segment 67 = .ok (.iload 5, 2) := by decide +kernel
theorem dL_segment_69 : decode cL_segment 69 = .ok (.iadd, 1) := by decide +kernel
theorem dL_segment_70 : decode cL_segment 70 = .ok (.iaload, 1) := by decide +kernel
theorem dL_segment_71 : decode cL_segment 71 = .ok (.iastore, 1) := by decide +kernel
theorem dL_segment_72 : decode cL_segment 72 = .ok (.iinc 5 1, 3) := by decide +kernel
theorem dL_segment_75 : decode cL_segment 75 = .ok (.goto (-25), 3) := by decide +kernel
theorem dL_segment_78 : decode cL_segment 78 = .ok (.aload 4, 2) := by decide +kernel
theorem dL_segment_80 : decode cL_segment 80 = .ok (.areturn, 1) := by decide +kernel
theorem dL_isCut_0 : decode cL_isCut 0 = .ok (.iconst 1, 1) := by decide +kernel
theorem dL_isCut_1 : decode cL_isCut 1 = .ok (.istore_n 2, 1) := by decide +kernel
theorem dL_isCut_2 : decode cL_isCut 2 = .ok (.aload_n 0, 1) := by decide +kernel
theorem dL_isCut_3 : decode cL_isCut 3 = .ok (.invokevirtual 169, 3) := by decide +kernel
theorem dL_isCut_6 : decode cL_isCut 6 = .ok (.ifCond .le 24, 3) := by decide +kernel
theorem dL_isCut_9 : decode cL_isCut 9 = .ok (.aload_n 0, 1) := by decide +kernel
theorem dL_isCut_10 : decode cL_isCut 10 = .ok (.bipush 12, 2) := by decide +kernel
theorem dL_isCut_12 : decode cL_isCut 12 = .ok (.aload_n 0, 1) := by decide +kernel
theorem dL_isCut_13 : decode cL_isCut 13 = .ok (.invokevirtual 169, 3) := by decide +kernel
theorem dL_isCut_16 : decode cL_isCut 16 = .ok (.iconst 0, 1) := by decide +kernel
theorem dL_isCut_17 : decode cL_isCut 17 = .ok (.invokestatic 159, 3) := by decide +kernel
theorem dL_isCut_20 : decode cL_isCut 20 = .ok (.sipush (-2001), 3) := by decide +kernel
theorem dL_isCut_23 : decode cL_isCut 23 = .ok (.if_icmp .ne 7, 3) := by decide +kernel
theorem dL_isCut_26 : decode cL_isCut 26 = .ok (.iconst 1, 1) := by decide +kernel
theorem dL_isCut_27 : decode cL_isCut 27 = .ok (.goto 4, 3) := by decide +kernel
theorem dL_isCut_30 : decode cL_isCut 30 = .ok (.iconst 0, 1) := by decide +kernel
theorem dL_isCut_31 : decode cL_isCut 31 = .ok (.istore_n 3, 1) := by decide +kernel
theorem dL_isCut_32 : decode cL_isCut 32 = .ok (.iconst 0, 1) := by decide +kernel
theorem dL_isCut_33 : decode cL_isCut 33 = .ok (.istore 4, 2) := by decide +kernel
theorem dL_isCut_35 : decode cL_isCut 35 = .ok (.iload 4, 2) := by decide +kernel
theorem dL_isCut_37 : decode cL_isCut 37 = .ok (.aload_n 0, 1) := by decide +kernel
theorem dL_isCut_38 : decode cL_isCut 38 = .ok (.invokevirtual 169, 3) := by decide +kernel
theorem dL_isCut_41 : decode cL_isCut 41 = .ok (.if_icmp .ge 109, 3) := by decide +kernel
theorem dL_isCut_44 : decode cL_isCut 44 = .ok (.iload_n 3, 1) := by decide +kernel
theorem dL_isCut_45 : decode cL_isCut 45 = .ok (.ifCond .eq 105, 3) := by decide +kernel
theorem dL_isCut_48 : decode cL_isCut 48 = .ok (.aload_n 0, 1) := by decide +kernel
theorem dL_isCut_49 : decode cL_isCut 49 = .ok (.bipush 12, 2) := by decide +kernel
theorem dL_isCut_51 : decode cL_isCut 51 = .ok (.iload 4, 2) := by decide +kernel
theorem dL_isCut_53 : decode cL_isCut 53 = .ok (.iconst 0, 1) := by decide +kernel
theorem dL_isCut_54 : decode cL_isCut 54 = .ok (.invokestatic 159, 3) := by decide +kernel
theorem dL_isCut_57 : decode cL_isCut 57 = .ok (.istore 5, 2) := by decide +kernel
theorem dL_isCut_59 : decode cL_isCut 59 = .ok (.iload 5, 2) := by decide +kernel
theorem dL_isCut_61 : decode cL_isCut 61 = .ok (.ifCond .le 76, 3) := by decide +kernel
theorem dL_isCut_64 : decode cL_isCut 64 = .ok (.iload_n 2, 1) := by decide +kernel
theorem dL_isCut_65 : decode cL_isCut 65 = .ok (.iload 5, 2) := by decide +kernel
theorem dL_isCut_67 : decode cL_isCut 67 = .ok (.iadd, 1) := by decide +kernel
theorem dL_isCut_68 : decode cL_isCut 68 = .ok (.aload_n 1, 1) := by decide +kernel
theorem dL_isCut_69 : decode cL_isCut 69 = .ok (.iconst 0, 1) := by decide +kernel
theorem dL_isCut_70 : decode cL_isCut 70 = .ok (.iaload, 1) := by decide +kernel
theorem dL_isCut_71 : decode cL_isCut 71 = .ok (.iconst 1, 1) := by decide +kernel
theorem dL_isCut_72 : decode cL_isCut 72 = .ok (.iadd, 1) := by decide +kernel
theorem dL_isCut_73 : decode cL_isCut 73 = .ok (.if_icmp .gt 64, 3) := by decide +kernel
theorem dL_isCut_76 : decode cL_isCut 76 = .ok (.aload_n 0, 1) := by decide +kernel
theorem dL_isCut_77 : decode cL_isCut 77 = .ok (.iload 4, 2) := by decide +kernel
theorem dL_isCut_79 : decode cL_isCut 79 = .ok (.aload_n 1, 1) := by decide +kernel
theorem dL_isCut_80 : decode cL_isCut 80 = .ok (.iload_n 2, 1) := by decide +kernel
theorem dL_isCut_81 : decode cL_isCut 81 = .ok (.iload 5, 2) := by decide +kernel
theorem dL_isCut_83 : decode cL_isCut 83 = .ok (.invokestatic 172, 3) := by decide +kernel
theorem dL_isCut_86 : decode cL_isCut 86 = .ok (.ifCond .eq 51, 3) := by decide +kernel
theorem dL_isCut_89 : decode cL_isCut 89 = .ok (.aload_n 0, 1) := by decide +kernel
theorem dL_isCut_90 : decode cL_isCut 90 = .ok (.bipush 9, 2) := by decide +kernel
theorem dL_isCut_92 : decode cL_isCut 92 = .ok (.iload 4, 2) := by decide +kernel
theorem dL_isCut_94 : decode cL_isCut 94 = .ok (.iconst 0, 1) := by decide +kernel
theorem dL_isCut_95 : decode cL_isCut 95 = .ok (.invokestatic 159, 3) := by decide +kernel
theorem dL_isCut_98 : decode cL_isCut 98 = .ok (.bipush 101, 2) := by decide +kernel
theorem dL_isCut_100 : decode cL_isCut 100 = .ok (.if_icmp .ne 37, 3) := by decide +kernel
theorem dL_isCut_103 : decode cL_isCut 103 = .ok (.aload_n 0, 1) := by decide +kernel
theorem dL_isCut_104 : decode cL_isCut 104 = .ok (.bipush 14, 2) := by decide +kernel
theorem dL_isCut_106 : decode cL_isCut 106 = .ok (.iload 4, 2) := by decide +kernel
theorem dL_isCut_108 : decode cL_isCut 108 = .ok (.iconst 0, 1) := by decide +kernel
theorem dL_isCut_109 : decode cL_isCut 109 = .ok (.invokestatic 159, 3) := by decide +kernel
theorem dL_isCut_112 : decode cL_isCut 112 = .ok (.sipush (-2005), 3) := by decide +kernel
theorem dL_isCut_115 : decode cL_isCut 115 = .ok (.if_icmp .ne 22, 3) := by decide +kernel
theorem dL_isCut_118 : decode cL_isCut 118 = .ok (.aload_n 0, 1) := by decide +kernel
theorem dL_isCut_119 : decode cL_isCut 119 = .ok (.bipush 10, 2) := by decide +kernel
theorem dL_isCut_121 : decode cL_isCut 121 = .ok (.iload 4, 2) := by decide +kernel
theorem dL_isCut_123 : decode cL_isCut 123 = .ok (.iconst 0, 1) := by decide +kernel
theorem dL_isCut_124 : decode cL_isCut 124 = .ok (.invokestatic 159, 3) := by decide +kernel
theorem dL_isCut_127 : decode cL_isCut 127 = .ok (.sipush (-2005), 3) := by decide +kernel
theorem dL_isCut_130 : decode cL_isCut 130 = .ok (.if_icmp .ne 7, 3) := by decide +kernel
theorem dL_isCut_133 : decode cL_isCut 133 = .ok (.iconst 1, 1) := by decide +kernel
theorem dL_isCut_134 : decode cL_isCut 134 = .ok (.goto 4, 3) := by decide +kernel
theorem dL_isCut_137 : decode cL_isCut 137 = .ok (.iconst 0, 1) := by decide +kernel
theorem dL_isCut_138 : decode cL_isCut 138 = .ok (.istore_n 3, 1) := by decide +kernel
theorem dL_isCut_139 : decode cL_isCut 139 = .ok (.iload_n 2, 1) := by decide +kernel
theorem dL_isCut_140 : decode cL_isCut 140 = .ok (.iload 5, 2) := by decide +kernel
theorem dL_isCut_142 : decode cL_isCut 142 = .ok (.iadd, 1) := by decide +kernel
theorem dL_isCut_143 : decode cL_isCut 143 = .ok (.istore_n 2, 1) := by decide +kernel
theorem dL_isCut_144 : decode cL_isCut 144 = .ok (.iinc 4 1, 3) := by decide +kernel
theorem dL_isCut_147 : decode cL_isCut 147 = .ok (.goto (-112), 3) := by decide +kernel
theorem dL_isCut_150 : decode cL_isCut 150 = .ok (.iload_n 3, 1) := by decide +kernel
theorem dL_isCut_151 : decode cL_isCut 151 = .ok (.ifCond .eq 25, 3) := by decide +kernel
theorem dL_isCut_154 : decode cL_isCut 154 = .ok (.iload_n 2, 1) := by decide +kernel
theorem dL_isCut_155 : decode cL_isCut 155 = .ok (.aload_n 1, 1) := by decide +kernel
theorem dL_isCut_156 : decode cL_isCut 156 = .ok (.iconst 0, 1) := by decide +kernel
theorem dL_isCut_157 : decode cL_isCut 157 = .ok (.iaload, 1) := by decide +kernel
theorem dL_isCut_158 : decode cL_isCut 158 = .ok (.iconst 1, 1) := by decide +kernel
theorem dL_isCut_159 : decode cL_isCut 159 = .ok (.iadd, 1) := by decide +kernel
theorem dL_isCut_160 : decode cL_isCut 160 = .ok (.if_icmp .ne 16, 3) := by decide +kernel
theorem dL_isCut_163 : decode cL_isCut 163 = .ok (.aload_n 0, 1) := by decide +kernel
theorem dL_isCut_164 : decode cL_isCut 164 = .ok (.invokevirtual 176, 3) := by decide +kernel
theorem dL_isCut_167 : decode cL_isCut 167 = .ok (.fconst 0, 1) := by decide +kernel
theorem dL_isCut_168 : decode cL_isCut 168 = .ok (.fcmp .l, 1) := by decide +kernel
theorem dL_isCut_169 : decode cL_isCut 169 = .ok (.ifCond .ne 7, 3) := by decide +kernel
theorem dL_isCut_172 : decode cL_isCut 172 = .ok (.iconst 1, 1) := by decide +kernel
theorem dL_isCut_173 : decode cL_isCut 173 = .ok (.goto 4, 3) := by decide +kernel
theorem dL_isCut_176 : decode cL_isCut 176 = .ok (.iconst 0, 1) := by decide +kernel
theorem dL_isCut_177 : decode cL_isCut 177 = .ok (.ireturn, 1) := by decide +kernel
theorem dL_isFilled_0 : decode cL_isFilled 0 = .ok (.iconst 0, 1) := by decide +kernel
theorem dL_isFilled_1 : decode cL_isFilled 1 = .ok (.istore_n 3, 1) := by decide +kernel
theorem dL_isFilled_2 : decode cL_isFilled 2 = .ok (.iconst 0, 1) := by decide +kernel
theorem dL_isFilled_3 : decode cL_isFilled 3 = .ok (.istore 4, 2) := by decide +kernel
theorem dL_isFilled_5 : decode cL_isFilled 5 = .ok (.iload 4, 2) := by decide +kernel
theorem dL_isFilled_7 : decode cL_isFilled 7 = .ok (.aload_n 0, 1) := by decide +kernel
theorem dL_isFilled_8 : decode cL_isFilled 8 = .ok (.invokevirtual 169, 3) := by decide +kernel
theorem dL_isFilled_11 : decode cL_isFilled 11 = .ok (.if_icmp .ge 31, 3) := by decide +kernel
theorem dL_isFilled_14 : decode cL_isFilled 14 = .ok (.iload_n 3, 1) := by decide +kernel
theorem dL_isFilled_15 : decode cL_isFilled 15 = .ok (.aload_n 0, 1) := by decide +kernel
theorem dL_isFilled_16 : decode cL_isFilled 16 = .ok (.bipush 9, 2) := by decide +kernel
theorem dL_isFilled_18 : decode cL_isFilled 18 = .ok (.iload 4, 2) := by decide +kernel
theorem dL_isFilled_20 : decode cL_isFilled 20 = .ok (.iconst 0, 1) := by decide +kernel
theorem dL_isFilled_21 : decode cL_isFilled 21 = .ok (.invokestatic 159, 3) := by decide +kernel
theorem dL_isFilled_24 : decode cL_isFilled 24 = .ok (.bipush 101, 2) := by decide +kernel
theorem dL_isFilled_26 : decode cL_isFilled 26 = .ok (.if_icmp .ne 7, 3) := by decide +kernel
theorem dL_isFilled_29 : decode cL_isFilled 29 = .ok (.iconst 1, 1) := by decide +kernel
theorem dL_isFilled_30 : decode cL_isFilled 30 = .ok (.goto 4, 3) := by decide +kernel
theorem dL_isFilled_33 : decode cL_isFilled 33 = .ok (.iconst 0, 1) := by decide +kernel
theorem dL_isFilled_34 : decode cL_isFilled 34 = .ok (.iadd, 1) := by decide +kernel
theorem dL_isFilled_35 : decode cL_isFilled 35 = .ok (.istore_n 3, 1) := by decide +kernel
theorem dL_isFilled_36 : decode cL_isFilled 36 = .ok (.iinc 4 1, 3) := by decide +kernel
theorem dL_isFilled_39 : decode cL_isFilled 39 = .ok (.goto (-34), 3) := by decide +kernel
theorem dL_isFilled_42 : decode cL_isFilled 42 = .ok (.aload_n 0, 1) := by decide +kernel
theorem dL_isFilled_43 : decode cL_isFilled 43 = .ok (.bipush 12, 2) := by decide +kernel
theorem dL_isFilled_45 : decode cL_isFilled 45 = .ok (.iload_n 2, 1) := by decide +kernel
theorem dL_isFilled_46 : decode cL_isFilled 46 = .ok (.iconst 0, 1) := by decide +kernel
theorem dL_isFilled_47 : decode cL_isFilled 47 = .ok (.iconst 0, 1) := by decide +kernel
theorem dL_isFilled_48 : decode cL_isFilled 48 = .ok (.iconst 0, 1) := by decide +kernel
theorem dL_isFilled_49 : decode cL_isFilled 49 = .ok (.invokestatic 152, 3) := by decide +kernel
theorem dL_isFilled_52 : decode cL_isFilled 52 = .ok (.istore 4, 2) := by decide +kernel
theorem dL_isFilled_54 : decode cL_isFilled 54 = .ok (.iload 4, 2) := by decide +kernel
theorem dL_isFilled_56 : decode cL_isFilled 56 = .ok (.ifCond .lt 13, 3) := by decide +kernel
theorem dL_isFilled_59 : decode cL_isFilled 59 = .ok (.iload 4, 2) := by decide +kernel
theorem dL_isFilled_61 : decode cL_isFilled 61 = .ok (.iload_n 3, 1) := by decide +kernel
theorem dL_isFilled_62 : decode cL_isFilled 62 = .ok (.if_icmp .gt 7, 3) := by decide +kernel
theorem dL_isFilled_65 : decode cL_isFilled 65 = .ok (.iconst 1, 1) := by decide +kernel
theorem dL_isFilled_66 : decode cL_isFilled 66 = .ok (.goto 4, 3) := by decide +kernel
theorem dL_isFilled_69 : decode cL_isFilled 69 = .ok (.iconst 0, 1) := by decide +kernel
theorem dL_isFilled_70 : decode cL_isFilled 70 = .ok (.istore 5, 2) := by decide +kernel
theorem dL_isFilled_72 : decode cL_isFilled 72 = .ok (.iconst 0, 1) := by decide +kernel
theorem dL_isFilled_73 : decode cL_isFilled 73 = .ok (.istore 6, 2) := by decide +kernel
theorem dL_isFilled_75 : decode cL_isFilled 75 = .ok (.iconst 0, 1) := by decide +kernel
theorem dL_isFilled_76 : decode cL_isFilled 76 = .ok (.istore 7, 2) := by decide +kernel
theorem dL_isFilled_78 : decode cL_isFilled 78 = .ok (.iload 7, 2) := by decide +kernel
theorem dL_isFilled_80 : decode cL_isFilled 80 = .ok (.aload_n 0, 1) := by decide +kernel
theorem dL_isFilled_81 : decode cL_isFilled 81 = .ok (.invokevirtual 169, 3) := by decide +kernel
theorem dL_isFilled_84 : decode cL_isFilled 84 = .ok (.if_icmp .ge 310, 3) := by decide +kernel
theorem dL_isFilled_87 : decode cL_isFilled 87 = .ok (.iload 5, 2) := by decide +kernel
theorem dL_isFilled_89 : decode cL_isFilled 89 = .ok (.ifCond .eq 305, 3) := by decide +kernel
theorem dL_isFilled_92 : decode cL_isFilled 92 = .ok (.aload_n 0, 1) := by decide +kernel
theorem dL_isFilled_93 : decode cL_isFilled 93 = .ok (.bipush 9, 2) := by decide +kernel
theorem dL_isFilled_95 : decode cL_isFilled 95 = .ok (.iload 7, 2) := by decide +kernel
theorem dL_isFilled_97 : decode cL_isFilled 97 = .ok (.iconst 0, 1) := by decide +kernel
theorem dL_isFilled_98 : decode cL_isFilled 98 = .ok (.invokestatic 159, 3) := by decide +kernel
theorem dL_isFilled_101 : decode cL_isFilled 101 = .ok (.istore 8, 2) := by decide +kernel
theorem dL_isFilled_103 : decode cL_isFilled 103 = .ok (.aload_n 0, 1) := by decide +kernel
theorem dL_isFilled_104 : decode cL_isFilled 104 = .ok (.aload_n 1, 1) := by decide +kernel
theorem dL_isFilled_105 : decode cL_isFilled 105 = .ok (.iload 7, 2) := by decide +kernel
theorem dL_isFilled_107 : decode cL_isFilled 107 = .ok (.invokestatic 180, 3) := by decide +kernel
theorem dL_isFilled_110 : decode cL_isFilled 110 = .ok (.astore 9, 2) := by decide +kernel
theorem dL_isFilled_112 : decode cL_isFilled 112 = .ok (.iload 8, 2) := by decide +kernel
theorem dL_isFilled_114 : decode cL_isFilled 114 = .ok (.bipush 101, 2) := by decide +kernel
theorem dL_isFilled_116 : decode cL_isFilled 116 = .ok (.if_icmp .ne 70, 3) := by decide +kernel
theorem dL_isFilled_119 : decode cL_isFilled 119 = .ok (.iinc 6 1, 3) := by decide +kernel
theorem dL_isFilled_122 : decode cL_isFilled 122 = .ok (.aload_n 0, 1) := by decide +kernel
theorem dL_isFilled_123 : decode cL_isFilled 123 = .ok (.aload 9, 2) := by decide +kernel
theorem dL_isFilled_125 : decode cL_isFilled 125 = .ok (.invokestatic 155, 3) := by decide +kernel
theorem dL_isFilled_128 : decode cL_isFilled 128 = .ok (.istore 5, 2) := by decide +kernel
theorem dL_isFilled_130 : decode cL_isFilled 130 = .ok (.aload_n 0, 1) := by decide +kernel
theorem dL_isFilled_131 : decode cL_isFilled 131 = .ok (.bipush 6, 2) := by decide +kernel
theorem dL_isFilled_133 : decode cL_isFilled 133 = .ok (.iconst 0, 1) := by decide +kernel
theorem dL_isFilled_134 : decode cL_isFilled 134 = .ok (.iconst 0, 1) := by decide +kernel
theorem dL_isFilled_135 : decode cL_isFilled 135 = .ok (.invokestatic 159, 3) := by decide +kernel
theorem dL_isFilled_138 : decode cL_isFilled 138 = .ok (.istore 10, 2) := by decide +kernel
theorem dL_isFilled_140 : decode cL_isFilled 140 = .ok (.iload 5, 2) := by decide +kernel
theorem dL_isFilled_142 : decode cL_isFilled 142 = .ok (.ifCond .eq 38, 3) := by decide +kernel
theorem dL_isFilled_145 : decode cL_isFilled 145 = .ok (.iload 10, 2) := by decide +kernel
theorem dL_isFilled_147 : decode cL_isFilled 147 = .ok (.sipush (-2005), 3) := by decide +kernel
theorem dL_isFilled_150 : decode cL_isFilled 150 = .ok (.if_icmp .eq 15, 3) := by decide +kernel
theorem dL_isFilled_153 : decode cL_isFilled 153 = .ok (.aload_n 0, 1) := by decide +kernel
theorem dL_isFilled_154 : decode cL_isFilled 154 = .ok (.iconst 4, 1) := by decide +kernel
theorem dL_isFilled_155 : decode cL_isFilled 155 = .ok (.iload 10, 2) := by decide +kernel
theorem dL_isFilled_157 : decode cL_isFilled 157 = .ok (.iconst 0, 1) := by decide +kernel
theorem dL_isFilled_158 : decode cL_isFilled 158 = .ok (.invokestatic 159, 3) := by decide +kernel
theorem dL_isFilled_161 : decode cL_isFilled 161 = .ok (.iload_n 2, 1) := by decide +kernel
theorem dL_isFilled_162 : decode cL_isFilled 162 = .ok (.if_icmp .ge 18, 3) := by decide +kernel
theorem dL_isFilled_165 : decode cL_isFilled 165 = .ok (.aload_n 0, 1) := by decide +kernel
theorem dL_isFilled_166 : decode cL_isFilled 166 = .ok (.invokevirtual 149, 3) := by decide +kernel
theorem dL_isFilled_169 : decode cL_isFilled 169 = .ok (.aload 9, 2) := by decide +kernel
theorem dL_isFilled_171 : decode cL_isFilled 171 = .ok (.iconst 0, 1) := by decide +kernel
theorem dL_isFilled_172 : decode cL_isFilled 172 = .ok (.iaload, 1) := by decide +kernel
theorem dL_isFilled_173 : decode cL_isFilled 173 = .ok (.if_icmp .ne 7, 3) := by decide +kernel
theorem dL_isFilled_176 : decode cL_isFilled 176 = .ok (.iconst 1, 1) := by decide +kernel
theorem dL_isFilled_177 : decode cL_isFilled 177 = .ok (.goto 4, 3) := by decide +kernel
theorem dL_isFilled_180 : decode cL_isFilled 180 = .ok (.iconst 0, 1) := by decide +kernel
theorem dL_isFilled_181 : decode cL_isFilled 181 = .ok (.istore 5, 2) := by decide +kernel
theorem dL_isFilled_183 : decode cL_isFilled 183 = .ok (.goto 205, 3) := by decide +kernel
theorem dL_isFilled_186 : decode cL_isFilled 186 = .ok (.iload 8, 2) := by decide +kernel
theorem dL_isFilled_188 : decode cL_isFilled 188 = .ok (.bipush 114, 2) := by decide +kernel
theorem dL_isFilled_190 : decode cL_isFilled 190 = .ok (.if_icmp .ne 114, 3) := by decide +kernel
theorem dL_isFilled_193 : decode cL_isFilled 193 = .ok (.iconst 0, 1) := by decide +kernel
theorem dL_isFilled_194 : decode cL_isFilled 194 = .ok (.istore 10, 2) := by decide +kernel
theorem dL_isFilled_196 : decode cL_isFilled 196 = .ok (.iconst 0, 1) := by decide +kernel
theorem dL_isFilled_197 : decode cL_isFilled 197 = .ok (.istore 11, 2) := by decide +kernel
theorem dL_isFilled_199 : decode cL_isFilled 199 = .ok (.iload 11, 2) := by decide +kernel
theorem dL_isFilled_201 : decode cL_isFilled 201 = .ok (.aload_n 0, 1) := by decide +kernel
theorem dL_isFilled_202 : decode cL_isFilled 202 = .ok (.invokevirtual 169, 3) := by decide +kernel
theorem dL_isFilled_205 : decode cL_isFilled 205 = .ok (.if_icmp .ge 57, 3) := by decide +kernel
theorem dL_isFilled_208 : decode cL_isFilled 208 = .ok (.iload 10, 2) := by decide +kernel
theorem dL_isFilled_210 : decode cL_isFilled 210 = .ok (.ifCond .ne 39, 3) := by decide +kernel
theorem dL_isFilled_213 : decode cL_isFilled 213 = .ok (.iload 11, 2) := by decide +kernel
theorem dL_isFilled_215 : decode cL_isFilled 215 = .ok (.iload 7, 2) := by decide +kernel
theorem dL_isFilled_217 : decode cL_isFilled 217 = .ok (.if_icmp .eq 36, 3) := by decide +kernel
theorem dL_isFilled_220 : decode cL_isFilled 220 = .ok (.aload_n 0, 1) := by decide +kernel
theorem dL_isFilled_221 : decode cL_isFilled 221 = .ok (.bipush 9, 2) := by decide +kernel
theorem dL_isFilled_223 : decode cL_isFilled 223 = .ok (.iload 11, 2) := by decide +kernel
theorem dL_isFilled_225 : decode cL_isFilled 225 = .ok (.iconst 0, 1) := by decide +kernel
theorem dL_isFilled_226 : decode cL_isFilled 226 = .ok (.invokestatic 159, 3) := by decide +kernel
theorem dL_isFilled_229 : decode cL_isFilled 229 = .ok (.bipush 101, 2) := by decide +kernel
theorem dL_isFilled_231 : decode cL_isFilled 231 = .ok (.if_icmp .eq 22, 3) := by decide +kernel
theorem dL_isFilled_234 : decode cL_isFilled 234 = .ok (.aload 9, 2) := by decide +kernel
theorem dL_isFilled_236 : decode cL_isFilled 236 = .ok (.aload_n 0, 1) := by decide +kernel
theorem dL_isFilled_237 : decode cL_isFilled 237 = .ok (.aload_n 1, 1) := by decide +kernel
theorem dL_isFilled_238 : decode cL_isFilled 238 = .ok (.iload 11, 2) := by decide +kernel
theorem dL_isFilled_240 : decode cL_isFilled 240 = .ok (.invokestatic 180, 3) := by decide +kernel
theorem dL_isFilled_243 : decode cL_isFilled 243 = .ok (.invokestatic 165, 3) := by decide +kernel
theorem dL_isFilled_246 : decode cL_isFilled 246 = .ok (.ifCond .eq 7, 3) := by decide +kernel
theorem dL_isFilled_249 : decode cL_isFilled 249 = .ok (.iconst 1, 1) := by decide +kernel
theorem dL_isFilled_250 : decode cL_isFilled 250 = .ok (.goto 4, 3) := by decide +kernel
theorem dL_isFilled_253 : decode cL_isFilled 253 = .ok (.iconst 0, 1) := by decide +kernel
theorem dL_isFilled_254 : decode cL_isFilled 254 = .ok (.istore 10, 2) := by decide +kernel
theorem dL_isFilled_256 : decode cL_isFilled 256 = .ok (.iinc 11 1, 3) := by decide +kernel
theorem dL_isFilled_259 : decode cL_isFilled 259 = .ok (.goto (-60), 3) := by decide +kernel
theorem dL_isFilled_262 : decode cL_isFilled 262 = .ok (.iload 10, 2) := by decide +kernel
theorem dL_isFilled_264 : decode cL_isFilled 264 = .ok (.ifCond .eq 34, 3) := by decide +kernel
theorem dL_isFilled_267 : decode cL_isFilled 267 = .ok (.aload_n 0, 1) := by decide +kernel
theorem dL_isFilled_268 : decode cL_isFilled 268 = .ok (.bipush 10, 2) := by decide +kernel
theorem dL_isFilled_270 : decode cL_isFilled 270 = .ok (.iload 7, 2) := by decide +kernel
theorem dL_isFilled_272 : decode cL_isFilled 272 = .ok (.iconst 0, 1) := by decide +kernel
theorem dL_isFilled_273 : decode cL_isFilled 273 = .ok (.invokestatic 159, 3) := by decide +kernel
theorem dL_isFilled_276 : decode cL_isFilled 276 = .ok (.sipush (-2005), 3) := by decide +kernel
theorem dL_isFilled_279 : decode cL_isFilled 279 = .ok (.if_icmp .ne 19, 3) := by decide +kernel
theorem dL_isFilled_282 : decode cL_isFilled 282 = .ok (.aload_n 0, 1) := by decide +kernel
theorem dL_isFilled_283 : decode cL_isFilled 283 = .ok (.bipush 14, 2) := by decide +kernel
theorem dL_isFilled_285 : decode cL_isFilled 285 = .ok (.iload 7, 2) := by decide +kernel
theorem dL_isFilled_287 : decode cL_isFilled 287 = .ok (.iconst 0, 1) := by decide +kernel
theorem dL_isFilled_288 : decode cL_isFilled 288 = .ok (.invokestatic 159, 3) := by decide +kernel
theorem dL_isFilled_291 : decode cL_isFilled 291 = .ok (.ifCond .le 7, 3) := by decide +kernel
theorem dL_isFilled_294 : decode cL_isFilled 294 = .ok (.iconst 1, 1) := by decide +kernel
theorem dL_isFilled_295 : decode cL_isFilled 295 = .ok (.goto 4, 3) := by decide +kernel
theorem dL_isFilled_298 : decode cL_isFilled 298 = .ok (.iconst 0, 1) := by decide +kernel
theorem dL_isFilled_299 : decode cL_isFilled 299 = .ok (.istore 5, 2) := by decide +kernel
theorem dL_isFilled_301 : decode cL_isFilled 301 = .ok (.goto 87, 3) := by decide +kernel
theorem dL_isFilled_304 : decode cL_isFilled 304 = .ok (.iload 8, 2) := by decide +kernel
theorem dL_isFilled_306 : decode cL_isFilled 306 = .ok (.bipush 97, 2) := by decide +kernel
theorem dL_isFilled_308 : decode cL_isFilled 308 = .ok (.if_icmp .eq 73, 3) := by decide +kernel
theorem dL_isFilled_311 : decode cL_isFilled 311 = .ok (.aload_n 0, 1) := by decide +kernel
theorem dL_isFilled_312 : decode cL_isFilled 312 = .ok (.bipush 10, 2) := by decide +kernel
theorem dL_isFilled_314 : decode cL_isFilled 314 = .ok (.iload 7, 2) := by decide +kernel
theorem dL_isFilled_316 : decode cL_isFilled 316 = .ok (.iconst 0, 1) := by decide +kernel
theorem dL_isFilled_317 : decode cL_isFilled 317 = .ok (.invokestatic 159, 3) := by decide +kernel
theorem dL_isFilled_320 : decode cL_isFilled 320 = .ok (.ifCond .lt 65, 3) := by decide +kernel
theorem dL_isFilled_323 : decode cL_isFilled 323 = .ok (.aload_n 0, 1) := by decide +kernel
theorem dL_isFilled_324 : decode cL_isFilled 324 = .ok (.bipush 11, 2) := by decide +kernel
theorem dL_isFilled_326 : decode cL_isFilled 326 = .ok (.iload 7, 2) := by decide +kernel
theorem dL_isFilled_328 : decode cL_isFilled 328 = .ok (.iconst 0, 1) := by decide +kernel
theorem dL_isFilled_329 : decode cL_isFilled 329 = .ok (.invokestatic 159, 3) := by decide +kernel
theorem dL_isFilled_332 : decode cL_isFilled 332 = .ok (.ifCond .le 53, 3) := by decide +kernel
theorem dL_isFilled_335 : decode cL_isFilled 335 = .ok (.iload 8, 2) := by decide +kernel
theorem dL_isFilled_337 : decode cL_isFilled 337 = .ok (.bipush 120, 2) := by decide +kernel
theorem dL_isFilled_339 : decode cL_isFilled 339 = .ok (.if_icmp .ne 7, 3) := by decide +kernel
theorem dL_isFilled_342 : decode cL_isFilled 342 = .ok (.iconst 1, 1) := by decide +kernel
theorem dL_isFilled_343 : decode cL_isFilled 343 = .ok (.goto 4, 3) := by decide +kernel
theorem dL_isFilled_346 : decode cL_isFilled 346 = .ok (.iconst 0, 1) := by decide +kernel
theorem dL_isFilled_347 : decode cL_isFilled 347 = .ok (.aload_n 0, 1) := by decide +kernel
theorem dL_isFilled_348 : decode cL_isFilled 348 = .ok (.bipush 11, 2) := by decide +kernel
theorem dL_isFilled_350 : decode cL_isFilled 350 = .ok (.iload 7, 2) := by decide +kernel
theorem dL_isFilled_352 : decode cL_isFilled 352 = .ok (.iconst 0, 1) := by decide +kernel
theorem dL_isFilled_353 : decode cL_isFilled 353 = .ok (.invokestatic 159, 3) := by decide +kernel
theorem dL_isFilled_356 : decode cL_isFilled 356 = .ok (.bipush 100, 2) := by decide +kernel
theorem dL_isFilled_358 : decode cL_isFilled 358 = .ok (.if_icmp .ne 7, 3) := by decide +kernel
theorem dL_isFilled_361 : decode cL_isFilled 361 = .ok (.iconst 1, 1) := by decide +kernel
theorem dL_isFilled_362 : decode cL_isFilled 362 = .ok (.goto 4, 3) := by decide +kernel
theorem dL_isFilled_365 : decode cL_isFilled 365 = .ok (.iconst 0, 1) := by decide +kernel
theorem dL_isFilled_366 : decode cL_isFilled 366 = .ok (.if_icmp .ne 19, 3) := by decide +kernel
theorem dL_isFilled_369 : decode cL_isFilled 369 = .ok (.aload_n 0, 1) := by decide +kernel
theorem dL_isFilled_370 : decode cL_isFilled 370 = .ok (.bipush 14, 2) := by decide +kernel
theorem dL_isFilled_372 : decode cL_isFilled 372 = .ok (.iload 7, 2) := by decide +kernel
theorem dL_isFilled_374 : decode cL_isFilled 374 = .ok (.iconst 0, 1) := by decide +kernel
theorem dL_isFilled_375 : decode cL_isFilled 375 = .ok (.invokestatic 159, 3) := by decide +kernel
theorem dL_isFilled_378 : decode cL_isFilled 378 = .ok (.ifCond .le 7, 3) := by decide +kernel
theorem dL_isFilled_381 : decode cL_isFilled 381 = .ok (.iconst 1, 1) := by decide +kernel
theorem dL_isFilled_382 : decode cL_isFilled 382 = .ok (.goto 4, 3) := by decide +kernel
theorem dL_isFilled_385 : decode cL_isFilled 385 = .ok (.iconst 0, 1) := by decide +kernel
theorem dL_isFilled_386 : decode cL_isFilled 386 = .ok (.istore 5, 2) := by decide +kernel
theorem dL_isFilled_388 : decode cL_isFilled 388 = .ok (.iinc 7 1, 3) := by decide +kernel
theorem dL_isFilled_391 : decode cL_isFilled 391 = .ok (.goto (-313), 3) := by decide +kernel
theorem dL_isFilled_394 : decode cL_isFilled 394 = .ok (.iload 5, 2) := by decide +kernel
theorem dL_isFilled_396 : decode cL_isFilled 396 = .ok (.ifCond .eq 62, 3) := by decide +kernel
theorem dL_isFilled_399 : decode cL_isFilled 399 = .ok (.iload 6, 2) := by decide +kernel
theorem dL_isFilled_401 : decode cL_isFilled 401 = .ok (.iload_n 3, 1) := by decide +kernel
theorem dL_isFilled_402 : decode cL_isFilled 402 = .ok (.iload 4, 2) := by decide +kernel
theorem dL_isFilled_404 : decode cL_isFilled 404 = .ok (.isub, 1) := by decide +kernel
theorem dL_isFilled_405 : decode cL_isFilled 405 = .ok (.if_icmp .ne 53, 3) := by decide +kernel
theorem dL_isFilled_408 : decode cL_isFilled 408 = .ok (.aload_n 0, 1) := by decide +kernel
theorem dL_isFilled_409 : decode cL_isFilled 409 = .ok (.bipush 12, 2) := by decide +kernel
theorem dL_isFilled_411 : decode cL_isFilled 411 = .ok (.iload_n 2, 1) := by decide +kernel
theorem dL_isFilled_412 : decode cL_isFilled 412 = .ok (.iconst 0, 1) := by decide +kernel
theorem dL_isFilled_413 : decode cL_isFilled 413 = .ok (.iconst 0, 1) := by decide +kernel
theorem dL_isFilled_414 : decode cL_isFilled 414 = .ok (.iconst 0, 1) := by decide +kernel
theorem dL_isFilled_415 : decode cL_isFilled 415 = .ok (.invokestatic 152, 3) := by decide +kernel
theorem dL_isFilled_418 : decode cL_isFilled 418 = .ok (.ifCond .ne 40, 3) := by decide +kernel
theorem dL_isFilled_421 : decode cL_isFilled 421 = .ok (.aload_n 0, 1) := by decide +kernel
theorem dL_isFilled_422 : decode cL_isFilled 422 = .ok (.bipush 12, 2) := by decide +kernel
theorem dL_isFilled_424 : decode cL_isFilled 424 = .ok (.iconst 0, 1) := by decide +kernel
theorem dL_isFilled_425 : decode cL_isFilled 425 = .ok (.iconst 0, 1) := by decide +kernel
theorem dL_isFilled_426 : decode cL_isFilled 426 = .ok (.iconst 0, 1) := by decide +kernel
theorem dL_isFilled_427 : decode cL_isFilled 427 = .ok (.iconst 0, 1) := by decide +kernel
theorem dL_isFilled_428 : decode cL_isFilled 428 = .ok (.invokestatic 152, 3) := by decide +kernel
theorem dL_isFilled_431 : decode cL_isFilled 431 = .ok (.sipush (-2002), 3) := by decide +kernel
theorem dL_isFilled_434 : decode cL_isFilled 434 = .ok (.if_icmp .ne 24, 3) := by decide +kernel
theorem dL_isFilled_437 : decode cL_isFilled 437 = .ok (.aload_n 0, 1) := by decide +kernel
theorem dL_isFilled_438 : decode cL_isFilled 438 = .ok (.bipush 12, 2) := by decide +kernel
theorem dL_isFilled_440 : decode cL_isFilled 440 = .ok (.bipush 101, 2) := by decide +kernel
theorem dL_isFilled_442 : decode cL_isFilled 442 = .ok (.iconst 0, 1) := by decide +kernel
theorem dL_isFilled_443 : decode cL_isFilled 443 = .ok (.iconst 0, 1) := by decide +kernel
theorem dL_isFilled_444 : decode cL_isFilled 444 = .ok (.iconst 0, 1) := by decide +kernel
theorem dL_isFilled_445 : decode cL_isFilled 445 = .ok (.invokestatic 152, 3) := by decide +kernel
theorem dL_isFilled_448 : decode cL_isFilled 448 = .ok (.sipush (-2002), 3) := by decide +kernel
theorem dL_isFilled_451 : decode cL_isFilled 451 = .ok (.if_icmp .ne 7, 3) := by decide +kernel
theorem dL_isFilled_454 : decode cL_isFilled 454 = .ok (.iconst 1, 1) := by decide +kernel
theorem dL_isFilled_455 : decode cL_isFilled 455 = .ok (.goto 4, 3) := by decide +kernel
theorem dL_isFilled_458 : decode cL_isFilled 458 = .ok (.iconst 0, 1) := by decide +kernel
theorem dL_isFilled_459 : decode cL_isFilled 459 = .ok (.ireturn, 1) := by decide +kernel
theorem dL_isAnswered_0 : decode cL_isAnswered 0 = .ok (.aload_n 0, 1) := by decide +kernel
theorem dL_isAnswered_1 : decode cL_isAnswered 1 = .ok (.aload_n 1, 1) := by decide +kernel
theorem dL_isAnswered_2 : decode cL_isAnswered 2 = .ok (.iload_n 2, 1) := by decide +kernel
theorem dL_isAnswered_3 : decode cL_isAnswered 3 = .ok (.invokestatic 180, 3) := by decide +kernel
theorem dL_isAnswered_6 : decode cL_isAnswered 6 = .ok (.astore 4, 2) := by decide +kernel
theorem dL_isAnswered_8 : decode cL_isAnswered 8 = .ok (.aload_n 0, 1) := by decide +kernel
theorem dL_isAnswered_9 : decode cL_isAnswered 9 = .ok (.invokevirtual 162, 3) := by decide +kernel
theorem dL_isAnswered_12 : decode cL_isAnswered 12 = .ok (.istore 5, 2) := by decide +kernel
theorem dL_isAnswered_14 : decode cL_isAnswered 14 = .ok (.iconst 0, 1) := by decide +kernel
theorem dL_isAnswered_15 : decode cL_isAnswered 15 = .ok (.istore 6, 2) := by decide +kernel
theorem dL_isAnswered_17 : decode cL_isAnswered 17 = .ok (.iconst 0, 1) := by decide +kernel
theorem dL_isAnswered_18 : decode cL_isAnswered 18 = .ok (.istore 7, 2) := by decide +kernel
theorem dL_isAnswered_20 : decode cL_isAnswered 20 = .ok (.iload 7, 2) := by decide +kernel
theorem dL_isAnswered_22 : decode cL_isAnswered 22 = .ok (.aload_n 0, 1) := by decide +kernel
theorem dL_isAnswered_23 : decode cL_isAnswered 23 = .ok (.invokevirtual 169, 3) := by decide +kernel
theorem dL_isAnswered_26 : decode cL_isAnswered 26 = .ok (.if_icmp .ge 54, 3) := by decide +kernel
theorem dL_isAnswered_29 : decode cL_isAnswered 29 = .ok (.iload 6, 2) := by decide +kernel
theorem dL_isAnswered_31 : decode cL_isAnswered 31 = .ok (.iload 7, 2) := by decide +kernel
theorem dL_isAnswered_33 : decode cL_isAnswered 33 = .ok (.iload_n 2, 1) := by decide +kernel
theorem dL_isAnswered_34 : decode cL_isAnswered 34 = .ok (.if_icmp .eq 36, 3) := by decide +kernel
theorem dL_isAnswered_37 : decode cL_isAnswered 37 = .ok (.aload_n 0, 1) := by decide +kernel
theorem dL_isAnswered_38 : decode cL_isAnswered 38 = .ok (.bipush 9, 2) := by decide +kernel
theorem dL_isAnswered_40 : decode cL_isAnswered 40 = .ok (.iload 7, 2) := by decide +kernel
theorem dL_isAnswered_42 : decode cL_isAnswered 42 = .ok (.iconst 0, 1) := by decide +kernel
theorem dL_isAnswered_43 : decode cL_isAnswered 43 = .ok (.invokestatic 159, 3) := by decide +kernel
theorem dL_isAnswered_46 : decode cL_isAnswered 46 = .ok (.bipush 97, 2) := by decide +kernel
theorem dL_isAnswered_48 : decode cL_isAnswered 48 = .ok (.if_icmp .eq 22, 3) := by decide +kernel
theorem dL_isAnswered_51 : decode cL_isAnswered 51 = .ok (.aload 4, 2) := by decide +kernel
theorem dL_isAnswered_53 : decode cL_isAnswered 53 = .ok (.aload_n 0, 1) := by decide +kernel
theorem dL_isAnswered_54 : decode cL_isAnswered 54 = .ok (.aload_n 1, 1) := by decide +kernel
theorem dL_isAnswered_55 : decode cL_isAnswered 55 = .ok (.iload 7, 2) := by decide +kernel
theorem dL_isAnswered_57 : decode cL_isAnswered 57 = .ok (.invokestatic 180, 3) := by decide +kernel
theorem dL_isAnswered_60 : decode cL_isAnswered 60 = .ok (.invokestatic 165, 3) := by decide +kernel
theorem dL_isAnswered_63 : decode cL_isAnswered 63 = .ok (.ifCond .eq 7, 3) := by decide +kernel
theorem dL_isAnswered_66 : decode cL_isAnswered 66 = .ok (.iconst 1, 1) := by decide +kernel
theorem dL_isAnswered_67 : decode cL_isAnswered 67 = .ok (.goto 4, 3) := by decide +kernel
theorem dL_isAnswered_70 : decode cL_isAnswered 70 = .ok (.iconst 0, 1) := by decide +kernel
theorem dL_isAnswered_71 : decode cL_isAnswered 71 = .ok (.iadd, 1) := by decide +kernel
theorem dL_isAnswered_72 : decode cL_isAnswered 72 = .ok (.istore 6, 2) := by decide +kernel
theorem dL_isAnswered_74 : decode cL_isAnswered 74 = .ok (.iinc 7 1, 3) := by decide +kernel
theorem dL_isAnswered_77 : decode cL_isAnswered 77 = .ok (.goto (-57), 3) := by decide +kernel
theorem dL_isAnswered_80 : decode cL_isAnswered 80 = .ok (.aload_n 0, 1) := by decide +kernel
theorem dL_isAnswered_81 : decode cL_isAnswered 81 = .ok (.bipush 13, 2) := by decide +kernel
theorem dL_isAnswered_83 : decode cL_isAnswered 83 = .ok (.iload_n 2, 1) := by decide +kernel
theorem dL_isAnswered_84 : decode cL_isAnswered 84 = .ok (.iconst 0, 1) := by decide +kernel
theorem dL_isAnswered_85 : decode cL_isAnswered 85 = .ok (.iconst 0, 1) := by decide +kernel
theorem dL_isAnswered_86 : decode cL_isAnswered 86 = .ok (.iconst 0, 1) := by decide +kernel
theorem dL_isAnswered_87 : decode cL_isAnswered 87 = .ok (.invokestatic 152, 3) := by decide +kernel
theorem dL_isAnswered_90 : decode cL_isAnswered 90 = .ok (.sipush (-2003), 3) := by decide +kernel
theorem dL_isAnswered_93 : decode cL_isAnswered 93 = .ok (.if_icmp .ne 49, 3) := by decide +kernel
theorem dL_isAnswered_96 : decode cL_isAnswered 96 = .ok (.aload_n 0, 1) := by decide +kernel
theorem dL_isAnswered_97 : decode cL_isAnswered 97 = .ok (.aload_n 3, 1) := by decide +kernel
theorem dL_isAnswered_98 : decode cL_isAnswered 98 = .ok (.invokestatic 155, 3) := by decide +kernel
theorem dL_isAnswered_101 : decode cL_isAnswered 101 = .ok (.ifCond .eq 41, 3) := by decide +kernel
theorem dL_isAnswered_104 : decode cL_isAnswered 104 = .ok (.aload_n 0, 1) := by decide +kernel
theorem dL_isAnswered_105 : decode cL_isAnswered 105 = .ok (.bipush 13, 2) := by decide +kernel
theorem dL_isAnswered_107 : decode cL_isAnswered 107 = .ok (.aload_n 0, 1) := by decide +kernel
theorem dL_isAnswered_108 : decode cL_isAnswered 108 = .ok (.invokevirtual 169, 3) := by decide +kernel
theorem dL_isAnswered_111 : decode cL_isAnswered 111 = .ok (.iconst 0, 1) := by decide +kernel
theorem dL_isAnswered_112 : decode cL_isAnswered 112 = .ok (.iconst 0, 1) := by decide +kernel
theorem dL_isAnswered_113 : decode cL_isAnswered 113 = .ok (.iconst 0, 1) := by decide +kernel
theorem dL_isAnswered_114 : decode cL_isAnswered 114 = .ok (.invokestatic 152, 3) := by decide +kernel
theorem dL_isAnswered_117 : decode cL_isAnswered 117 = .ok (.sipush (-2001), 3) := by decide +kernel
theorem dL_isAnswered_120 : decode cL_isAnswered 120 = .ok (.if_icmp .ne 22, 3) := by decide +kernel
theorem dL_isAnswered_123 : decode cL_isAnswered 123 = .ok (.aload_n 0, 1) := by decide +kernel
theorem dL_isAnswered_124 : decode cL_isAnswered 124 = .ok (.bipush 13, 2) := by decide +kernel
theorem dL_isAnswered_126 : decode cL_isAnswered 126 = .ok (.iload_n 2, 1) := by decide +kernel
theorem dL_isAnswered_127 : decode cL_isAnswered 127 = .ok (.iconst 0, 1) := by decide +kernel
theorem dL_isAnswered_128 : decode cL_isAnswered 128 = .ok (.iconst 0, 1) := by decide +kernel
theorem dL_isAnswered_129 : decode cL_isAnswered 129 = .ok (.iconst 0, 1) := by decide +kernel
theorem dL_isAnswered_130 : decode cL_isAnswered 130 = .ok (.invokestatic 152, 3) := by decide +kernel
theorem dL_isAnswered_133 : decode cL_isAnswered 133 = .ok (.iload 6, 2) := by decide +kernel
theorem dL_isAnswered_135 : decode cL_isAnswered 135 = .ok (.if_icmp .ne 7, 3) := by decide +kernel
theorem dL_isAnswered_138 : decode cL_isAnswered 138 = .ok (.iconst 1, 1) := by decide +kernel
theorem dL_isAnswered_139 : decode cL_isAnswered 139 = .ok (.goto 4, 3) := by decide +kernel
theorem dL_isAnswered_142 : decode cL_isAnswered 142 = .ok (.iconst 0, 1) := by decide +kernel
theorem dL_isAnswered_143 : decode cL_isAnswered 143 = .ok (.istore 7, 2) := by decide +kernel
theorem dL_isAnswered_145 : decode cL_isAnswered 145 = .ok (.iload 7, 2) := by decide +kernel
theorem dL_isAnswered_147 : decode cL_isAnswered 147 = .ok (.ifCond .eq 40, 3) := by decide +kernel
theorem dL_isAnswered_150 : decode cL_isAnswered 150 = .ok (.aload_n 0, 1) := by decide +kernel
theorem dL_isAnswered_151 : decode cL_isAnswered 151 = .ok (.invokevirtual 162, 3) := by decide +kernel
theorem dL_isAnswered_154 : decode cL_isAnswered 154 = .ok (.iload 5, 2) := by decide +kernel
theorem dL_isAnswered_156 : decode cL_isAnswered 156 = .ok (.iconst 1, 1) := by decide +kernel
theorem dL_isAnswered_157 : decode cL_isAnswered 157 = .ok (.iadd, 1) := by decide +kernel
theorem dL_isAnswered_158 : decode cL_isAnswered 158 = .ok (.if_icmp .ne 29, 3) := by decide +kernel
theorem dL_isAnswered_161 : decode cL_isAnswered 161 = .ok (.aload_n 0, 1) := by decide +kernel
theorem dL_isAnswered_162 : decode cL_isAnswered 162 = .ok (.bipush 9, 2) := by decide +kernel
theorem dL_isAnswered_164 : decode cL_isAnswered 164 = .ok (.iload_n 2, 1) := by decide +kernel
theorem dL_isAnswered_165 : decode cL_isAnswered 165 = .ok (.iconst 0, 1) := by decide +kernel
theorem dL_isAnswered_166 : decode cL_isAnswered 166 = .ok (.invokestatic 159, 3) := by decide +kernel
theorem dL_isAnswered_169 : decode cL_isAnswered 169 = .ok (.bipush 97, 2) := by decide +kernel
theorem dL_isAnswered_171 : decode cL_isAnswered 171 = .ok (.if_icmp .ne 16, 3) := by decide +kernel
theorem dL_isAnswered_174 : decode cL_isAnswered 174 = .ok (.aload_n 0, 1) := by decide +kernel
theorem dL_isAnswered_175 : decode cL_isAnswered 175 = .ok (.iload_n 2, 1) := by decide +kernel
theorem dL_isAnswered_176 : decode cL_isAnswered 176 = .ok (.aload_n 3, 1) := by decide +kernel
theorem dL_isAnswered_177 : decode cL_isAnswered 177 = .ok (.invokestatic 184, 3) := by decide +kernel
theorem dL_isAnswered_180 : decode cL_isAnswered 180 = .ok (.ifCond .eq 7, 3) := by decide +kernel
theorem dL_isAnswered_183 : decode cL_isAnswered 183 = .ok (.iconst 1, 1) := by decide +kernel
theorem dL_isAnswered_184 : decode cL_isAnswered 184 = .ok (.goto 4, 3) := by decide +kernel
theorem dL_isAnswered_187 : decode cL_isAnswered 187 = .ok (.iconst 0, 1) := by decide +kernel
theorem dL_isAnswered_188 : decode cL_isAnswered 188 = .ok (.istore 7, 2) := by decide +kernel
theorem dL_isAnswered_190 : decode cL_isAnswered 190 = .ok (.iconst 0, 1) := by decide +kernel
theorem dL_isAnswered_191 : decode cL_isAnswered 191 = .ok (.istore 8, 2) := by decide +kernel
theorem dL_isAnswered_193 : decode cL_isAnswered 193 = .ok (.iload 8, 2) := by decide +kernel
theorem dL_isAnswered_195 : decode cL_isAnswered 195 = .ok (.aload_n 0, 1) := by decide +kernel
theorem dL_isAnswered_196 : decode cL_isAnswered 196 = .ok (.invokevirtual 169, 3) := by decide +kernel
theorem dL_isAnswered_199 : decode cL_isAnswered 199 = .ok (.if_icmp .ge 71, 3) := by decide +kernel
theorem dL_isAnswered_202 : decode cL_isAnswered 202 = .ok (.iload 7, 2) := by decide +kernel
theorem dL_isAnswered_204 : decode cL_isAnswered 204 = .ok (.ifCond .eq 66, 3) := by decide +kernel
theorem dL_isAnswered_207 : decode cL_isAnswered 207 = .ok (.aload_n 0, 1) := by decide +kernel
theorem dL_isAnswered_208 : decode cL_isAnswered 208 = .ok (.bipush 9, 2) := by decide +kernel
theorem dL_isAnswered_210 : decode cL_isAnswered 210 = .ok (.iload 8, 2) := by decide +kernel
theorem dL_isAnswered_212 : decode cL_isAnswered 212 = .ok (.iconst 0, 1) := by decide +kernel
theorem dL_isAnswered_213 : decode cL_isAnswered 213 = .ok (.invokestatic 159, 3) := by decide +kernel
theorem dL_isAnswered_216 : decode cL_isAnswered 216 = .ok (.istore 9, 2) := by decide +kernel
theorem dL_isAnswered_218 : decode cL_isAnswered 218 = .ok (.aload 4, 2) := by decide +kernel
theorem dL_isAnswered_220 : decode cL_isAnswered 220 = .ok (.aload_n 0, 1) := by decide +kernel
theorem dL_isAnswered_221 : decode cL_isAnswered 221 = .ok (.aload_n 1, 1) := by decide +kernel
theorem dL_isAnswered_222 : decode cL_isAnswered 222 = .ok (.iload 8, 2) := by decide +kernel
theorem dL_isAnswered_224 : decode cL_isAnswered 224 = .ok (.invokestatic 180, 3) := by decide +kernel
theorem dL_isAnswered_227 : decode cL_isAnswered 227 = .ok (.invokestatic 165, 3) := by decide +kernel
theorem dL_isAnswered_230 : decode cL_isAnswered 230 = .ok (.ifCond .eq 27, 3) := by decide +kernel
theorem dL_isAnswered_233 : decode cL_isAnswered 233 = .ok (.iload 9, 2) := by decide +kernel
theorem dL_isAnswered_235 : decode cL_isAnswered 235 = .ok (.bipush 97, 2) := by decide +kernel
theorem dL_isAnswered_237 : decode cL_isAnswered 237 = .ok (.if_icmp .eq 20, 3) := by decide +kernel
theorem dL_isAnswered_240 : decode cL_isAnswered 240 = .ok (.iload 9, 2) := by decide +kernel
theorem dL_isAnswered_242 : decode cL_isAnswered 242 = .ok (.bipush 114, 2) := by decide +kernel
theorem dL_isAnswered_244 : decode cL_isAnswered 244 = .ok (.if_icmp .ne 17, 3) := by decide +kernel
theorem dL_isAnswered_247 : decode cL_isAnswered 247 = .ok (.aload_n 0, 1) := by decide +kernel
theorem dL_isAnswered_248 : decode cL_isAnswered 248 = .ok (.iload 8, 2) := by decide +kernel
theorem dL_isAnswered_250 : decode cL_isAnswered 250 = .ok (.aload_n 3, 1) := by decide +kernel
theorem dL_isAnswered_251 : decode cL_isAnswered 251 = .ok (.invokestatic 184, 3) := by decide +kernel
theorem dL_isAnswered_254 : decode cL_isAnswered 254 = .ok (.ifCond .eq 7, 3) := by decide +kernel
theorem dL_isAnswered_257 : decode cL_isAnswered 257 = .ok (.iconst 1, 1) := by decide +kernel
theorem dL_isAnswered_258 : decode cL_isAnswered 258 = .ok (.goto 4, 3) := by decide +kernel
theorem dL_isAnswered_261 : decode cL_isAnswered 261 = .ok (.iconst 0, 1) := by decide +kernel
theorem dL_isAnswered_262 : decode cL_isAnswered 262 = .ok (.istore 7, 2) := by decide +kernel
theorem dL_isAnswered_264 : decode cL_isAnswered 264 = .ok (.iinc 8 1, 3) := by decide +kernel
theorem dL_isAnswered_267 : decode cL_isAnswered 267 = .ok (.goto (-74), 3) := by decide +kernel
theorem dL_isAnswered_270 : decode cL_isAnswered 270 = .ok (.iload 7, 2) := by decide +kernel
theorem dL_isAnswered_272 : decode cL_isAnswered 272 = .ok (.ifCond .eq 51, 3) := by decide +kernel
theorem dL_isAnswered_275 : decode cL_isAnswered 275 = .ok (.aload_n 0, 1) := by decide +kernel
theorem dL_isAnswered_276 : decode cL_isAnswered 276 = .ok (.aload 4, 2) := by decide +kernel
theorem dL_isAnswered_278 : decode cL_isAnswered 278 = .ok (.invokestatic 155, 3) := by decide +kernel
theorem dL_isAnswered_281 : decode cL_isAnswered 281 = .ok (.ifCond .eq 42, 3) := by decide +kernel
theorem dL_isAnswered_284 : decode cL_isAnswered 284 = .ok (.aload_n 0, 1) := by decide +kernel
theorem dL_isAnswered_285 : decode cL_isAnswered 285 = .ok (.iconst 2, 1) := by decide +kernel
theorem dL_isAnswered_286 : decode cL_isAnswered 286 = .ok (.iload 5, 2) := by decide +kernel
theorem dL_isAnswered_288 : decode cL_isAnswered 288 = .ok (.iconst 0, 1) := by decide +kernel
theorem dL_isAnswered_289 : decode cL_isAnswered 289 = .ok (.invokestatic 159, 3) := by decide +kernel
theorem dL_isAnswered_292 : decode cL_isAnswered 292 = .ok (.bipush 100, 2) := by decide +kernel
theorem dL_isAnswered_294 : decode cL_isAnswered 294 = .ok (.if_icmp .ne 29, 3) := by decide +kernel
theorem dL_isAnswered_297 : decode cL_isAnswered 297 = .ok (.aload_n 0, 1) := by decide +kernel
theorem dL_isAnswered_298 : decode cL_isAnswered 298 = .ok (.iconst 0, 1) := by decide +kernel
theorem dL_isAnswered_299 : decode cL_isAnswered 299 = .ok (.iload 5, 2) := by decide +kernel
theorem dL_isAnswered_301 : decode cL_isAnswered 301 = .ok (.iconst 0, 1) := by decide +kernel
theorem dL_isAnswered_302 : decode cL_isAnswered 302 = .ok (.invokestatic 159, 3) := by decide +kernel
theorem dL_isAnswered_305 : decode cL_isAnswered 305 = .ok (.ifCond .ne 18, 3) := by decide +kernel
theorem dL_isAnswered_308 : decode cL_isAnswered 308 = .ok (.aload_n 0, 1) := by decide +kernel
theorem dL_isAnswered_309 : decode cL_isAnswered 309 = .ok (.invokevirtual 149, 3) := by decide +kernel
theorem dL_isAnswered_312 : decode cL_isAnswered 312 = .ok (.aload 4, 2) := by decide +kernel
theorem dL_isAnswered_314 : decode cL_isAnswered 314 = .ok (.iconst 0, 1) := by decide +kernel
theorem dL_isAnswered_315 : decode cL_isAnswered 315 = .ok (.iaload, 1) := by decide +kernel
theorem dL_isAnswered_316 : decode cL_isAnswered 316 = .ok (.if_icmp .ne 7, 3) := by decide +kernel
theorem dL_isAnswered_319 : decode cL_isAnswered 319 = .ok (.iconst 1, 1) := by decide +kernel
theorem dL_isAnswered_320 : decode cL_isAnswered 320 = .ok (.goto 4, 3) := by decide +kernel
theorem dL_isAnswered_323 : decode cL_isAnswered 323 = .ok (.iconst 0, 1) := by decide +kernel
theorem dL_isAnswered_324 : decode cL_isAnswered 324 = .ok (.ireturn, 1) := by decide +kernel
theorem dL_law_0 : decode cL_law 0 = .ok (.new 16, 3) := by decide +kernel
theorem dL_law_3 : decode cL_law 3 = .ok (.dup, 1) := by decide +kernel
theorem dL_law_4 : decode cL_law 4 = .ok (.invokespecial 188, 3) := by decide +kernel
theorem dL_law_7 : decode cL_law 7 = .ok (.astore_n 1, 1) := by decide +kernel
theorem dL_law_8 : decode cL_law 8 = .ok (.aload_n 1, 1) := by decide +kernel
theorem dL_law_9 : decode cL_law 9 = .ok (.invokevirtual 169, 3) := by decide +kernel
theorem dL_law_12 : decode cL_law 12 = .ok (.ifCond .ne 69, 3) := by decide +kernel
theorem dL_law_15 : decode cL_law 15 = .ok (.aload_n 1, 1) := by decide +kernel
theorem dL_law_16 : decode cL_law 16 = .ok (.invokevirtual 189, 3) := by decide +kernel
theorem dL_law_19 : decode cL_law 19 = .ok (.ifCond .ne 62, 3) := by decide +kernel
theorem dL_law_22 : decode cL_law 22 = .ok (.aload_n 1, 1) := by decide +kernel
theorem dL_law_23 : decode cL_law 23 = .ok (.invokevirtual 192, 3) := by decide +kernel
theorem dL_law_26 : decode cL_law 26 = .ok (.lconst 0, 1) := by decide +kernel
theorem dL_law_27 : decode cL_law 27 = .ok (.lcmp, 1) := by decide +kernel
theorem dL_law_28 : decode cL_law 28 = .ok (.ifCond .ne 53, 3) := by decide +kernel
theorem dL_law_31 : decode cL_law 31 = .ok (.aload_n 1, 1) := by decide +kernel
theorem dL_law_32 : decode cL_law 32 = .ok (.bipush 12, 2) := by decide +kernel
theorem dL_law_34 : decode cL_law 34 = .ok (.bipush 50, 2) := by decide +kernel
theorem dL_law_36 : decode cL_law 36 = .ok (.iconst 0, 1) := by decide +kernel
theorem dL_law_37 : decode cL_law 37 = .ok (.iconst 0, 1) := by decide +kernel
theorem dL_law_38 : decode cL_law 38 = .ok (.iconst 0, 1) := by decide +kernel
theorem dL_law_39 : decode cL_law 39 = .ok (.invokestatic 152, 3) := by decide +kernel
theorem dL_law_42 : decode cL_law 42 = .ok (.ifCond .ne 39, 3) := by decide +kernel
theorem dL_law_45 : decode cL_law 45 = .ok (.aload_n 1, 1) := by decide +kernel
theorem dL_law_46 : decode cL_law 46 = .ok (.bipush 8, 2) := by decide +kernel
theorem dL_law_48 : decode cL_law 48 = .ok (.iconst 0, 1) := by decide +kernel
theorem dL_law_49 : decode cL_law 49 = .ok (.iconst 0, 1) := by decide +kernel
theorem dL_law_50 : decode cL_law 50 = .ok (.iconst 0, 1) := by decide +kernel
theorem dL_law_51 : decode cL_law 51 = .ok (.iconst 0, 1) := by decide +kernel
theorem dL_law_52 : decode cL_law 52 = .ok (.invokestatic 152, 3) := by decide +kernel
theorem dL_law_55 : decode cL_law 55 = .ok (.sipush (-2005), 3) := by decide +kernel
theorem dL_law_58 : decode cL_law 58 = .ok (.if_icmp .ne 23, 3) := by decide +kernel
theorem dL_law_61 : decode cL_law 61 = .ok (.aload_n 1, 1) := by decide +kernel
theorem dL_law_62 : decode cL_law 62 = .ok (.bipush 11, 2) := by decide +kernel
theorem dL_law_64 : decode cL_law 64 = .ok (.iconst 0, 1) := by decide +kernel
theorem dL_law_65 : decode cL_law 65 = .ok (.iconst 0, 1) := by decide +kernel
theorem dL_law_66 : decode cL_law 66 = .ok (.iconst 0, 1) := by decide +kernel
theorem dL_law_67 : decode cL_law 67 = .ok (.iconst 0, 1) := by decide +kernel
theorem dL_law_68 : decode cL_law 68 = .ok (.invokestatic 152, 3) := by decide +kernel
theorem dL_law_71 : decode cL_law 71 = .ok (.sipush (-2003), 3) := by decide +kernel
theorem dL_law_74 : decode cL_law 74 = .ok (.if_icmp .ne 7, 3) := by decide +kernel
theorem dL_law_77 : decode cL_law 77 = .ok (.iconst 1, 1) := by decide +kernel
theorem dL_law_78 : decode cL_law 78 = .ok (.goto 4, 3) := by decide +kernel
theorem dL_law_81 : decode cL_law 81 = .ok (.iconst 0, 1) := by decide +kernel
theorem dL_law_82 : decode cL_law 82 = .ok (.istore_n 2, 1) := by decide +kernel
theorem dL_law_83 : decode cL_law 83 = .ok (.aload_n 0, 1) := by decide +kernel
theorem dL_law_84 : decode cL_law 84 = .ok (.iconst 0, 1) := by decide +kernel
theorem dL_law_85 : decode cL_law 85 = .ok (.iconst 2, 1) := by decide +kernel
theorem dL_law_86 : decode cL_law 86 = .ok (.invokestatic 140, 3) := by decide +kernel
theorem dL_law_89 : decode cL_law 89 = .ok (.ifCond .ne 58, 3) := by decide +kernel
theorem dL_law_92 : decode cL_law 92 = .ok (.iload_n 2, 1) := by decide +kernel
theorem dL_law_93 : decode cL_law 93 = .ok (.ifCond .eq 52, 3) := by decide +kernel
theorem dL_law_96 : decode cL_law 96 = .ok (.aload_n 1, 1) := by decide +kernel
theorem dL_law_97 : decode cL_law 97 = .ok (.iconst 4, 1) := by decide +kernel
theorem dL_law_98 : decode cL_law 98 = .ok (.iconst 1, 1) := by decide +kernel
theorem dL_law_99 : decode cL_law 99 = .ok (.aload_n 0, 1) := by decide +kernel
theorem dL_law_100 : decode cL_law 100 = .ok (.iconst 1, 1) := by decide +kernel
theorem dL_law_101 : decode cL_law 101 = .ok (.bipush 9, 2) := by decide +kernel
theorem dL_law_103 : decode cL_law 103 = .ok (.invokestatic 140, 3) := by decide +kernel
theorem dL_law_106 : decode cL_law 106 = .ok (.iadd, 1) := by decide +kernel
theorem dL_law_107 : decode cL_law 107 = .ok (.iconst 1, 1) := by decide +kernel
theorem dL_law_108 : decode cL_law 108 = .ok (.aload_n 0, 1) := by decide +kernel
theorem dL_law_109 : decode cL_law 109 = .ok (.iconst 2, 1) := by decide +kernel
theorem dL_law_110 : decode cL_law 110 = .ok (.bipush 9, 2) := by decide +kernel
theorem dL_law_112 : decode cL_law 112 = .ok (.invokestatic 140, 3) := by decide +kernel
theorem dL_law_115 : decode cL_law 115 = .ok (.iadd, 1) := by decide +kernel
theorem dL_law_116 : decode cL_law 116 = .ok (.iconst 1, 1) := by decide +kernel
theorem dL_law_117 : decode cL_law 117 = .ok (.aload_n 0, 1) := by decide +kernel
theorem dL_law_118 : decode cL_law 118 = .ok (.iconst 3, 1) := by decide +kernel
theorem dL_law_119 : decode cL_law 119 = .ok (.bipush 9, 2) := by decide +kernel
theorem dL_law_121 : decode cL_law 121 = .ok (.invokestatic 140, 3) := by decide +kernel
theorem dL_law_124 : decode cL_law 124 = .ok (.iadd, 1) := by decide +kernel
theorem dL_law_125 : decode cL_law 125 = .ok (.iconst 1, 1) := by decide +kernel
theorem dL_law_126 : decode cL_law 126 = .ok (.aload_n 0, 1) := by decide +kernel
theorem dL_law_127 : decode cL_law 127 = .ok (.iconst 4, 1) := by decide +kernel
theorem dL_law_128 : decode cL_law 128 = .ok (.bipush 9, 2) := by decide +kernel
theorem dL_law_130 : decode cL_law 130 = .ok (.invokestatic 140, 3) := by decide +kernel
theorem dL_law_133 : decode cL_law 133 = .ok (.iadd, 1) := by decide +kernel
theorem dL_law_134 : decode cL_law 134 = .ok (.invokestatic 152, 3) := by decide +kernel
theorem dL_law_137 : decode cL_law 137 = .ok (.iconst 4, 1) := by decide +kernel
theorem dL_law_138 : decode cL_law 138 = .ok (.if_icmp .ne 7, 3) := by decide +kernel
theorem dL_law_141 : decode cL_law 141 = .ok (.iconst 1, 1) := by decide +kernel
theorem dL_law_142 : decode cL_law 142 = .ok (.goto 4, 3) := by decide +kernel
theorem dL_law_145 : decode cL_law 145 = .ok (.iconst 0, 1) := by decide +kernel
theorem dL_law_146 : decode cL_law 146 = .ok (.istore_n 2, 1) := by decide +kernel
theorem dL_law_147 : decode cL_law 147 = .ok (.bipush 16, 2) := by decide +kernel
theorem dL_law_149 : decode cL_law 149 = .ok (.anewarray 196, 3) := by decide +kernel
theorem dL_law_152 : decode cL_law 152 = .ok (.astore_n 3, 1) := by decide +kernel
theorem dL_law_153 : decode cL_law 153 = .ok (.aload_n 0, 1) := by decide +kernel
theorem dL_law_154 : decode cL_law 154 = .ok (.iconst 5, 1) := by decide +kernel
theorem dL_law_155 : decode cL_law 155 = .ok (.bipush 6, 2) := by decide +kernel
theorem dL_law_157 : decode cL_law 157 = .ok (.invokestatic 140, 3) := by decide +kernel
theorem dL_law_160 : decode cL_law 160 = .ok (.istore 4, 2) := by decide +kernel
theorem dL_law_162 : decode cL_law 162 = .ok (.iconst 0, 1) := by decide +kernel
theorem dL_law_163 : decode cL_law 163 = .ok (.istore 5, 2) := by decide +kernel
theorem dL_law_165 : decode cL_law 165 = .ok (.iload 5, 2) := by decide +kernel
theorem dL_law_167 : decode cL_law 167 = .ok (.iload 4, 2) := by decide +kernel
theorem dL_law_169 : decode cL_law 169 = .ok (.if_icmp .ge 105, 3) := by decide +kernel
theorem dL_law_172 : decode cL_law 172 = .ok (.iload_n 2, 1) := by decide +kernel
theorem dL_law_173 : decode cL_law 173 = .ok (.ifCond .eq 101, 3) := by decide +kernel
theorem dL_law_176 : decode cL_law 176 = .ok (.aload_n 3, 1) := by decide +kernel
theorem dL_law_177 : decode cL_law 177 = .ok (.iload 5, 2) := by decide +kernel
theorem dL_law_179 : decode cL_law 179 = .ok (.iload 5, 2) := by decide +kernel
theorem dL_law_181 : decode cL_law 181 = .ok (.ifCond .le 37, 3) := by decide +kernel
theorem dL_law_184 : decode cL_law 184 = .ok (.aload_n 0, 1) := by decide +kernel
theorem dL_law_185 : decode cL_law 185 = .ok (.bipush 10, 2) := by decide +kernel
theorem dL_law_187 : decode cL_law 187 = .ok (.iload 5, 2) := by decide +kernel
theorem dL_law_189 : decode cL_law 189 = .ok (.iadd, 1) := by decide +kernel
theorem dL_law_190 : decode cL_law 190 = .ok (.iconst 2, 1) := by decide +kernel
theorem dL_law_191 : decode cL_law 191 = .ok (.invokestatic 140, 3) := by decide +kernel
theorem dL_law_194 : decode cL_law 194 = .ok (.ifCond .ne 24, 3) := by decide +kernel
theorem dL_law_197 : decode cL_law 197 = .ok (.aload_n 3, 1) := by decide +kernel
theorem dL_law_198 : decode cL_law 198 = .ok (.iload 5, 2) := by decide +kernel
theorem dL_law_200 : decode cL_law 200 = .ok (.iconst 1, 1) := by decide +kernel
theorem dL_law_201 : decode cL_law 201 = .ok (.isub, 1) := by decide +kernel
theorem dL_law_202 : decode cL_law 202 = .ok (.aaload, 1) := by decide +kernel
theorem dL_law_203 : decode cL_law 203 = .ok (.aload_n 0, 1) := by decide +kernel
theorem dL_law_204 : decode cL_law 204 = .ok (.bipush 100, 2) := by decide +kernel
theorem dL_law_206 : decode cL_law 206 = .ok (.bipush 70, 2) := by decide +kernel
theorem dL_law_208 : decode cL_law 208 = .ok (.iload 5, 2) := by decide +kernel
theorem dL_law_210 : decode cL_law 210 = .ok (.imul, 1) := by decide +kernel
theorem dL_law_211 : decode cL_law 211 = .ok (.iadd, 1) := by decide +kernel
theorem dL_law_212 : decode cL_law 212 = .ok (.invokestatic 198, 3) := by decide +kernel
theorem dL_law_215 : decode cL_law 215 = .ok (.goto 18, 3) := by decide +kernel
theorem dL_law_218 : decode cL_law 218 = .ok (.aload_n 0, 1) := by decide +kernel
theorem dL_law_219 : decode cL_law 219 = .ok (.sipush 600, 3) := by decide +kernel
theorem dL_law_222 : decode cL_law 222 = .ok (.bipush 90, 2) := by decide +kernel
theorem dL_law_224 : decode cL_law 224 = .ok (.iload 5, 2) := by decide +kernel
theorem dL_law_226 : decode cL_law 226 = .ok (.imul, 1) := by decide +kernel
theorem dL_law_227 : decode cL_law 227 = .ok (.iadd, 1) := by decide +kernel
theorem dL_law_228 : decode cL_law 228 = .ok (.bipush 9, 2) := by decide +kernel
theorem dL_law_230 : decode cL_law 230 = .ok (.invokestatic 202, 3) := by decide +kernel
theorem dL_law_233 : decode cL_law 233 = .ok (.aastore, 1) := by decide +kernel
theorem dL_law_234 : decode cL_law 234 = .ok (.aload_n 1, 1) := by decide +kernel
theorem dL_law_235 : decode cL_law 235 = .ok (.aload_n 3, 1) := by decide +kernel
theorem dL_law_236 : decode cL_law 236 = .ok (.iload 5, 2) := by decide +kernel
theorem dL_law_238 : decode cL_law 238 = .ok (.aaload, 1) := by decide +kernel
theorem dL_law_239 : decode cL_law 239 = .ok (.aload_n 0, 1) := by decide +kernel
theorem dL_law_240 : decode cL_law 240 = .ok (.sipush 1200, 3) := by decide +kernel
theorem dL_law_243 : decode cL_law 243 = .ok (.bipush 90, 2) := by decide +kernel
theorem dL_law_245 : decode cL_law 245 = .ok (.iload 5, 2) := by decide +kernel
theorem dL_law_247 : decode cL_law 247 = .ok (.imul, 1) := by decide +kernel
theorem dL_law_248 : decode cL_law 248 = .ok (.iadd, 1) := by decide +kernel
theorem dL_law_249 : decode cL_law 249 = .ok (.bipush 7, 2) := by decide +kernel
theorem dL_law_251 : decode cL_law 251 = .ok (.invokestatic 202, 3) := by decide +kernel
theorem dL_law_254 : decode cL_law 254 = .ok (.invokestatic 206, 3) := by decide +kernel
theorem dL_law_257 : decode cL_law 257 = .ok (.iload 5, 2) := by decide +kernel
theorem dL_law_259 : decode cL_law 259 = .ok (.if_icmp .ne 7, 3) := by decide +kernel
theorem dL_law_262 : decode cL_law 262 = .ok (.iconst 1, 1) := by decide +kernel
theorem dL_law_263 : decode cL_law 263 = .ok (.goto 4, 3) := by decide +kernel
theorem dL_law_266 : decode cL_law 266 = .ok (.iconst 0, 1) := by decide +kernel
theorem dL_law_267 : decode cL_law 267 = .ok (.istore_n 2, 1) := by decide +kernel
theorem dL_law_268 : decode cL_law 268 = .ok (.iinc 5 1, 3) := by decide +kernel
theorem dL_law_271 : decode cL_law 271 = .ok (.goto (-106), 3) := by decide +kernel
theorem dL_law_274 : decode cL_law 274 = .ok (.iconst 0, 1) := by decide +kernel
theorem dL_law_275 : decode cL_law 275 = .ok (.istore 5, 2) := by decide +kernel
theorem dL_law_277 : decode cL_law 277 = .ok (.iload 5, 2) := by decide +kernel
theorem dL_law_279 : decode cL_law 279 = .ok (.iconst 4, 1) := by decide +kernel
theorem dL_law_280 : decode cL_law 280 = .ok (.if_icmp .ge 55, 3) := by decide +kernel
theorem dL_law_283 : decode cL_law 283 = .ok (.iload_n 2, 1) := by decide +kernel
theorem dL_law_284 : decode cL_law 284 = .ok (.ifCond .eq 43, 3) := by decide +kernel
theorem dL_law_287 : decode cL_law 287 = .ok (.aload_n 1, 1) := by decide +kernel
theorem dL_law_288 : decode cL_law 288 = .ok (.bipush 6, 2) := by decide +kernel
theorem dL_law_290 : decode cL_law 290 = .ok (.aload_n 0, 1) := by decide +kernel
theorem dL_law_291 : decode cL_law 291 = .ok (.bipush 20, 2) := by decide +kernel
theorem dL_law_293 : decode cL_law 293 = .ok (.iload 5, 2) := by decide +kernel
theorem dL_law_295 : decode cL_law 295 = .ok (.iadd, 1) := by decide +kernel
theorem dL_law_296 : decode cL_law 296 = .ok (.bipush 24, 2) := by decide +kernel
theorem dL_law_298 : decode cL_law 298 = .ok (.invokestatic 140, 3) := by decide +kernel
theorem dL_law_301 : decode cL_law 301 = .ok (.aload_n 0, 1) := by decide +kernel
theorem dL_law_302 : decode cL_law 302 = .ok (.bipush 30, 2) := by decide +kernel
theorem dL_law_304 : decode cL_law 304 = .ok (.iload 5, 2) := by decide +kernel
theorem dL_law_306 : decode cL_law 306 = .ok (.iadd, 1) := by decide +kernel
theorem dL_law_307 : decode cL_law 307 = .ok (.bipush 24, 2) := by decide +kernel
theorem dL_law_309 : decode cL_law 309 = .ok (.invokestatic 140, 3) := by decide +kernel
theorem dL_law_312 : decode cL_law 312 = .ok (.iconst 0, 1) := by decide +kernel
theorem dL_law_313 : decode cL_law 313 = .ok (.iconst 0, 1) := by decide +kernel
theorem dL_law_314 : decode cL_law 314 = .ok (.invokestatic 152, 3) := by decide +kernel
theorem dL_law_317 : decode cL_law 317 = .ok (.sipush (-2004), 3) := by decide +kernel
theorem dL_law_320 : decode cL_law 320 = .ok (.if_icmp .lt 7, 3) := by decide +kernel
theorem dL_law_323 : decode cL_law 323 = .ok (.iconst 1, 1) := by decide +kernel
theorem dL_law_324 : decode cL_law 324 = .ok (.goto 4, 3) := by decide +kernel
theorem dL_law_327 : decode cL_law 327 = .ok (.iconst 0, 1) := by decide +kernel
theorem dL_law_328 : decode cL_law 328 = .ok (.istore_n 2, 1) := by decide +kernel
theorem dL_law_329 : decode cL_law 329 = .ok (.iinc 5 1, 3) := by decide +kernel
theorem dL_law_332 : decode cL_law 332 = .ok (.goto (-55), 3) := by decide +kernel
theorem dL_law_335 : decode cL_law 335 = .ok (.iload 4, 2) := by decide +kernel
theorem dL_law_337 : decode cL_law 337 = .ok (.iconst 1, 1) := by decide +kernel
theorem dL_law_338 : decode cL_law 338 = .ok (.if_icmp .le 56, 3) := by decide +kernel
theorem dL_law_341 : decode cL_law 341 = .ok (.aload_n 0, 1) := by decide +kernel
theorem dL_law_342 : decode cL_law 342 = .ok (.bipush 40, 2) := by decide +kernel
theorem dL_law_344 : decode cL_law 344 = .ok (.iconst 3, 1) := by decide +kernel
theorem dL_law_345 : decode cL_law 345 = .ok (.invokestatic 140, 3) := by decide +kernel
theorem dL_law_348 : decode cL_law 348 = .ok (.ifCond .ne 46, 3) := by decide +kernel
theorem dL_law_351 : decode cL_law 351 = .ok (.iload_n 2, 1) := by decide +kernel
theorem dL_law_352 : decode cL_law 352 = .ok (.ifCond .eq 40, 3) := by decide +kernel
theorem dL_law_355 : decode cL_law 355 = .ok (.aload_n 1, 1) := by decide +kernel
theorem dL_law_356 : decode cL_law 356 = .ok (.bipush 10, 2) := by decide +kernel
theorem dL_law_358 : decode cL_law 358 = .ok (.iconst 0, 1) := by decide +kernel
theorem dL_law_359 : decode cL_law 359 = .ok (.iconst 0, 1) := by decide +kernel
theorem dL_law_360 : decode cL_law 360 = .ok (.iconst 0, 1) := by decide +kernel
theorem dL_law_361 : decode cL_law 361 = .ok (.iconst 0, 1) := by decide +kernel
theorem dL_law_362 : decode cL_law 362 = .ok (.invokestatic 152, 3) := by decide +kernel
theorem dL_law_365 : decode cL_law 365 = .ok (.iload 4, 2) := by decide +kernel
theorem dL_law_367 : decode cL_law 367 = .ok (.iconst 1, 1) := by decide +kernel
theorem dL_law_368 : decode cL_law 368 = .ok (.isub, 1) := by decide +kernel
theorem dL_law_369 : decode cL_law 369 = .ok (.if_icmp .ne 23, 3) := by decide +kernel
theorem dL_law_372 : decode cL_law 372 = .ok (.aload_n 1, 1) := by decide +kernel
theorem dL_law_373 : decode cL_law 373 = .ok (.bipush 10, 2) := by decide +kernel
theorem dL_law_375 : decode cL_law 375 = .ok (.iconst 0, 1) := by decide +kernel
theorem dL_law_376 : decode cL_law 376 = .ok (.iconst 0, 1) := by decide +kernel
theorem dL_law_377 : decode cL_law 377 = .ok (.iconst 0, 1) := by decide +kernel
theorem dL_law_378 : decode cL_law 378 = .ok (.iconst 0, 1) := by decide +kernel
theorem dL_law_379 : decode cL_law 379 = .ok (.invokestatic 152, 3) := by decide +kernel
theorem dL_law_382 : decode cL_law 382 = .ok (.sipush (-2004), 3) := by decide +kernel
theorem dL_law_385 : decode cL_law 385 = .ok (.if_icmp .ne 7, 3) := by decide +kernel
theorem dL_law_388 : decode cL_law 388 = .ok (.iconst 1, 1) := by decide +kernel
theorem dL_law_389 : decode cL_law 389 = .ok (.goto 4, 3) := by decide +kernel
theorem dL_law_392 : decode cL_law 392 = .ok (.iconst 0, 1) := by decide +kernel
theorem dL_law_393 : decode cL_law 393 = .ok (.istore_n 2, 1) := by decide +kernel
theorem dL_law_394 : decode cL_law 394 = .ok (.iload_n 2, 1) := by decide +kernel
theorem dL_law_395 : decode cL_law 395 = .ok (.ifCond .eq 47, 3) := by decide +kernel
theorem dL_law_398 : decode cL_law 398 = .ok (.aload_n 1, 1) := by decide +kernel
theorem dL_law_399 : decode cL_law 399 = .ok (.aload_n 0, 1) := by decide +kernel
theorem dL_law_400 : decode cL_law 400 = .ok (.sipush 1800, 3) := by decide +kernel
theorem dL_law_403 : decode cL_law 403 = .ok (.bipush 8, 2) := by decide +kernel
theorem dL_law_405 : decode cL_law 405 = .ok (.invokestatic 202, 3) := by decide +kernel
theorem dL_law_408 : decode cL_law 408 = .ok (.aload_n 3, 1) := by decide +kernel
theorem dL_law_409 : decode cL_law 409 = .ok (.invokestatic 210, 3) := by decide +kernel
theorem dL_law_412 : decode cL_law 412 = .ok (.ifCond .eq 30, 3) := by decide +kernel
theorem dL_law_415 : decode cL_law 415 = .ok (.iload 4, 2) := by decide +kernel
theorem dL_law_417 : decode cL_law 417 = .ok (.ifCond .eq 21, 3) := by decide +kernel
theorem dL_law_420 : decode cL_law 420 = .ok (.aload_n 1, 1) := by decide +kernel
theorem dL_law_421 : decode cL_law 421 = .ok (.aload_n 3, 1) := by decide +kernel
theorem dL_law_422 : decode cL_law 422 = .ok (.iconst 0, 1) := by decide +kernel
theorem dL_law_423 : decode cL_law 423 = .ok (.aaload, 1) := by decide +kernel
theorem dL_law_424 : decode cL_law 424 = .ok (.aload_n 0, 1) := by decide +kernel
theorem dL_law_425 : decode cL_law 425 = .ok (.sipush 1900, 3) := by decide +kernel
theorem dL_law_428 : decode cL_law 428 = .ok (.invokestatic 198, 3) := by decide +kernel
theorem dL_law_431 : decode cL_law 431 = .ok (.aload_n 3, 1) := by decide +kernel
theorem dL_law_432 : decode cL_law 432 = .ok (.invokestatic 210, 3) := by decide +kernel
theorem dL_law_435 : decode cL_law 435 = .ok (.ifCond .eq 7, 3) := by decide +kernel
theorem dL_law_438 : decode cL_law 438 = .ok (.iconst 1, 1) := by decide +kernel
theorem dL_law_439 : decode cL_law 439 = .ok (.goto 4, 3) := by decide +kernel
theorem dL_law_442 : decode cL_law 442 = .ok (.iconst 0, 1) := by decide +kernel
theorem dL_law_443 : decode cL_law 443 = .ok (.istore_n 2, 1) := by decide +kernel
theorem dL_law_444 : decode cL_law 444 = .ok (.bipush 61, 2) := by decide +kernel
theorem dL_law_446 : decode cL_law 446 = .ok (.newarray .int, 2) := by decide +kernel
theorem dL_law_448 : decode cL_law 448 = .ok (.astore 5, 2) := by decide +kernel
theorem dL_law_450 : decode cL_law 450 = .ok (.iconst 0, 1) := by decide +kernel
theorem dL_law_451 : decode cL_law 451 = .ok (.istore 6, 2) := by decide +kernel
theorem dL_law_453 : decode cL_law 453 = .ok (.iload 6, 2) := by decide +kernel
theorem dL_law_455 : decode cL_law 455 = .ok (.iconst 5, 1) := by decide +kernel
theorem dL_law_456 : decode cL_law 456 = .ok (.if_icmp .ge 115, 3) := by decide +kernel
theorem dL_law_459 : decode cL_law 459 = .ok (.iload 4, 2) := by decide +kernel
theorem dL_law_461 : decode cL_law 461 = .ok (.ifCond .le 32, 3) := by decide +kernel
theorem dL_law_464 : decode cL_law 464 = .ok (.aload_n 0, 1) := by decide +kernel
theorem dL_law_465 : decode cL_law 465 = .ok (.bipush 50, 2) := by decide +kernel
theorem dL_law_467 : decode cL_law 467 = .ok (.iload 6, 2) := by decide +kernel
theorem dL_law_469 : decode cL_law 469 = .ok (.iadd, 1) := by decide +kernel
theorem dL_law_470 : decode cL_law 470 = .ok (.iconst 2, 1) := by decide +kernel
theorem dL_law_471 : decode cL_law 471 = .ok (.invokestatic 140, 3) := by decide +kernel
theorem dL_law_474 : decode cL_law 474 = .ok (.ifCond .ne 19, 3) := by decide +kernel
theorem dL_law_477 : decode cL_law 477 = .ok (.aload_n 3, 1) := by decide +kernel
theorem dL_law_478 : decode cL_law 478 = .ok (.aload_n 0, 1) := by decide +kernel
theorem dL_law_479 : decode cL_law 479 = .ok (.bipush 60, 2) := by decide +kernel
theorem dL_law_481 : decode cL_law 481 = .ok (.iload 6, 2) := by decide +kernel
theorem dL_law_483 : decode cL_law 483 = .ok (.iadd, 1) := by decide +kernel
theorem dL_law_484 : decode cL_law 484 = .ok (.iload 4, 2) := by decide +kernel
theorem dL_law_486 : decode cL_law 486 = .ok (.invokestatic 140, 3) := by decide +kernel
theorem dL_law_489 : decode cL_law 489 = .ok (.aaload, 1) := by decide +kernel
theorem dL_law_490 : decode cL_law 490 = .ok (.goto 26, 3) := by decide +kernel
theorem dL_law_493 : decode cL_law 493 = .ok (.aload_n 0, 1) := by decide +kernel
theorem dL_law_494 : decode cL_law 494 = .ok (.sipush 2000, 3) := by decide +kernel
theorem dL_law_497 : decode cL_law 497 = .ok (.bipush 80, 2) := by decide +kernel
theorem dL_law_499 : decode cL_law 499 = .ok (.aload_n 0, 1) := by decide +kernel
theorem dL_law_500 : decode cL_law 500 = .ok (.bipush 70, 2) := by decide +kernel
theorem dL_law_502 : decode cL_law 502 = .ok (.iload 6, 2) := by decide +kernel
theorem dL_law_504 : decode cL_law 504 = .ok (.iadd, 1) := by decide +kernel
theorem dL_law_505 : decode cL_law 505 = .ok (.iconst 3, 1) := by decide +kernel
theorem dL_law_506 : decode cL_law 506 = .ok (.invokestatic 140, 3) := by decide +kernel
theorem dL_law_509 : decode cL_law 509 = .ok (.imul, 1) := by decide +kernel
theorem dL_law_510 : decode cL_law 510 = .ok (.iadd, 1) := by decide +kernel
theorem dL_law_511 : decode cL_law 511 = .ok (.bipush 6, 2) := by decide +kernel
theorem dL_law_513 : decode cL_law 513 = .ok (.invokestatic 202, 3) := by decide +kernel
theorem dL_law_516 : decode cL_law 516 = .ok (.astore 7, 2) := by decide +kernel
theorem dL_law_518 : decode cL_law 518 = .ok (.iconst 1, 1) := by decide +kernel
theorem dL_law_519 : decode cL_law 519 = .ok (.istore 8, 2) := by decide +kernel
theorem dL_law_521 : decode cL_law 521 = .ok (.iload 8, 2) := by decide +kernel
theorem dL_law_523 : decode cL_law 523 = .ok (.aload 7, 2) := by decide +kernel
theorem dL_law_525 : decode cL_law 525 = .ok (.iconst 0, 1) := by decide +kernel
theorem dL_law_526 : decode cL_law 526 = .ok (.iaload, 1) := by decide +kernel
theorem dL_law_527 : decode cL_law 527 = .ok (.if_icmp .gt 38, 3) := by decide +kernel
theorem dL_law_530 : decode cL_law 530 = .ok (.aload 5, 2) := by decide +kernel
theorem dL_law_532 : decode cL_law 532 = .ok (.iconst 0, 1) := by decide +kernel
theorem dL_law_533 : decode cL_law 533 = .ok (.iaload, 1) := by decide +kernel
theorem dL_law_534 : decode cL_law 534 = .ok (.bipush 60, 2) := by decide +kernel
theorem dL_law_536 : decode cL_law 536 = .ok (.if_icmp .ge 29, 3) := by decide +kernel
theorem dL_law_539 : decode cL_law 539 = .ok (.aload 5, 2) := by decide +kernel
theorem dL_law_541 : decode cL_law 541 = .ok (.iconst 0, 1) := by decide +kernel
theorem dL_law_542 : decode cL_law 542 = .ok (.dup2, 1) := by decide +kernel
theorem dL_law_543 : decode cL_law 543 = .ok (.iaload, 1) := by decide +kernel
theorem dL_law_544 : decode cL_law 544 = .ok (.iconst 1, 1) := by decide +kernel
theorem dL_law_545 : decode cL_law 545 = .ok (.iadd, 1) := by decide +kernel
theorem dL_law_546 : decode cL_law 546 = .ok (.iastore, 1) := by decide +kernel
theorem dL_law_547 : decode cL_law 547 = .ok (.aload 5, 2) := by decide +kernel
theorem dL_law_549 : decode cL_law 549 = .ok (.aload 5, 2) := by decide +kernel
theorem dL_law_551 : decode cL_law 551 = .ok (.iconst 0, 1) := by decide +kernel
theorem dL_law_552 : decode cL_law 552 = .ok (.iaload, 1) := by decide +kernel
theorem dL_law_553 : decode cL_law 553 = .ok (.aload 7, 2) := by decide +kernel
theorem dL_law_555 : decode cL_law 555 = .ok (.iload 8, 2) := by decide +kernel
theorem dL_law_557 : decode cL_law 557 = .ok (.iaload, 1) := by decide +kernel
theorem dL_law_558 : decode cL_law 558 = .ok (.iastore, 1) := by decide +kernel
theorem dL_law_559 : decode cL_law 559 = .ok (.iinc 8 1, 3) := by decide +kernel
theorem dL_law_562 : decode cL_law 562 = .ok (.goto (-41), 3) := by decide +kernel
theorem dL_law_565 : decode cL_law 565 = .ok (.iinc 6 1, 3) := by decide +kernel
theorem dL_law_568 : decode cL_law 568 = .ok (.goto (-115), 3) := by decide +kernel
theorem dL_law_571 : decode cL_law 571 = .ok (.iload_n 2, 1) := by decide +kernel
theorem dL_law_572 : decode cL_law 572 = .ok (.ifCond .eq 61, 3) := by decide +kernel
theorem dL_law_575 : decode cL_law 575 = .ok (.aload_n 1, 1) := by decide +kernel
theorem dL_law_576 : decode cL_law 576 = .ok (.aload 5, 2) := by decide +kernel
theorem dL_law_578 : decode cL_law 578 = .ok (.invokestatic 155, 3) := by decide +kernel
theorem dL_law_581 : decode cL_law 581 = .ok (.ifCond .eq 52, 3) := by decide +kernel
theorem dL_law_584 : decode cL_law 584 = .ok (.aload_n 1, 1) := by decide +kernel
theorem dL_law_585 : decode cL_law 585 = .ok (.bipush 11, 2) := by decide +kernel
theorem dL_law_587 : decode cL_law 587 = .ok (.iconst 0, 1) := by decide +kernel
theorem dL_law_588 : decode cL_law 588 = .ok (.iconst 0, 1) := by decide +kernel
theorem dL_law_589 : decode cL_law 589 = .ok (.iconst 0, 1) := by decide +kernel
theorem dL_law_590 : decode cL_law 590 = .ok (.iconst 0, 1) := by decide +kernel
theorem dL_law_591 : decode cL_law 591 = .ok (.invokestatic 152, 3) := by decide +kernel
theorem dL_law_594 : decode cL_law 594 = .ok (.aload_n 1, 1) := by decide +kernel
theorem dL_law_595 : decode cL_law 595 = .ok (.invokevirtual 169, 3) := by decide +kernel
theorem dL_law_598 : decode cL_law 598 = .ok (.if_icmp .ne 35, 3) := by decide +kernel
theorem dL_law_601 : decode cL_law 601 = .ok (.aload_n 1, 1) := by decide +kernel
theorem dL_law_602 : decode cL_law 602 = .ok (.aload 5, 2) := by decide +kernel
theorem dL_law_604 : decode cL_law 604 = .ok (.invokestatic 214, 3) := by decide +kernel
theorem dL_law_607 : decode cL_law 607 = .ok (.ifCond .eq 26, 3) := by decide +kernel
theorem dL_law_610 : decode cL_law 610 = .ok (.aload_n 1, 1) := by decide +kernel
theorem dL_law_611 : decode cL_law 611 = .ok (.aload 5, 2) := by decide +kernel
theorem dL_law_613 : decode cL_law 613 = .ok (.iconst 1, 1) := by decide +kernel
theorem dL_law_614 : decode cL_law 614 = .ok (.aload_n 0, 1) := by decide +kernel
theorem dL_law_615 : decode cL_law 615 = .ok (.bipush 80, 2) := by decide +kernel
theorem dL_law_617 : decode cL_law 617 = .ok (.bipush 100, 2) := by decide +kernel
theorem dL_law_619 : decode cL_law 619 = .ok (.invokestatic 140, 3) := by decide +kernel
theorem dL_law_622 : decode cL_law 622 = .ok (.iadd, 1) := by decide +kernel
theorem dL_law_623 : decode cL_law 623 = .ok (.invokestatic 217, 3) := by decide +kernel
theorem dL_law_626 : decode cL_law 626 = .ok (.ifCond .eq 7, 3) := by decide +kernel
theorem dL_law_629 : decode cL_law 629 = .ok (.iconst 1, 1) := by decide +kernel
theorem dL_law_630 : decode cL_law 630 = .ok (.goto 4, 3) := by decide +kernel
theorem dL_law_633 : decode cL_law 633 = .ok (.iconst 0, 1) := by decide +kernel
theorem dL_law_634 : decode cL_law 634 = .ok (.istore_n 2, 1) := by decide +kernel
theorem dL_law_635 : decode cL_law 635 = .ok (.iload_n 2, 1) := by decide +kernel
theorem dL_law_636 : decode cL_law 636 = .ok (.ifCond .eq 53, 3) := by decide +kernel
theorem dL_law_639 : decode cL_law 639 = .ok (.aload_n 1, 1) := by decide +kernel
theorem dL_law_640 : decode cL_law 640 = .ok (.aload 5, 2) := by decide +kernel
theorem dL_law_642 : decode cL_law 642 = .ok (.aload_n 0, 1) := by decide +kernel
theorem dL_law_643 : decode cL_law 643 = .ok (.bipush 81, 2) := by decide +kernel
theorem dL_law_645 : decode cL_law 645 = .ok (.aload_n 1, 1) := by decide +kernel
theorem dL_law_646 : decode cL_law 646 = .ok (.invokevirtual 169, 3) := by decide +kernel
theorem dL_law_649 : decode cL_law 649 = .ok (.invokestatic 140, 3) := by decide +kernel
theorem dL_law_652 : decode cL_law 652 = .ok (.aload_n 0, 1) := by decide +kernel
theorem dL_law_653 : decode cL_law 653 = .ok (.sipush 2500, 3) := by decide +kernel
theorem dL_law_656 : decode cL_law 656 = .ok (.iconst 5, 1) := by decide +kernel
theorem dL_law_657 : decode cL_law 657 = .ok (.invokestatic 202, 3) := by decide +kernel
theorem dL_law_660 : decode cL_law 660 = .ok (.invokestatic 221, 3) := by decide +kernel
theorem dL_law_663 : decode cL_law 663 = .ok (.ifCond .eq 26, 3) := by decide +kernel
theorem dL_law_666 : decode cL_law 666 = .ok (.aload_n 1, 1) := by decide +kernel
theorem dL_law_667 : decode cL_law 667 = .ok (.aload 5, 2) := by decide +kernel
theorem dL_law_669 : decode cL_law 669 = .ok (.iconst 1, 1) := by decide +kernel
theorem dL_law_670 : decode cL_law 670 = .ok (.aload_n 0, 1) := by decide +kernel
theorem dL_law_671 : decode cL_law 671 = .ok (.bipush 82, 2) := by decide +kernel
theorem dL_law_673 : decode cL_law 673 = .ok (.bipush 100, 2) := by decide +kernel
theorem dL_law_675 : decode cL_law 675 = .ok (.invokestatic 140, 3) := by decide +kernel
theorem dL_law_678 : decode cL_law 678 = .ok (.iadd, 1) := by decide +kernel
theorem dL_law_679 : decode cL_law 679 = .ok (.invokestatic 217, 3) := by decide +kernel
theorem dL_law_682 : decode cL_law 682 = .ok (.ifCond .eq 7, 3) := by decide +kernel
theorem dL_law_685 : decode cL_law 685 = .ok (.iconst 1, 1) := by decide +kernel
theorem dL_law_686 : decode cL_law 686 = .ok (.goto 4, 3) := by decide +kernel
theorem dL_law_689 : decode cL_law 689 = .ok (.iconst 0, 1) := by decide +kernel
theorem dL_law_690 : decode cL_law 690 = .ok (.istore_n 2, 1) := by decide +kernel
theorem dL_law_691 : decode cL_law 691 = .ok (.iload_n 2, 1) := by decide +kernel
theorem dL_law_692 : decode cL_law 692 = .ok (.ifCond .eq 41, 3) := by decide +kernel
theorem dL_law_695 : decode cL_law 695 = .ok (.aload_n 1, 1) := by decide +kernel
theorem dL_law_696 : decode cL_law 696 = .ok (.aload 5, 2) := by decide +kernel
theorem dL_law_698 : decode cL_law 698 = .ok (.aload_n 0, 1) := by decide +kernel
theorem dL_law_699 : decode cL_law 699 = .ok (.bipush 83, 2) := by decide +kernel
theorem dL_law_701 : decode cL_law 701 = .ok (.aload_n 1, 1) := by decide +kernel
theorem dL_law_702 : decode cL_law 702 = .ok (.invokevirtual 169, 3) := by decide +kernel
theorem dL_law_705 : decode cL_law 705 = .ok (.invokestatic 140, 3) := by decide +kernel
theorem dL_law_708 : decode cL_law 708 = .ok (.aload_n 0, 1) := by decide +kernel
theorem dL_law_709 : decode cL_law 709 = .ok (.sipush 2600, 3) := by decide +kernel
theorem dL_law_712 : decode cL_law 712 = .ok (.iconst 5, 1) := by decide +kernel
theorem dL_law_713 : decode cL_law 713 = .ok (.invokestatic 202, 3) := by decide +kernel
theorem dL_law_716 : decode cL_law 716 = .ok (.invokestatic 221, 3) := by decide +kernel
theorem dL_law_719 : decode cL_law 719 = .ok (.ifCond .eq 14, 3) := by decide +kernel
theorem dL_law_722 : decode cL_law 722 = .ok (.aload_n 1, 1) := by decide +kernel
theorem dL_law_723 : decode cL_law 723 = .ok (.invokevirtual 225, 3) := by decide +kernel
theorem dL_law_726 : decode cL_law 726 = .ok (.ifCond .eq 7, 3) := by decide +kernel
theorem dL_law_729 : decode cL_law 729 = .ok (.iconst 1, 1) := by decide +kernel
theorem dL_law_730 : decode cL_law 730 = .ok (.goto 4, 3) := by decide +kernel
theorem dL_law_733 : decode cL_law 733 = .ok (.iconst 0, 1) := by decide +kernel
theorem dL_law_734 : decode cL_law 734 = .ok (.ireturn, 1) := by decide +kernel
