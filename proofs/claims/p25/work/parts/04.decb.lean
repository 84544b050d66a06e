theorem dL_cell_0 : decode cL_cell 0 = .ok (.iload_n 1, 1) := by decide +kernel
theorem dL_cell_1 : decode cL_cell 1 = .ok (.aload_n 0, 1) := by decide +kernel
theorem dL_cell_2 : decode cL_cell 2 = .ok (.arraylength, 1) := by decide +kernel
theorem dL_cell_3 : decode cL_cell 3 = .ok (.if_icmp .ge 9, 3) := by decide +kernel
theorem dL_cell_6 : decode cL_cell 6 = .ok (.aload_n 0, 1) := by decide +kernel
theorem dL_cell_7 : decode cL_cell 7 = .ok (.iload_n 1, 1) := by decide +kernel
theorem dL_cell_8 : decode cL_cell 8 = .ok (.iaload, 1) := by decide +kernel
theorem dL_cell_9 : decode cL_cell 9 = .ok (.goto 12, 3) := by decide +kernel
theorem dL_cell_12 : decode cL_cell 12 = .ok (.ldc 7, 2) := by decide +kernel
theorem dL_cell_14 : decode cL_cell 14 = .ok (.iload_n 1, 1) := by decide +kernel
theorem dL_cell_15 : decode cL_cell 15 = .ok (.iconst 1, 1) := by decide +kernel
theorem dL_cell_16 : decode cL_cell 16 = .ok (.iadd, 1) := by decide +kernel
theorem dL_cell_17 : decode cL_cell 17 = .ok (.imul, 1) := by decide +kernel
theorem dL_cell_18 : decode cL_cell 18 = .ok (.ldc 8, 2) := by decide +kernel
theorem dL_cell_20 : decode cL_cell 20 = .ok (.iadd, 1) := by decide +kernel
theorem dL_cell_21 : decode cL_cell 21 = .ok (.ireturn, 1) := by decide +kernel
theorem dL_low_0 : decode cL_low 0 = .ok (.iload_n 0, 1) := by decide +kernel
theorem dL_low_1 : decode cL_low 1 = .ok (.ldc 9, 2) := by decide +kernel
theorem dL_low_3 : decode cL_low 3 = .ok (.iand, 1) := by decide +kernel
theorem dL_low_4 : decode cL_low 4 = .ok (.iload_n 1, 1) := by decide +kernel
theorem dL_low_5 : decode cL_low 5 = .ok (.irem, 1) := by decide +kernel
theorem dL_low_6 : decode cL_low 6 = .ok (.ireturn, 1) := by decide +kernel
theorem dL_shared_0 : decode cL_shared 0 = .ok (.iconst 0, 1) := by decide +kernel
theorem dL_shared_1 : decode cL_shared 1 = .ok (.istore 9, 2) := by decide +kernel
theorem dL_shared_3 : decode cL_shared 3 = .ok (.bipush 8, 2) := by decide +kernel
theorem dL_shared_5 : decode cL_shared 5 = .ok (.iload 8, 2) := by decide +kernel
theorem dL_shared_7 : decode cL_shared 7 = .ok (.imul, 1) := by decide +kernel
theorem dL_shared_8 : decode cL_shared 8 = .ok (.istore 10, 2) := by decide +kernel
theorem dL_shared_10 : decode cL_shared 10 = .ok (.iload 10, 2) := by decide +kernel
theorem dL_shared_12 : decode cL_shared 12 = .ok (.bipush 8, 2) := by decide +kernel
theorem dL_shared_14 : decode cL_shared 14 = .ok (.iload 8, 2) := by decide +kernel
theorem dL_shared_16 : decode cL_shared 16 = .ok (.imul, 1) := by decide +kernel
theorem dL_shared_17 : decode cL_shared 17 = .ok (.bipush 8, 2) := by decide +kernel
theorem dL_shared_19 : decode cL_shared 19 = .ok (.iadd, 1) := by decide +kernel
theorem dL_shared_20 : decode cL_shared 20 = .ok (.if_icmp .ge 135, 3) := by decide +kernel
theorem dL_shared_23 : decode cL_shared 23 = .ok (.iload 10, 2) := by decide +kernel
theorem dL_shared_25 : decode cL_shared 25 = .ok (.bipush 10, 2) := by decide +kernel
theorem dL_shared_27 : decode cL_shared 27 = .ok (.if_icmp .ge 128, 3) := by decide +kernel
theorem dL_shared_30 : decode cL_shared 30 = .ok (.bipush 10, 2) := by decide +kernel
theorem dL_shared_32 : decode cL_shared 32 = .ok (.iload 6, 2) := by decide +kernel
theorem dL_shared_34 : decode cL_shared 34 = .ok (.imul, 1) := by decide +kernel
theorem dL_shared_35 : decode cL_shared 35 = .ok (.iload 10, 2) := by decide +kernel
theorem dL_shared_37 : decode cL_shared 37 = .ok (.iadd, 1) := by decide +kernel
theorem dL_shared_38 : decode cL_shared 38 = .ok (.istore 11, 2) := by decide +kernel
theorem dL_shared_40 : decode cL_shared 40 = .ok (.bipush 10, 2) := by decide +kernel
theorem dL_shared_42 : decode cL_shared 42 = .ok (.iload 7, 2) := by decide +kernel
theorem dL_shared_44 : decode cL_shared 44 = .ok (.imul, 1) := by decide +kernel
theorem dL_shared_45 : decode cL_shared 45 = .ok (.iload 10, 2) := by decide +kernel
theorem dL_shared_47 : decode cL_shared 47 = .ok (.iadd, 1) := by decide +kernel
theorem dL_shared_48 : decode cL_shared 48 = .ok (.istore 12, 2) := by decide +kernel
theorem dL_shared_50 : decode cL_shared 50 = .ok (.aload_n 3, 1) := by decide +kernel
theorem dL_shared_51 : decode cL_shared 51 = .ok (.iload 11, 2) := by decide +kernel
theorem dL_shared_53 : decode cL_shared 53 = .ok (.iaload, 1) := by decide +kernel
theorem dL_shared_54 : decode cL_shared 54 = .ok (.bipush (-2), 2) := by decide +kernel
theorem dL_shared_56 : decode cL_shared 56 = .ok (.if_icmp .le 64, 3) := by decide +kernel
theorem dL_shared_59 : decode cL_shared 59 = .ok (.aload_n 3, 1) := by decide +kernel
theorem dL_shared_60 : decode cL_shared 60 = .ok (.iload 12, 2) := by decide +kernel
theorem dL_shared_62 : decode cL_shared 62 = .ok (.iaload, 1) := by decide +kernel
theorem dL_shared_63 : decode cL_shared 63 = .ok (.bipush (-2), 2) := by decide +kernel
theorem dL_shared_65 : decode cL_shared 65 = .ok (.if_icmp .le 55, 3) := by decide +kernel
theorem dL_shared_68 : decode cL_shared 68 = .ok (.aload_n 0, 1) := by decide +kernel
theorem dL_shared_69 : decode cL_shared 69 = .ok (.iload 11, 2) := by decide +kernel
theorem dL_shared_71 : decode cL_shared 71 = .ok (.iaload, 1) := by decide +kernel
theorem dL_shared_72 : decode cL_shared 72 = .ok (.aload_n 0, 1) := by decide +kernel
theorem dL_shared_73 : decode cL_shared 73 = .ok (.iload 12, 2) := by decide +kernel
theorem dL_shared_75 : decode cL_shared 75 = .ok (.iaload, 1) := by decide +kernel
theorem dL_shared_76 : decode cL_shared 76 = .ok (.if_icmp .ne 44, 3) := by decide +kernel
theorem dL_shared_79 : decode cL_shared 79 = .ok (.aload_n 1, 1) := by decide +kernel
theorem dL_shared_80 : decode cL_shared 80 = .ok (.iload 11, 2) := by decide +kernel
theorem dL_shared_82 : decode cL_shared 82 = .ok (.iaload, 1) := by decide +kernel
theorem dL_shared_83 : decode cL_shared 83 = .ok (.aload_n 1, 1) := by decide +kernel
theorem dL_shared_84 : decode cL_shared 84 = .ok (.iload 12, 2) := by decide +kernel
theorem dL_shared_86 : decode cL_shared 86 = .ok (.iaload, 1) := by decide +kernel
theorem dL_shared_87 : decode cL_shared 87 = .ok (.if_icmp .ne 33, 3) := by decide +kernel
theorem dL_shared_90 : decode cL_shared 90 = .ok (.aload_n 0, 1) := by decide +kernel
theorem dL_shared_91 : decode cL_shared 91 = .ok (.iload 11, 2) := by decide +kernel
theorem dL_shared_93 : decode cL_shared 93 = .ok (.iaload, 1) := by decide +kernel
theorem dL_shared_94 : decode cL_shared 94 = .ok (.aload 4, 2) := by decide +kernel
theorem dL_shared_96 : decode cL_shared 96 = .ok (.iload 10, 2) := by decide +kernel
theorem dL_shared_98 : decode cL_shared 98 = .ok (.iaload, 1) := by decide +kernel
theorem dL_shared_99 : decode cL_shared 99 = .ok (.if_icmp .ne 18, 3) := by decide +kernel
theorem dL_shared_102 : decode cL_shared 102 = .ok (.aload_n 1, 1) := by decide +kernel
theorem dL_shared_103 : decode cL_shared 103 = .ok (.iload 11, 2) := by decide +kernel
theorem dL_shared_105 : decode cL_shared 105 = .ok (.iaload, 1) := by decide +kernel
theorem dL_shared_106 : decode cL_shared 106 = .ok (.aload 4, 2) := by decide +kernel
theorem dL_shared_108 : decode cL_shared 108 = .ok (.bipush 10, 2) := by decide +kernel
theorem dL_shared_110 : decode cL_shared 110 = .ok (.iload 10, 2) := by decide +kernel
theorem dL_shared_112 : decode cL_shared 112 = .ok (.iadd, 1) := by decide +kernel
theorem dL_shared_113 : decode cL_shared 113 = .ok (.iaload, 1) := by decide +kernel
theorem dL_shared_114 : decode cL_shared 114 = .ok (.if_icmp .eq 6, 3) := by decide +kernel
theorem dL_shared_117 : decode cL_shared 117 = .ok (.iinc 9 1, 3) := by decide +kernel
theorem dL_shared_120 : decode cL_shared 120 = .ok (.aload_n 2, 1) := by decide +kernel
theorem dL_shared_121 : decode cL_shared 121 = .ok (.iload 11, 2) := by decide +kernel
theorem dL_shared_123 : decode cL_shared 123 = .ok (.iaload, 1) := by decide +kernel
theorem dL_shared_124 : decode cL_shared 124 = .ok (.aload_n 2, 1) := by decide +kernel
theorem dL_shared_125 : decode cL_shared 125 = .ok (.iload 12, 2) := by decide +kernel
theorem dL_shared_127 : decode cL_shared 127 = .ok (.iaload, 1) := by decide +kernel
theorem dL_shared_128 : decode cL_shared 128 = .ok (.if_icmp .ne 21, 3) := by decide +kernel
theorem dL_shared_131 : decode cL_shared 131 = .ok (.aload_n 2, 1) := by decide +kernel
theorem dL_shared_132 : decode cL_shared 132 = .ok (.iload 11, 2) := by decide +kernel
theorem dL_shared_134 : decode cL_shared 134 = .ok (.iaload, 1) := by decide +kernel
theorem dL_shared_135 : decode cL_shared 135 = .ok (.aload 4, 2) := by decide +kernel
theorem dL_shared_137 : decode cL_shared 137 = .ok (.bipush 20, 2) := by decide +kernel
theorem dL_shared_139 : decode cL_shared 139 = .ok (.iload 10, 2) := by decide +kernel
theorem dL_shared_141 : decode cL_shared 141 = .ok (.iadd, 1) := by decide +kernel
theorem dL_shared_142 : decode cL_shared 142 = .ok (.iaload, 1) := by decide +kernel
theorem dL_shared_143 : decode cL_shared 143 = .ok (.if_icmp .eq 6, 3) := by decide +kernel
theorem dL_shared_146 : decode cL_shared 146 = .ok (.iinc 9 1, 3) := by decide +kernel
theorem dL_shared_149 : decode cL_shared 149 = .ok (.iinc 10 1, 3) := by decide +kernel
theorem dL_shared_152 : decode cL_shared 152 = .ok (.goto (-142), 3) := by decide +kernel
theorem dL_shared_155 : decode cL_shared 155 = .ok (.iconst 0, 1) := by decide +kernel
theorem dL_shared_156 : decode cL_shared 156 = .ok (.istore 10, 2) := by decide +kernel
theorem dL_shared_158 : decode cL_shared 158 = .ok (.iload 10, 2) := by decide +kernel
theorem dL_shared_160 : decode cL_shared 160 = .ok (.iconst 4, 1) := by decide +kernel
theorem dL_shared_161 : decode cL_shared 161 = .ok (.if_icmp .ge 40, 3) := by decide +kernel
theorem dL_shared_164 : decode cL_shared 164 = .ok (.aload 5, 2) := by decide +kernel
theorem dL_shared_166 : decode cL_shared 166 = .ok (.iload 10, 2) := by decide +kernel
theorem dL_shared_168 : decode cL_shared 168 = .ok (.iaload, 1) := by decide +kernel
theorem dL_shared_169 : decode cL_shared 169 = .ok (.iload 6, 2) := by decide +kernel
theorem dL_shared_171 : decode cL_shared 171 = .ok (.ishr, 1) := by decide +kernel
theorem dL_shared_172 : decode cL_shared 172 = .ok (.iconst 1, 1) := by decide +kernel
theorem dL_shared_173 : decode cL_shared 173 = .ok (.iand, 1) := by decide +kernel
theorem dL_shared_174 : decode cL_shared 174 = .ok (.iconst 1, 1) := by decide +kernel
theorem dL_shared_175 : decode cL_shared 175 = .ok (.if_icmp .ne 20, 3) := by decide +kernel
theorem dL_shared_178 : decode cL_shared 178 = .ok (.aload 5, 2) := by decide +kernel
theorem dL_shared_180 : decode cL_shared 180 = .ok (.iload 10, 2) := by decide +kernel
theorem dL_shared_182 : decode cL_shared 182 = .ok (.iaload, 1) := by decide +kernel
theorem dL_shared_183 : decode cL_shared 183 = .ok (.iload 7, 2) := by decide +kernel
theorem dL_shared_185 : decode cL_shared 185 = .ok (.ishr, 1) := by decide +kernel
theorem dL_shared_186 : decode cL_shared 186 = .ok (.iconst 1, 1) := by decide +kernel
theorem dL_shared_187 : decode cL_shared 187 = .ok (.iand, 1) := by decide +kernel
theorem dL_shared_188 : decode cL_shared 188 = .ok (.iconst 1, 1) := by decide +kernel
theorem dL_shared_189 : decode cL_shared 189 = .ok (.if_icmp .ne 6, 3) := by decide +kernel
theorem dL_shared_192 : decode cL_shared 192 = .ok (.iinc 9 1, 3) := by decide +kernel
theorem dL_shared_195 : decode cL_shared 195 = .ok (.iinc 10 1, 3) := by decide +kernel
theorem dL_shared_198 : decode cL_shared 198 = .ok (.goto (-40), 3) := by decide +kernel
theorem dL_shared_201 : decode cL_shared 201 = .ok (.iload 9, 2) := by decide +kernel
theorem dL_shared_203 : decode cL_shared 203 = .ok (.ireturn, 1) := by decide +kernel
theorem dL_size_0 : decode cL_size 0 = .ok (.iload_n 0, 1) := by decide +kernel
theorem dL_size_1 : decode cL_size 1 = .ok (.ifCond .ge 8, 3) := by decide +kernel
theorem dL_size_4 : decode cL_size 4 = .ok (.iload_n 0, 1) := by decide +kernel
theorem dL_size_5 : decode cL_size 5 = .ok (.ineg, 1) := by decide +kernel
theorem dL_size_6 : decode cL_size 6 = .ok (.goto 4, 3) := by decide +kernel
theorem dL_size_9 : decode cL_size 9 = .ok (.iload_n 0, 1) := by decide +kernel
theorem dL_size_10 : decode cL_size 10 = .ok (.ireturn, 1) := by decide +kernel
theorem dL_pasted_0 : decode cL_pasted 0 = .ok (.aload_n 0, 1) := by decide +kernel
theorem dL_pasted_1 : decode cL_pasted 1 = .ok (.iload_n 1, 1) := by decide +kernel
theorem dL_pasted_2 : decode cL_pasted 2 = .ok (.iload_n 2, 1) := by decide +kernel
theorem dL_pasted_3 : decode cL_pasted 3 = .ok (.iload_n 3, 1) := by decide +kernel
theorem dL_pasted_4 : decode cL_pasted 4 = .ok (.iload 4, 2) := by decide +kernel
theorem dL_pasted_6 : decode cL_pasted 6 = .ok (.invokevirtual 10, 3) := by decide +kernel
theorem dL_pasted_9 : decode cL_pasted 9 = .ok (.ireturn, 1) := by decide +kernel
theorem dL_pasted_10 : decode cL_pasted 10 = .ok (.astore 5, 2) := by decide +kernel
theorem dL_pasted_12 : decode cL_pasted 12 = .ok (.iconst (-1), 1) := by decide +kernel
theorem dL_pasted_13 : decode cL_pasted 13 = .ok (.ireturn, 1) := by decide +kernel
theorem dL_shrunk_0 : decode cL_shrunk 0 = .ok (.aload_n 0, 1) := by decide +kernel
theorem dL_shrunk_1 : decode cL_shrunk 1 = .ok (.iload_n 1, 1) := by decide +kernel
theorem dL_shrunk_2 : decode cL_shrunk 2 = .ok (.iconst 0, 1) := by decide +kernel
theorem dL_shrunk_3 : decode cL_shrunk 3 = .ok (.iload_n 2, 1) := by decide +kernel
theorem dL_shrunk_4 : decode cL_shrunk 4 = .ok (.iconst 0, 1) := by decide +kernel
theorem dL_shrunk_5 : decode cL_shrunk 5 = .ok (.invokevirtual 18, 3) := by decide +kernel
theorem dL_shrunk_8 : decode cL_shrunk 8 = .ok (.ireturn, 1) := by decide +kernel
theorem dL_shrunk_9 : decode cL_shrunk 9 = .ok (.astore_n 3, 1) := by decide +kernel
theorem dL_shrunk_10 : decode cL_shrunk 10 = .ok (.iconst (-1), 1) := by decide +kernel
theorem dL_shrunk_11 : decode cL_shrunk 11 = .ok (.ireturn, 1) := by decide +kernel
theorem dL_right_0 : decode cL_right 0 = .ok (.iconst 0, 1) := by decide +kernel
theorem dL_right_1 : decode cL_right 1 = .ok (.istore 8, 2) := by decide +kernel
theorem dL_right_3 : decode cL_right 3 = .ok (.iload 8, 2) := by decide +kernel
theorem dL_right_5 : decode cL_right 5 = .ok (.iload 7, 2) := by decide +kernel
theorem dL_right_7 : decode cL_right 7 = .ok (.if_icmp .ge 714, 3) := by decide +kernel
theorem dL_right_10 : decode cL_right 10 = .ok (.iconst 0, 1) := by decide +kernel
theorem dL_right_11 : decode cL_right 11 = .ok (.istore 9, 2) := by decide +kernel
theorem dL_right_13 : decode cL_right 13 = .ok (.iconst 0, 1) := by decide +kernel
theorem dL_right_14 : decode cL_right 14 = .ok (.istore 10, 2) := by decide +kernel
theorem dL_right_16 : decode cL_right 16 = .ok (.iload 10, 2) := by decide +kernel
theorem dL_right_18 : decode cL_right 18 = .ok (.bipush 10, 2) := by decide +kernel
theorem dL_right_20 : decode cL_right 20 = .ok (.if_icmp .ge 288, 3) := by decide +kernel
theorem dL_right_23 : decode cL_right 23 = .ok (.bipush 10, 2) := by decide +kernel
theorem dL_right_25 : decode cL_right 25 = .ok (.iload 8, 2) := by decide +kernel
theorem dL_right_27 : decode cL_right 27 = .ok (.imul, 1) := by decide +kernel
theorem dL_right_28 : decode cL_right 28 = .ok (.iload 10, 2) := by decide +kernel
theorem dL_right_30 : decode cL_right 30 = .ok (.iadd, 1) := by decide +kernel
theorem dL_right_31 : decode cL_right 31 = .ok (.istore 11, 2) := by decide +kernel
theorem dL_right_33 : decode cL_right 33 = .ok (.aload 4, 2) := by decide +kernel
theorem dL_right_35 : decode cL_right 35 = .ok (.iload 11, 2) := by decide +kernel
theorem dL_right_37 : decode cL_right 37 = .ok (.iaload, 1) := by decide +kernel
theorem dL_right_38 : decode cL_right 38 = .ok (.bipush (-2), 2) := by decide +kernel
theorem dL_right_40 : decode cL_right 40 = .ok (.if_icmp .le 7, 3) := by decide +kernel
theorem dL_right_43 : decode cL_right 43 = .ok (.iconst 1, 1) := by decide +kernel
theorem dL_right_44 : decode cL_right 44 = .ok (.goto 4, 3) := by decide +kernel
theorem dL_right_47 : decode cL_right 47 = .ok (.iconst 0, 1) := by decide +kernel
theorem dL_right_48 : decode cL_right 48 = .ok (.istore 12, 2) := by decide +kernel
theorem dL_right_50 : decode cL_right 50 = .ok (.aload_n 0, 1) := by decide +kernel
theorem dL_right_51 : decode cL_right 51 = .ok (.iload 8, 2) := by decide +kernel
theorem dL_right_53 : decode cL_right 53 = .ok (.iload 10, 2) := by decide +kernel
theorem dL_right_55 : decode cL_right 55 = .ok (.iconst 0, 1) := by decide +kernel
theorem dL_right_56 : decode cL_right 56 = .ok (.invokevirtual 22, 3) := by decide +kernel
theorem dL_right_59 : decode cL_right 59 = .ok (.iload 12, 2) := by decide +kernel
theorem dL_right_61 : decode cL_right 61 = .ok (.ifCond .eq 10, 3) := by decide +kernel
theorem dL_right_64 : decode cL_right 64 = .ok (.aload_n 1, 1) := by decide +kernel
theorem dL_right_65 : decode cL_right 65 = .ok (.iload 11, 2) := by decide +kernel
theorem dL_right_67 : decode cL_right 67 = .ok (.iaload, 1) := by decide +kernel
theorem dL_right_68 : decode cL_right 68 = .ok (.goto 5, 3) := by decide +kernel
theorem dL_right_71 : decode cL_right 71 = .ok (.ldc 26, 2) := by decide +kernel
theorem dL_right_73 : decode cL_right 73 = .ok (.if_icmp .ne 138, 3) := by decide +kernel
theorem dL_right_76 : decode cL_right 76 = .ok (.aload_n 0, 1) := by decide +kernel
theorem dL_right_77 : decode cL_right 77 = .ok (.iload 8, 2) := by decide +kernel
theorem dL_right_79 : decode cL_right 79 = .ok (.iload 10, 2) := by decide +kernel
theorem dL_right_81 : decode cL_right 81 = .ok (.iconst 1, 1) := by decide +kernel
theorem dL_right_82 : decode cL_right 82 = .ok (.invokevirtual 22, 3) := by decide +kernel
theorem dL_right_85 : decode cL_right 85 = .ok (.iload 12, 2) := by decide +kernel
theorem dL_right_87 : decode cL_right 87 = .ok (.ifCond .eq 10, 3) := by decide +kernel
theorem dL_right_90 : decode cL_right 90 = .ok (.aload_n 2, 1) := by decide +kernel
theorem dL_right_91 : decode cL_right 91 = .ok (.iload 11, 2) := by decide +kernel
theorem dL_right_93 : decode cL_right 93 = .ok (.iaload, 1) := by decide +kernel
theorem dL_right_94 : decode cL_right 94 = .ok (.goto 5, 3) := by decide +kernel
theorem dL_right_97 : decode cL_right 97 = .ok (.ldc 26, 2) := by decide +kernel
theorem dL_right_99 : decode cL_right 99 = .ok (.if_icmp .ne 112, 3) := by decide +kernel
theorem dL_right_102 : decode cL_right 102 = .ok (.aload_n 0, 1) := by decide +kernel
theorem dL_right_103 : decode cL_right 103 = .ok (.iload 8, 2) := by decide +kernel
theorem dL_right_105 : decode cL_right 105 = .ok (.iload 10, 2) := by decide +kernel
theorem dL_right_107 : decode cL_right 107 = .ok (.iconst 2, 1) := by decide +kernel
theorem dL_right_108 : decode cL_right 108 = .ok (.invokevirtual 22, 3) := by decide +kernel
theorem dL_right_111 : decode cL_right 111 = .ok (.aload_n 3, 1) := by decide +kernel
theorem dL_right_112 : decode cL_right 112 = .ok (.iload 11, 2) := by decide +kernel
theorem dL_right_114 : decode cL_right 114 = .ok (.iaload, 1) := by decide +kernel
theorem dL_right_115 : decode cL_right 115 = .ok (.if_icmp .ne 96, 3) := by decide +kernel
theorem dL_right_118 : decode cL_right 118 = .ok (.aload_n 0, 1) := by decide +kernel
theorem dL_right_119 : decode cL_right 119 = .ok (.iload 8, 2) := by decide +kernel
theorem dL_right_121 : decode cL_right 121 = .ok (.iload 10, 2) := by decide +kernel
theorem dL_right_123 : decode cL_right 123 = .ok (.iconst 3, 1) := by decide +kernel
theorem dL_right_124 : decode cL_right 124 = .ok (.invokevirtual 22, 3) := by decide +kernel
theorem dL_right_127 : decode cL_right 127 = .ok (.iload 12, 2) := by decide +kernel
theorem dL_right_129 : decode cL_right 129 = .ok (.ifCond .eq 11, 3) := by decide +kernel
theorem dL_right_132 : decode cL_right 132 = .ok (.aload 4, 2) := by decide +kernel
theorem dL_right_134 : decode cL_right 134 = .ok (.iload 11, 2) := by decide +kernel
theorem dL_right_136 : decode cL_right 136 = .ok (.iaload, 1) := by decide +kernel
theorem dL_right_137 : decode cL_right 137 = .ok (.goto 4, 3) := by decide +kernel
theorem dL_right_140 : decode cL_right 140 = .ok (.iconst (-1), 1) := by decide +kernel
theorem dL_right_141 : decode cL_right 141 = .ok (.if_icmp .ne 70, 3) := by decide +kernel
theorem dL_right_144 : decode cL_right 144 = .ok (.aload_n 0, 1) := by decide +kernel
theorem dL_right_145 : decode cL_right 145 = .ok (.iload 8, 2) := by decide +kernel
theorem dL_right_147 : decode cL_right 147 = .ok (.iload 10, 2) := by decide +kernel
theorem dL_right_149 : decode cL_right 149 = .ok (.iconst 4, 1) := by decide +kernel
theorem dL_right_150 : decode cL_right 150 = .ok (.invokevirtual 22, 3) := by decide +kernel
theorem dL_right_153 : decode cL_right 153 = .ok (.iload 12, 2) := by decide +kernel
theorem dL_right_155 : decode cL_right 155 = .ok (.ifCond .eq 16, 3) := by decide +kernel
theorem dL_right_158 : decode cL_right 158 = .ok (.aload_n 1, 1) := by decide +kernel
theorem dL_right_159 : decode cL_right 159 = .ok (.iload 11, 2) := by decide +kernel
theorem dL_right_161 : decode cL_right 161 = .ok (.iaload, 1) := by decide +kernel
theorem dL_right_162 : decode cL_right 162 = .ok (.aload 5, 2) := by decide +kernel
theorem dL_right_164 : decode cL_right 164 = .ok (.iload 10, 2) := by decide +kernel
theorem dL_right_166 : decode cL_right 166 = .ok (.iaload, 1) := by decide +kernel
theorem dL_right_167 : decode cL_right 167 = .ok (.isub, 1) := by decide +kernel
theorem dL_right_168 : decode cL_right 168 = .ok (.goto 5, 3) := by decide +kernel
theorem dL_right_171 : decode cL_right 171 = .ok (.ldc 26, 2) := by decide +kernel
theorem dL_right_173 : decode cL_right 173 = .ok (.if_icmp .ne 38, 3) := by decide +kernel
theorem dL_right_176 : decode cL_right 176 = .ok (.aload_n 0, 1) := by decide +kernel
theorem dL_right_177 : decode cL_right 177 = .ok (.iload 8, 2) := by decide +kernel
theorem dL_right_179 : decode cL_right 179 = .ok (.iload 10, 2) := by decide +kernel
theorem dL_right_181 : decode cL_right 181 = .ok (.iconst 5, 1) := by decide +kernel
theorem dL_right_182 : decode cL_right 182 = .ok (.invokevirtual 22, 3) := by decide +kernel
theorem dL_right_185 : decode cL_right 185 = .ok (.iload 12, 2) := by decide +kernel
theorem dL_right_187 : decode cL_right 187 = .ok (.ifCond .eq 19, 3) := by decide +kernel
theorem dL_right_190 : decode cL_right 190 = .ok (.aload_n 2, 1) := by decide +kernel
theorem dL_right_191 : decode cL_right 191 = .ok (.iload 11, 2) := by decide +kernel
theorem dL_right_193 : decode cL_right 193 = .ok (.iaload, 1) := by decide +kernel
theorem dL_right_194 : decode cL_right 194 = .ok (.aload 5, 2) := by decide +kernel
theorem dL_right_196 : decode cL_right 196 = .ok (.bipush 10, 2) := by decide +kernel
theorem dL_right_198 : decode cL_right 198 = .ok (.iload 10, 2) := by decide +kernel
theorem dL_right_200 : decode cL_right 200 = .ok (.iadd, 1) := by decide +kernel
theorem dL_right_201 : decode cL_right 201 = .ok (.iaload, 1) := by decide +kernel
theorem dL_right_202 : decode cL_right 202 = .ok (.isub, 1) := by decide +kernel
theorem dL_right_203 : decode cL_right 203 = .ok (.goto 5, 3) := by decide +kernel
theorem dL_right_206 : decode cL_right 206 = .ok (.ldc 26, 2) := by decide +kernel
theorem dL_right_208 : decode cL_right 208 = .ok (.if_icmp .eq 5, 3) := by decide +kernel
theorem dL_right_211 : decode cL_right 211 = .ok (.iconst 0, 1) := by decide +kernel
theorem dL_right_212 : decode cL_right 212 = .ok (.ireturn, 1) := by decide +kernel
theorem dL_right_213 : decode cL_right 213 = .ok (.iload 12, 2) := by decide +kernel
theorem dL_right_215 : decode cL_right 215 = .ok (.ifCond .eq 6, 3) := by decide +kernel
theorem dL_right_218 : decode cL_right 218 = .ok (.iinc 9 1, 3) := by decide +kernel
theorem dL_right_221 : decode cL_right 221 = .ok (.iload 12, 2) := by decide +kernel
theorem dL_right_223 : decode cL_right 223 = .ok (.ifCond .eq 8, 3) := by decide +kernel
theorem dL_right_226 : decode cL_right 226 = .ok (.iload 8, 2) := by decide +kernel
theorem dL_right_228 : decode cL_right 228 = .ok (.goto 4, 3) := by decide +kernel
theorem dL_right_231 : decode cL_right 231 = .ok (.iconst (-1), 1) := by decide +kernel
theorem dL_right_232 : decode cL_right 232 = .ok (.istore 13, 2) := by decide +kernel
theorem dL_right_234 : decode cL_right 234 = .ok (.iconst 0, 1) := by decide +kernel
theorem dL_right_235 : decode cL_right 235 = .ok (.istore 14, 2) := by decide +kernel
theorem dL_right_237 : decode cL_right 237 = .ok (.iload 14, 2) := by decide +kernel
theorem dL_right_239 : decode cL_right 239 = .ok (.iconst 4, 1) := by decide +kernel
theorem dL_right_240 : decode cL_right 240 = .ok (.if_icmp .ge 62, 3) := by decide +kernel
theorem dL_right_243 : decode cL_right 243 = .ok (.aload_n 0, 1) := by decide +kernel
theorem dL_right_244 : decode cL_right 244 = .ok (.iload 8, 2) := by decide +kernel
theorem dL_right_246 : decode cL_right 246 = .ok (.iload 10, 2) := by decide +kernel
theorem dL_right_248 : decode cL_right 248 = .ok (.iload 14, 2) := by decide +kernel
theorem dL_right_250 : decode cL_right 250 = .ok (.invokevirtual 27, 3) := by decide +kernel
theorem dL_right_253 : decode cL_right 253 = .ok (.iload 13, 2) := by decide +kernel
theorem dL_right_255 : decode cL_right 255 = .ok (.if_icmp .eq 5, 3) := by decide +kernel
theorem dL_right_258 : decode cL_right 258 = .ok (.iconst 0, 1) := by decide +kernel
theorem dL_right_259 : decode cL_right 259 = .ok (.ireturn, 1) := by decide +kernel
theorem dL_right_260 : decode cL_right 260 = .ok (.iload 13, 2) := by decide +kernel
theorem dL_right_262 : decode cL_right 262 = .ok (.ifCond .lt 17, 3) := by decide +kernel
theorem dL_right_265 : decode cL_right 265 = .ok (.aload 4, 2) := by decide +kernel
theorem dL_right_267 : decode cL_right 267 = .ok (.bipush 10, 2) := by decide +kernel
theorem dL_right_269 : decode cL_right 269 = .ok (.iload 13, 2) := by decide +kernel
theorem dL_right_271 : decode cL_right 271 = .ok (.imul, 1) := by decide +kernel
theorem dL_right_272 : decode cL_right 272 = .ok (.iload 10, 2) := by decide +kernel
theorem dL_right_274 : decode cL_right 274 = .ok (.iadd, 1) := by decide +kernel
theorem dL_right_275 : decode cL_right 275 = .ok (.iaload, 1) := by decide +kernel
theorem dL_right_276 : decode cL_right 276 = .ok (.ifCond .ge 7, 3) := by decide +kernel
theorem dL_right_279 : decode cL_right 279 = .ok (.iconst (-1), 1) := by decide +kernel
theorem dL_right_280 : decode cL_right 280 = .ok (.goto 14, 3) := by decide +kernel
theorem dL_right_283 : decode cL_right 283 = .ok (.aload 4, 2) := by decide +kernel
theorem dL_right_285 : decode cL_right 285 = .ok (.bipush 10, 2) := by decide +kernel
theorem dL_right_287 : decode cL_right 287 = .ok (.iload 13, 2) := by decide +kernel
theorem dL_right_289 : decode cL_right 289 = .ok (.imul, 1) := by decide +kernel
theorem dL_right_290 : decode cL_right 290 = .ok (.iload 10, 2) := by decide +kernel
theorem dL_right_292 : decode cL_right 292 = .ok (.iadd, 1) := by decide +kernel
theorem dL_right_293 : decode cL_right 293 = .ok (.iaload, 1) := by decide +kernel
theorem dL_right_294 : decode cL_right 294 = .ok (.istore 13, 2) := by decide +kernel
theorem dL_right_296 : decode cL_right 296 = .ok (.iinc 14 1, 3) := by decide +kernel
theorem dL_right_299 : decode cL_right 299 = .ok (.goto (-62), 3) := by decide +kernel
theorem dL_right_302 : decode cL_right 302 = .ok (.iinc 10 1, 3) := by decide +kernel
theorem dL_right_305 : decode cL_right 305 = .ok (.goto (-289), 3) := by decide +kernel
theorem dL_right_308 : decode cL_right 308 = .ok (.aload_n 0, 1) := by decide +kernel
theorem dL_right_309 : decode cL_right 309 = .ok (.iload 8, 2) := by decide +kernel
theorem dL_right_311 : decode cL_right 311 = .ok (.iconst 1, 1) := by decide +kernel
theorem dL_right_312 : decode cL_right 312 = .ok (.invokevirtual 30, 3) := by decide +kernel
theorem dL_right_315 : decode cL_right 315 = .ok (.iload 9, 2) := by decide +kernel
theorem dL_right_317 : decode cL_right 317 = .ok (.if_icmp .eq 5, 3) := by decide +kernel
theorem dL_right_320 : decode cL_right 320 = .ok (.iconst 0, 1) := by decide +kernel
theorem dL_right_321 : decode cL_right 321 = .ok (.ireturn, 1) := by decide +kernel
theorem dL_right_322 : decode cL_right 322 = .ok (.iconst 0, 1) := by decide +kernel
theorem dL_right_323 : decode cL_right 323 = .ok (.istore 10, 2) := by decide +kernel
theorem dL_right_325 : decode cL_right 325 = .ok (.iconst 0, 1) := by decide +kernel
theorem dL_right_326 : decode cL_right 326 = .ok (.istore 11, 2) := by decide +kernel
theorem dL_right_328 : decode cL_right 328 = .ok (.iconst 0, 1) := by decide +kernel
theorem dL_right_329 : decode cL_right 329 = .ok (.istore 12, 2) := by decide +kernel
theorem dL_right_331 : decode cL_right 331 = .ok (.iconst 0, 1) := by decide +kernel
theorem dL_right_332 : decode cL_right 332 = .ok (.istore 13, 2) := by decide +kernel
theorem dL_right_334 : decode cL_right 334 = .ok (.iload 13, 2) := by decide +kernel
theorem dL_right_336 : decode cL_right 336 = .ok (.bipush 8, 2) := by decide +kernel
theorem dL_right_338 : decode cL_right 338 = .ok (.if_icmp .ge 76, 3) := by decide +kernel
theorem dL_right_341 : decode cL_right 341 = .ok (.aload 4, 2) := by decide +kernel
theorem dL_right_343 : decode cL_right 343 = .ok (.bipush 10, 2) := by decide +kernel
theorem dL_right_345 : decode cL_right 345 = .ok (.iload 8, 2) := by decide +kernel
theorem dL_right_347 : decode cL_right 347 = .ok (.imul, 1) := by decide +kernel
theorem dL_right_348 : decode cL_right 348 = .ok (.iload 13, 2) := by decide +kernel
theorem dL_right_350 : decode cL_right 350 = .ok (.iadd, 1) := by decide +kernel
theorem dL_right_351 : decode cL_right 351 = .ok (.iaload, 1) := by decide +kernel
theorem dL_right_352 : decode cL_right 352 = .ok (.bipush (-2), 2) := by decide +kernel
theorem dL_right_354 : decode cL_right 354 = .ok (.if_icmp .ne 6, 3) := by decide +kernel
theorem dL_right_357 : decode cL_right 357 = .ok (.goto 51, 3) := by decide +kernel
theorem dL_right_360 : decode cL_right 360 = .ok (.iload 10, 2) := by decide +kernel
theorem dL_right_362 : decode cL_right 362 = .ok (.aload_n 1, 1) := by decide +kernel
theorem dL_right_363 : decode cL_right 363 = .ok (.bipush 10, 2) := by decide +kernel
theorem dL_right_365 : decode cL_right 365 = .ok (.iload 8, 2) := by decide +kernel
theorem dL_right_367 : decode cL_right 367 = .ok (.imul, 1) := by decide +kernel
theorem dL_right_368 : decode cL_right 368 = .ok (.iload 13, 2) := by decide +kernel
theorem dL_right_370 : decode cL_right 370 = .ok (.iadd, 1) := by decide +kernel
theorem dL_right_371 : decode cL_right 371 = .ok (.iaload, 1) := by decide +kernel
theorem dL_right_372 : decode cL_right 372 = .ok (.aload 5, 2) := by decide +kernel
theorem dL_right_374 : decode cL_right 374 = .ok (.iload 13, 2) := by decide +kernel
theorem dL_right_376 : decode cL_right 376 = .ok (.iaload, 1) := by decide +kernel
theorem dL_right_377 : decode cL_right 377 = .ok (.isub, 1) := by decide +kernel
theorem dL_right_378 : decode cL_right 378 = .ok (.iadd, 1) := by decide +kernel
theorem dL_right_379 : decode cL_right 379 = .ok (.istore 10, 2) := by decide +kernel
theorem dL_right_381 : decode cL_right 381 = .ok (.iload 11, 2) := by decide +kernel
theorem dL_right_383 : decode cL_right 383 = .ok (.aload_n 2, 1) := by decide +kernel
theorem dL_right_384 : decode cL_right 384 = .ok (.bipush 10, 2) := by decide +kernel
theorem dL_right_386 : decode cL_right 386 = .ok (.iload 8, 2) := by decide +kernel
theorem dL_right_388 : decode cL_right 388 = .ok (.imul, 1) := by decide +kernel
theorem dL_right_389 : decode cL_right 389 = .ok (.iload 13, 2) := by decide +kernel
theorem dL_right_391 : decode cL_right 391 = .ok (.iadd, 1) := by decide +kernel
theorem dL_right_392 : decode cL_right 392 = .ok (.iaload, 1) := by decide +kernel
theorem dL_right_393 : decode cL_right 393 = .ok (.aload 5, 2) := by decide +kernel
theorem dL_right_395 : decode cL_right 395 = .ok (.bipush 10, 2) := by decide +kernel
theorem dL_right_397 : decode cL_right 397 = .ok (.iload 13, 2) := by decide +kernel
theorem dL_right_399 : decode cL_right 399 = .ok (.iadd, 1) := by decide +kernel
theorem dL_right_400 : decode cL_right 400 = .ok (.iaload, 1) := by decide +kernel
theorem dL_right_401 : decode cL_right 401 = .ok (.isub, 1) := by decide +kernel
theorem dL_right_402 : decode cL_right 402 = .ok (.iadd, 1) := by decide +kernel
theorem dL_right_403 : decode cL_right 403 = .ok (.istore 11, 2) := by decide +kernel
theorem dL_right_405 : decode cL_right 405 = .ok (.iinc 12 1, 3) := by decide +kernel
theorem dL_right_408 : decode cL_right 408 = .ok (.iinc 13 1, 3) := by decide +kernel
theorem dL_right_411 : decode cL_right 411 = .ok (.goto (-77), 3) := by decide +kernel
theorem dL_right_414 : decode cL_right 414 = .ok (.iload 12, 2) := by decide +kernel
theorem dL_right_416 : decode cL_right 416 = .ok (.ifCond .ne 7, 3) := by decide +kernel
theorem dL_right_419 : decode cL_right 419 = .ok (.iconst 0, 1) := by decide +kernel
theorem dL_right_420 : decode cL_right 420 = .ok (.goto 8, 3) := by decide +kernel
theorem dL_right_423 : decode cL_right 423 = .ok (.iload 10, 2) := by decide +kernel
theorem dL_right_425 : decode cL_right 425 = .ok (.iload 12, 2) := by decide +kernel
theorem dL_right_427 : decode cL_right 427 = .ok (.idiv, 1) := by decide +kernel
theorem dL_right_428 : decode cL_right 428 = .ok (.istore 10, 2) := by decide +kernel
theorem dL_right_430 : decode cL_right 430 = .ok (.iload 12, 2) := by decide +kernel
theorem dL_right_432 : decode cL_right 432 = .ok (.ifCond .ne 7, 3) := by decide +kernel
theorem dL_right_435 : decode cL_right 435 = .ok (.iconst 0, 1) := by decide +kernel
theorem dL_right_436 : decode cL_right 436 = .ok (.goto 8, 3) := by decide +kernel
theorem dL_right_439 : decode cL_right 439 = .ok (.iload 11, 2) := by decide +kernel
theorem dL_right_441 : decode cL_right 441 = .ok (.iload 12, 2) := by decide +kernel
theorem dL_right_443 : decode cL_right 443 = .ok (.idiv, 1) := by decide +kernel
theorem dL_right_444 : decode cL_right 444 = .ok (.istore 11, 2) := by decide +kernel
theorem dL_right_446 : decode cL_right 446 = .ok (.iconst 0, 1) := by decide +kernel
theorem dL_right_447 : decode cL_right 447 = .ok (.istore 13, 2) := by decide +kernel
theorem dL_right_449 : decode cL_right 449 = .ok (.iconst 0, 1) := by decide +kernel
theorem dL_right_450 : decode cL_right 450 = .ok (.istore 14, 2) := by decide +kernel
theorem dL_right_452 : decode cL_right 452 = .ok (.iload 14, 2) := by decide +kernel
theorem dL_right_454 : decode cL_right 454 = .ok (.bipush 8, 2) := by decide +kernel
theorem dL_right_456 : decode cL_right 456 = .ok (.if_icmp .ge 78, 3) := by decide +kernel
theorem dL_right_459 : decode cL_right 459 = .ok (.aload 4, 2) := by decide +kernel
theorem dL_right_461 : decode cL_right 461 = .ok (.bipush 10, 2) := by decide +kernel
theorem dL_right_463 : decode cL_right 463 = .ok (.iload 8, 2) := by decide +kernel
theorem dL_right_465 : decode cL_right 465 = .ok (.imul, 1) := by decide +kernel
theorem dL_right_466 : decode cL_right 466 = .ok (.iload 14, 2) := by decide +kernel
theorem dL_right_468 : decode cL_right 468 = .ok (.iadd, 1) := by decide +kernel
theorem dL_right_469 : decode cL_right 469 = .ok (.iaload, 1) := by decide +kernel
theorem dL_right_470 : decode cL_right 470 = .ok (.bipush (-2), 2) := by decide +kernel
theorem dL_right_472 : decode cL_right 472 = .ok (.if_icmp .le 56, 3) := by decide +kernel
theorem dL_right_475 : decode cL_right 475 = .ok (.iload 13, 2) := by decide +kernel
theorem dL_right_477 : decode cL_right 477 = .ok (.aload_n 1, 1) := by decide +kernel
theorem dL_right_478 : decode cL_right 478 = .ok (.bipush 10, 2) := by decide +kernel
theorem dL_right_480 : decode cL_right 480 = .ok (.iload 8, 2) := by decide +kernel
theorem dL_right_482 : decode cL_right 482 = .ok (.imul, 1) := by decide +kernel
theorem dL_right_483 : decode cL_right 483 = .ok (.iload 14, 2) := by decide +kernel
theorem dL_right_485 : decode cL_right 485 = .ok (.iadd, 1) := by decide +kernel
theorem dL_right_486 : decode cL_right 486 = .ok (.iaload, 1) := by decide +kernel
theorem dL_right_487 : decode cL_right 487 = .ok (.aload 5, 2) := by decide +kernel
theorem dL_right_489 : decode cL_right 489 = .ok (.iload 14, 2) := by decide +kernel
theorem dL_right_491 : decode cL_right 491 = .ok (.iaload, 1) := by decide +kernel
theorem dL_right_492 : decode cL_right 492 = .ok (.isub, 1) := by decide +kernel
theorem dL_right_493 : decode cL_right 493 = .ok (.iload 10, 2) := by decide +kernel
theorem dL_right_495 : decode cL_right 495 = .ok (.isub, 1) := by decide +kernel
theorem dL_right_496 : decode cL_right 496 = .ok (.invokestatic 34, 3) := by decide +kernel
theorem dL_right_499 : decode cL_right 499 = .ok (.aload_n 2, 1) := by decide +kernel
theorem dL_right_500 : decode cL_right 500 = .ok (.bipush 10, 2) := by decide +kernel
theorem dL_right_502 : decode cL_right 502 = .ok (.iload 8, 2) := by decide +kernel
theorem dL_right_504 : decode cL_right 504 = .ok (.imul, 1) := by decide +kernel
theorem dL_right_505 : decode cL_right 505 = .ok (.iload 14, 2) := by decide +kernel
theorem dL_right_507 : decode cL_right 507 = .ok (.iadd, 1) := by decide +kernel
theorem dL_right_508 : decode cL_right 508 = .ok (.iaload, 1) := by decide +kernel
theorem dL_right_509 : decode cL_right 509 = .ok (.aload 5, 2) := by decide +kernel
theorem dL_right_511 : decode cL_right 511 = .ok (.bipush 10, 2) := by decide +kernel
theorem dL_right_513 : decode cL_right 513 = .ok (.iload 14, 2) := by decide +kernel
theorem dL_right_515 : decode cL_right 515 = .ok (.iadd, 1) := by decide +kernel
theorem dL_right_516 : decode cL_right 516 = .ok (.iaload, 1) := by decide +kernel
theorem dL_right_517 : decode cL_right 517 = .ok (.isub, 1) := by decide +kernel
theorem dL_right_518 : decode cL_right 518 = .ok (.iload 11, 2) := by decide +kernel
theorem dL_right_520 : decode cL_right 520 = .ok (.isub, 1) := by decide +kernel
theorem dL_right_521 : decode cL_right 521 = .ok (.invokestatic 34, 3) := by decide +kernel
theorem dL_right_524 : decode cL_right 524 = .ok (.iadd, 1) := by decide +kernel
theorem dL_right_525 : decode cL_right 525 = .ok (.iadd, 1) := by decide +kernel
theorem dL_right_526 : decode cL_right 526 = .ok (.istore 13, 2) := by decide +kernel
theorem dL_right_528 : decode cL_right 528 = .ok (.iinc 14 1, 3) := by decide +kernel
theorem dL_right_531 : decode cL_right 531 = .ok (.goto (-79), 3) := by decide +kernel
theorem dL_right_534 : decode cL_right 534 = .ok (.aload_n 0, 1) := by decide +kernel
theorem dL_right_535 : decode cL_right 535 = .ok (.iload 8, 2) := by decide +kernel
theorem dL_right_537 : decode cL_right 537 = .ok (.iconst 0, 1) := by decide +kernel
theorem dL_right_538 : decode cL_right 538 = .ok (.iconst 0, 1) := by decide +kernel
theorem dL_right_539 : decode cL_right 539 = .ok (.invokevirtual 40, 3) := by decide +kernel
theorem dL_right_542 : decode cL_right 542 = .ok (.iload 10, 2) := by decide +kernel
theorem dL_right_544 : decode cL_right 544 = .ok (.if_icmp .ne 40, 3) := by decide +kernel
theorem dL_right_547 : decode cL_right 547 = .ok (.aload_n 0, 1) := by decide +kernel
theorem dL_right_548 : decode cL_right 548 = .ok (.iload 8, 2) := by decide +kernel
theorem dL_right_550 : decode cL_right 550 = .ok (.iconst 0, 1) := by decide +kernel
theorem dL_right_551 : decode cL_right 551 = .ok (.iconst 1, 1) := by decide +kernel
theorem dL_right_552 : decode cL_right 552 = .ok (.invokevirtual 40, 3) := by decide +kernel
theorem dL_right_555 : decode cL_right 555 = .ok (.iload 11, 2) := by decide +kernel
theorem dL_right_557 : decode cL_right 557 = .ok (.if_icmp .ne 27, 3) := by decide +kernel
theorem dL_right_560 : decode cL_right 560 = .ok (.aload_n 0, 1) := by decide +kernel
theorem dL_right_561 : decode cL_right 561 = .ok (.iload 8, 2) := by decide +kernel
theorem dL_right_563 : decode cL_right 563 = .ok (.iconst 0, 1) := by decide +kernel
theorem dL_right_564 : decode cL_right 564 = .ok (.iconst 2, 1) := by decide +kernel
theorem dL_right_565 : decode cL_right 565 = .ok (.invokevirtual 40, 3) := by decide +kernel
theorem dL_right_568 : decode cL_right 568 = .ok (.iload 13, 2) := by decide +kernel
theorem dL_right_570 : decode cL_right 570 = .ok (.if_icmp .ne 14, 3) := by decide +kernel
theorem dL_right_573 : decode cL_right 573 = .ok (.aload_n 0, 1) := by decide +kernel
theorem dL_right_574 : decode cL_right 574 = .ok (.iload 8, 2) := by decide +kernel
theorem dL_right_576 : decode cL_right 576 = .ok (.iconst 2, 1) := by decide +kernel
theorem dL_right_577 : decode cL_right 577 = .ok (.iconst 2, 1) := by decide +kernel
theorem dL_right_578 : decode cL_right 578 = .ok (.invokevirtual 40, 3) := by decide +kernel
theorem dL_right_581 : decode cL_right 581 = .ok (.ifCond .eq 5, 3) := by decide +kernel
theorem dL_right_584 : decode cL_right 584 = .ok (.iconst 0, 1) := by decide +kernel
theorem dL_right_585 : decode cL_right 585 = .ok (.ireturn, 1) := by decide +kernel
theorem dL_right_586 : decode cL_right 586 = .ok (.iconst (-1), 1) := by decide +kernel
theorem dL_right_587 : decode cL_right 587 = .ok (.istore 14, 2) := by decide +kernel
theorem dL_right_589 : decode cL_right 589 = .ok (.iconst 0, 1) := by decide +kernel
theorem dL_right_590 : decode cL_right 590 = .ok (.istore 15, 2) := by decide +kernel
theorem dL_right_592 : decode cL_right 592 = .ok (.iconst 0, 1) := by decide +kernel
theorem dL_right_593 : decode cL_right 593 = .ok (.istore 16, 2) := by decide +kernel
theorem dL_right_595 : decode cL_right 595 = .ok (.iload 16, 2) := by decide +kernel
theorem dL_right_597 : decode cL_right 597 = .ok (.iload 8, 2) := by decide +kernel
theorem dL_right_599 : decode cL_right 599 = .ok (.if_icmp .ge 102, 3) := by decide +kernel
theorem dL_right_602 : decode cL_right 602 = .ok (.aload_n 1, 1) := by decide +kernel
theorem dL_right_603 : decode cL_right 603 = .ok (.aload_n 2, 1) := by decide +kernel
theorem dL_right_604 : decode cL_right 604 = .ok (.aload_n 3, 1) := by decide +kernel
theorem dL_right_605 : decode cL_right 605 = .ok (.aload 4, 2) := by decide +kernel
theorem dL_right_607 : decode cL_right 607 = .ok (.aload 5, 2) := by decide +kernel
theorem dL_right_609 : decode cL_right 609 = .ok (.aload 6, 2) := by decide +kernel
theorem dL_right_611 : decode cL_right 611 = .ok (.iload 8, 2) := by decide +kernel
theorem dL_right_613 : decode cL_right 613 = .ok (.iload 16, 2) := by decide +kernel
theorem dL_right_615 : decode cL_right 615 = .ok (.iconst 0, 1) := by decide +kernel
theorem dL_right_616 : decode cL_right 616 = .ok (.invokestatic 43, 3) := by decide +kernel
theorem dL_right_619 : decode cL_right 619 = .ok (.istore 17, 2) := by decide +kernel
theorem dL_right_621 : decode cL_right 621 = .ok (.aload_n 0, 1) := by decide +kernel
theorem dL_right_622 : decode cL_right 622 = .ok (.iload 8, 2) := by decide +kernel
theorem dL_right_624 : decode cL_right 624 = .ok (.iload 16, 2) := by decide +kernel
theorem dL_right_626 : decode cL_right 626 = .ok (.iconst 0, 1) := by decide +kernel
theorem dL_right_627 : decode cL_right 627 = .ok (.invokevirtual 47, 3) := by decide +kernel
theorem dL_right_630 : decode cL_right 630 = .ok (.iload 17, 2) := by decide +kernel
theorem dL_right_632 : decode cL_right 632 = .ok (.if_icmp .ne 46, 3) := by decide +kernel
theorem dL_right_635 : decode cL_right 635 = .ok (.aload_n 0, 1) := by decide +kernel
theorem dL_right_636 : decode cL_right 636 = .ok (.iload 16, 2) := by decide +kernel
theorem dL_right_638 : decode cL_right 638 = .ok (.iload 8, 2) := by decide +kernel
theorem dL_right_640 : decode cL_right 640 = .ok (.iconst 0, 1) := by decide +kernel
theorem dL_right_641 : decode cL_right 641 = .ok (.invokevirtual 47, 3) := by decide +kernel
theorem dL_right_644 : decode cL_right 644 = .ok (.iload 17, 2) := by decide +kernel
theorem dL_right_646 : decode cL_right 646 = .ok (.if_icmp .ne 32, 3) := by decide +kernel
theorem dL_right_649 : decode cL_right 649 = .ok (.aload_n 0, 1) := by decide +kernel
theorem dL_right_650 : decode cL_right 650 = .ok (.iload 8, 2) := by decide +kernel
theorem dL_right_652 : decode cL_right 652 = .ok (.iload 16, 2) := by decide +kernel
theorem dL_right_654 : decode cL_right 654 = .ok (.iconst 1, 1) := by decide +kernel
theorem dL_right_655 : decode cL_right 655 = .ok (.invokevirtual 47, 3) := by decide +kernel
theorem dL_right_658 : decode cL_right 658 = .ok (.aload_n 1, 1) := by decide +kernel
theorem dL_right_659 : decode cL_right 659 = .ok (.aload_n 2, 1) := by decide +kernel
theorem dL_right_660 : decode cL_right 660 = .ok (.aload_n 3, 1) := by decide +kernel
theorem dL_right_661 : decode cL_right 661 = .ok (.aload 4, 2) := by decide +kernel
theorem dL_right_663 : decode cL_right 663 = .ok (.aload 5, 2) := by decide +kernel
theorem dL_right_665 : decode cL_right 665 = .ok (.aload 6, 2) := by decide +kernel
theorem dL_right_667 : decode cL_right 667 = .ok (.iload 8, 2) := by decide +kernel
theorem dL_right_669 : decode cL_right 669 = .ok (.iload 16, 2) := by decide +kernel
theorem dL_right_671 : decode cL_right 671 = .ok (.iconst 1, 1) := by decide +kernel
theorem dL_right_672 : decode cL_right 672 = .ok (.invokestatic 43, 3) := by decide +kernel
theorem dL_right_675 : decode cL_right 675 = .ok (.if_icmp .eq 5, 3) := by decide +kernel
theorem dL_right_678 : decode cL_right 678 = .ok (.iconst 0, 1) := by decide +kernel
theorem dL_right_679 : decode cL_right 679 = .ok (.ireturn, 1) := by decide +kernel
theorem dL_right_680 : decode cL_right 680 = .ok (.iload 17, 2) := by decide +kernel
theorem dL_right_682 : decode cL_right 682 = .ok (.iload 15, 2) := by decide +kernel
theorem dL_right_684 : decode cL_right 684 = .ok (.if_icmp .le 11, 3) := by decide +kernel
theorem dL_right_687 : decode cL_right 687 = .ok (.iload 17, 2) := by decide +kernel
theorem dL_right_689 : decode cL_right 689 = .ok (.istore 15, 2) := by decide +kernel
theorem dL_right_691 : decode cL_right 691 = .ok (.iload 16, 2) := by decide +kernel
theorem dL_right_693 : decode cL_right 693 = .ok (.istore 14, 2) := by decide +kernel
theorem dL_right_695 : decode cL_right 695 = .ok (.iinc 16 1, 3) := by decide +kernel
theorem dL_right_698 : decode cL_right 698 = .ok (.goto (-103), 3) := by decide +kernel
theorem dL_right_701 : decode cL_right 701 = .ok (.aload_n 0, 1) := by decide +kernel
theorem dL_right_702 : decode cL_right 702 = .ok (.iload 8, 2) := by decide +kernel
theorem dL_right_704 : decode cL_right 704 = .ok (.iconst 0, 1) := by decide +kernel
theorem dL_right_705 : decode cL_right 705 = .ok (.invokevirtual 49, 3) := by decide +kernel
theorem dL_right_708 : decode cL_right 708 = .ok (.iload 14, 2) := by decide +kernel
theorem dL_right_710 : decode cL_right 710 = .ok (.if_icmp .eq 5, 3) := by decide +kernel
theorem dL_right_713 : decode cL_right 713 = .ok (.iconst 0, 1) := by decide +kernel
theorem dL_right_714 : decode cL_right 714 = .ok (.ireturn, 1) := by decide +kernel
theorem dL_right_715 : decode cL_right 715 = .ok (.iinc 8 1, 3) := by decide +kernel
theorem dL_right_718 : decode cL_right 718 = .ok (.goto (-715), 3) := by decide +kernel
theorem dL_right_721 : decode cL_right 721 = .ok (.iconst 1, 1) := by decide +kernel
theorem dL_right_722 : decode cL_right 722 = .ok (.ireturn, 1) := by decide +kernel
theorem dL_law_0 : decode cL_law 0 = .ok (.new 11, 3) := by decide +kernel
theorem dL_law_3 : decode cL_law 3 = .ok (.dup, 1) := by decide +kernel
theorem dL_law_4 : decode cL_law 4 = .ok (.invokespecial 52, 3) := by decide +kernel
theorem dL_law_7 : decode cL_law 7 = .ok (.astore_n 1, 1) := by decide +kernel
theorem dL_law_8 : decode cL_law 8 = .ok (.bipush 64, 2) := by decide +kernel
theorem dL_law_10 : decode cL_law 10 = .ok (.newarray .int, 2) := by decide +kernel
theorem dL_law_12 : decode cL_law 12 = .ok (.astore_n 2, 1) := by decide +kernel
theorem dL_law_13 : decode cL_law 13 = .ok (.bipush 64, 2) := by decide +kernel
theorem dL_law_15 : decode cL_law 15 = .ok (.newarray .int, 2) := by decide +kernel
theorem dL_law_17 : decode cL_law 17 = .ok (.astore_n 3, 1) := by decide +kernel
theorem dL_law_18 : decode cL_law 18 = .ok (.bipush 64, 2) := by decide +kernel
theorem dL_law_20 : decode cL_law 20 = .ok (.newarray .int, 2) := by decide +kernel
theorem dL_law_22 : decode cL_law 22 = .ok (.astore 4, 2) := by decide +kernel
theorem dL_law_24 : decode cL_law 24 = .ok (.bipush 64, 2) := by decide +kernel
theorem dL_law_26 : decode cL_law 26 = .ok (.newarray .int, 2) := by decide +kernel
theorem dL_law_28 : decode cL_law 28 = .ok (.astore 5, 2) := by decide +kernel
theorem dL_law_30 : decode cL_law 30 = .ok (.bipush 64, 2) := by decide +kernel
theorem dL_law_32 : decode cL_law 32 = .ok (.newarray .int, 2) := by decide +kernel
theorem dL_law_34 : decode cL_law 34 = .ok (.astore 6, 2) := by decide +kernel
theorem dL_law_36 : decode cL_law 36 = .ok (.iconst 4, 1) := by decide +kernel
theorem dL_law_37 : decode cL_law 37 = .ok (.newarray .int, 2) := by decide +kernel
theorem dL_law_39 : decode cL_law 39 = .ok (.astore 7, 2) := by decide +kernel
theorem dL_law_41 : decode cL_law 41 = .ok (.bipush 8, 2) := by decide +kernel
theorem dL_law_43 : decode cL_law 43 = .ok (.newarray .int, 2) := by decide +kernel
theorem dL_law_45 : decode cL_law 45 = .ok (.astore 8, 2) := by decide +kernel
theorem dL_law_47 : decode cL_law 47 = .ok (.iconst 4, 1) := by decide +kernel
theorem dL_law_48 : decode cL_law 48 = .ok (.newarray .int, 2) := by decide +kernel
theorem dL_law_50 : decode cL_law 50 = .ok (.astore 9, 2) := by decide +kernel
theorem dL_law_52 : decode cL_law 52 = .ok (.bipush 64, 2) := by decide +kernel
theorem dL_law_54 : decode cL_law 54 = .ok (.newarray .int, 2) := by decide +kernel
theorem dL_law_56 : decode cL_law 56 = .ok (.astore 10, 2) := by decide +kernel
theorem dL_law_58 : decode cL_law 58 = .ok (.iconst 0, 1) := by decide +kernel
theorem dL_law_59 : decode cL_law 59 = .ok (.istore 11, 2) := by decide +kernel
theorem dL_law_61 : decode cL_law 61 = .ok (.iconst 0, 1) := by decide +kernel
theorem dL_law_62 : decode cL_law 62 = .ok (.istore 12, 2) := by decide +kernel
theorem dL_law_64 : decode cL_law 64 = .ok (.iload 12, 2) := by decide +kernel
theorem dL_law_66 : decode cL_law 66 = .ok (.bipush 10, 2) := by decide +kernel
theorem dL_law_68 : decode cL_law 68 = .ok (.if_icmp .ge 113, 3) := by decide +kernel
theorem dL_law_71 : decode cL_law 71 = .ok (.aload_n 0, 1) := by decide +kernel
theorem dL_law_72 : decode cL_law 72 = .ok (.iload 11, 2) := by decide +kernel
theorem dL_law_74 : decode cL_law 74 = .ok (.invokestatic 53, 3) := by decide +kernel
theorem dL_law_77 : decode cL_law 77 = .ok (.istore 13, 2) := by decide +kernel
theorem dL_law_79 : decode cL_law 79 = .ok (.aload 6, 2) := by decide +kernel
theorem dL_law_81 : decode cL_law 81 = .ok (.iload 12, 2) := by decide +kernel
theorem dL_law_83 : decode cL_law 83 = .ok (.iload 13, 2) := by decide +kernel
theorem dL_law_85 : decode cL_law 85 = .ok (.sipush 1001, 3) := by decide +kernel
theorem dL_law_88 : decode cL_law 88 = .ok (.invokestatic 57, 3) := by decide +kernel
theorem dL_law_91 : decode cL_law 91 = .ok (.sipush 500, 3) := by decide +kernel
theorem dL_law_94 : decode cL_law 94 = .ok (.isub, 1) := by decide +kernel
theorem dL_law_95 : decode cL_law 95 = .ok (.iastore, 1) := by decide +kernel
theorem dL_law_96 : decode cL_law 96 = .ok (.aload 6, 2) := by decide +kernel
theorem dL_law_98 : decode cL_law 98 = .ok (.bipush 10, 2) := by decide +kernel
theorem dL_law_100 : decode cL_law 100 = .ok (.iload 12, 2) := by decide +kernel
theorem dL_law_102 : decode cL_law 102 = .ok (.iadd, 1) := by decide +kernel
theorem dL_law_103 : decode cL_law 103 = .ok (.iload 13, 2) := by decide +kernel
theorem dL_law_105 : decode cL_law 105 = .ok (.bipush 10, 2) := by decide +kernel
theorem dL_law_107 : decode cL_law 107 = .ok (.ishr, 1) := by decide +kernel
theorem dL_law_108 : decode cL_law 108 = .ok (.sipush 1001, 3) := by decide +kernel
theorem dL_law_111 : decode cL_law 111 = .ok (.invokestatic 57, 3) := by decide +kernel
theorem dL_law_114 : decode cL_law 114 = .ok (.sipush 500, 3) := by decide +kernel
theorem dL_law_117 : decode cL_law 117 = .ok (.isub, 1) := by decide +kernel
theorem dL_law_118 : decode cL_law 118 = .ok (.iastore, 1) := by decide +kernel
theorem dL_law_119 : decode cL_law 119 = .ok (.aload 6, 2) := by decide +kernel
theorem dL_law_121 : decode cL_law 121 = .ok (.bipush 20, 2) := by decide +kernel
theorem dL_law_123 : decode cL_law 123 = .ok (.iload 12, 2) := by decide +kernel
theorem dL_law_125 : decode cL_law 125 = .ok (.iadd, 1) := by decide +kernel
theorem dL_law_126 : decode cL_law 126 = .ok (.iconst 1, 1) := by decide +kernel
theorem dL_law_127 : decode cL_law 127 = .ok (.iload 13, 2) := by decide +kernel
theorem dL_law_129 : decode cL_law 129 = .ok (.bipush 20, 2) := by decide +kernel
theorem dL_law_131 : decode cL_law 131 = .ok (.ishr, 1) := by decide +kernel
theorem dL_law_132 : decode cL_law 132 = .ok (.bipush 12, 2) := by decide +kernel
theorem dL_law_134 : decode cL_law 134 = .ok (.invokestatic 57, 3) := by decide +kernel
theorem dL_law_137 : decode cL_law 137 = .ok (.iadd, 1) := by decide +kernel
theorem dL_law_138 : decode cL_law 138 = .ok (.iastore, 1) := by decide +kernel
theorem dL_law_139 : decode cL_law 139 = .ok (.aload_n 1, 1) := by decide +kernel
theorem dL_law_140 : decode cL_law 140 = .ok (.iload 12, 2) := by decide +kernel
theorem dL_law_142 : decode cL_law 142 = .ok (.aload 6, 2) := by decide +kernel
theorem dL_law_144 : decode cL_law 144 = .ok (.iload 12, 2) := by decide +kernel
theorem dL_law_146 : decode cL_law 146 = .ok (.iaload, 1) := by decide +kernel
theorem dL_law_147 : decode cL_law 147 = .ok (.aload 6, 2) := by decide +kernel
theorem dL_law_149 : decode cL_law 149 = .ok (.bipush 10, 2) := by decide +kernel
theorem dL_law_151 : decode cL_law 151 = .ok (.iload 12, 2) := by decide +kernel
theorem dL_law_153 : decode cL_law 153 = .ok (.iadd, 1) := by decide +kernel
theorem dL_law_154 : decode cL_law 154 = .ok (.iaload, 1) := by decide +kernel
theorem dL_law_155 : decode cL_law 155 = .ok (.aload 6, 2) := by decide +kernel
theorem dL_law_157 : decode cL_law 157 = .ok (.bipush 20, 2) := by decide +kernel
theorem dL_law_159 : decode cL_law 159 = .ok (.iload 12, 2) := by decide +kernel
theorem dL_law_161 : decode cL_law 161 = .ok (.iadd, 1) := by decide +kernel
theorem dL_law_162 : decode cL_law 162 = .ok (.iaload, 1) := by decide +kernel
theorem dL_law_163 : decode cL_law 163 = .ok (.sipush 1000, 3) := by decide +kernel
theorem dL_law_166 : decode cL_law 166 = .ok (.iload 12, 2) := by decide +kernel
theorem dL_law_168 : decode cL_law 168 = .ok (.iadd, 1) := by decide +kernel
theorem dL_law_169 : decode cL_law 169 = .ok (.invokevirtual 60, 3) := by decide +kernel
theorem dL_law_172 : decode cL_law 172 = .ok (.iinc 11 1, 3) := by decide +kernel
theorem dL_law_175 : decode cL_law 175 = .ok (.iinc 12 1, 3) := by decide +kernel
theorem dL_law_178 : decode cL_law 178 = .ok (.goto (-114), 3) := by decide +kernel
theorem dL_law_181 : decode cL_law 181 = .ok (.bipush 64, 2) := by decide +kernel
theorem dL_law_183 : decode cL_law 183 = .ok (.newarray .int, 2) := by decide +kernel
theorem dL_law_185 : decode cL_law 185 = .ok (.astore 12, 2) := by decide +kernel
theorem dL_law_187 : decode cL_law 187 = .ok (.iconst 4, 1) := by decide +kernel
theorem dL_law_188 : decode cL_law 188 = .ok (.newarray .int, 2) := by decide +kernel
theorem dL_law_190 : decode cL_law 190 = .ok (.astore 13, 2) := by decide +kernel
theorem dL_law_192 : decode cL_law 192 = .ok (.iconst 0, 1) := by decide +kernel
theorem dL_law_193 : decode cL_law 193 = .ok (.istore 14, 2) := by decide +kernel
theorem dL_law_195 : decode cL_law 195 = .ok (.iload 14, 2) := by decide +kernel
theorem dL_law_197 : decode cL_law 197 = .ok (.iconst 2, 1) := by decide +kernel
theorem dL_law_198 : decode cL_law 198 = .ok (.if_icmp .ge 86, 3) := by decide +kernel
theorem dL_law_201 : decode cL_law 201 = .ok (.aload 13, 2) := by decide +kernel
theorem dL_law_203 : decode cL_law 203 = .ok (.iconst 2, 1) := by decide +kernel
theorem dL_law_204 : decode cL_law 204 = .ok (.iload 14, 2) := by decide +kernel
theorem dL_law_206 : decode cL_law 206 = .ok (.imul, 1) := by decide +kernel
theorem dL_law_207 : decode cL_law 207 = .ok (.aload_n 0, 1) := by decide +kernel
theorem dL_law_208 : decode cL_law 208 = .ok (.iload 11, 2) := by decide +kernel
theorem dL_law_210 : decode cL_law 210 = .ok (.invokestatic 53, 3) := by decide +kernel
theorem dL_law_213 : decode cL_law 213 = .ok (.bipush 61, 2) := by decide +kernel
theorem dL_law_215 : decode cL_law 215 = .ok (.invokestatic 57, 3) := by decide +kernel
theorem dL_law_218 : decode cL_law 218 = .ok (.bipush 30, 2) := by decide +kernel
theorem dL_law_220 : decode cL_law 220 = .ok (.isub, 1) := by decide +kernel
theorem dL_law_221 : decode cL_law 221 = .ok (.iastore, 1) := by decide +kernel
theorem dL_law_222 : decode cL_law 222 = .ok (.aload 13, 2) := by decide +kernel
theorem dL_law_224 : decode cL_law 224 = .ok (.iconst 2, 1) := by decide +kernel
theorem dL_law_225 : decode cL_law 225 = .ok (.iload 14, 2) := by decide +kernel
theorem dL_law_227 : decode cL_law 227 = .ok (.imul, 1) := by decide +kernel
theorem dL_law_228 : decode cL_law 228 = .ok (.iconst 1, 1) := by decide +kernel
theorem dL_law_229 : decode cL_law 229 = .ok (.iadd, 1) := by decide +kernel
theorem dL_law_230 : decode cL_law 230 = .ok (.aload_n 0, 1) := by decide +kernel
theorem dL_law_231 : decode cL_law 231 = .ok (.iload 11, 2) := by decide +kernel
theorem dL_law_233 : decode cL_law 233 = .ok (.invokestatic 53, 3) := by decide +kernel
theorem dL_law_236 : decode cL_law 236 = .ok (.bipush 8, 2) := by decide +kernel
theorem dL_law_238 : decode cL_law 238 = .ok (.ishr, 1) := by decide +kernel
theorem dL_law_239 : decode cL_law 239 = .ok (.bipush 61, 2) := by decide +kernel
theorem dL_law_241 : decode cL_law 241 = .ok (.invokestatic 57, 3) := by decide +kernel
theorem dL_law_244 : decode cL_law 244 = .ok (.bipush 30, 2) := by decide +kernel
theorem dL_law_246 : decode cL_law 246 = .ok (.isub, 1) := by decide +kernel
theorem dL_law_247 : decode cL_law 247 = .ok (.iastore, 1) := by decide +kernel
theorem dL_law_248 : decode cL_law 248 = .ok (.aload_n 1, 1) := by decide +kernel
theorem dL_law_249 : decode cL_law 249 = .ok (.aload 13, 2) := by decide +kernel
theorem dL_law_251 : decode cL_law 251 = .ok (.iconst 2, 1) := by decide +kernel
theorem dL_law_252 : decode cL_law 252 = .ok (.iload 14, 2) := by decide +kernel
theorem dL_law_254 : decode cL_law 254 = .ok (.imul, 1) := by decide +kernel
theorem dL_law_255 : decode cL_law 255 = .ok (.iaload, 1) := by decide +kernel
theorem dL_law_256 : decode cL_law 256 = .ok (.aload 13, 2) := by decide +kernel
theorem dL_law_258 : decode cL_law 258 = .ok (.iconst 2, 1) := by decide +kernel
theorem dL_law_259 : decode cL_law 259 = .ok (.iload 14, 2) := by decide +kernel
theorem dL_law_261 : decode cL_law 261 = .ok (.imul, 1) := by decide +kernel
theorem dL_law_262 : decode cL_law 262 = .ok (.iconst 1, 1) := by decide +kernel
theorem dL_law_263 : decode cL_law 263 = .ok (.iadd, 1) := by decide +kernel
theorem dL_law_264 : decode cL_law 264 = .ok (.iaload, 1) := by decide +kernel
theorem dL_law_265 : decode cL_law 265 = .ok (.invokevirtual 64, 3) := by decide +kernel
theorem dL_law_268 : decode cL_law 268 = .ok (.iload 14, 2) := by decide +kernel
theorem dL_law_270 : decode cL_law 270 = .ok (.if_icmp .eq 5, 3) := by decide +kernel
theorem dL_law_273 : decode cL_law 273 = .ok (.iconst 0, 1) := by decide +kernel
theorem dL_law_274 : decode cL_law 274 = .ok (.ireturn, 1) := by decide +kernel
theorem dL_law_275 : decode cL_law 275 = .ok (.iinc 11 1, 3) := by decide +kernel
theorem dL_law_278 : decode cL_law 278 = .ok (.iinc 14 1, 3) := by decide +kernel
theorem dL_law_281 : decode cL_law 281 = .ok (.goto (-86), 3) := by decide +kernel
theorem dL_law_284 : decode cL_law 284 = .ok (.bipush 6, 2) := by decide +kernel
theorem dL_law_286 : decode cL_law 286 = .ok (.aload_n 0, 1) := by decide +kernel
theorem dL_law_287 : decode cL_law 287 = .ok (.iload 11, 2) := by decide +kernel
theorem dL_law_289 : decode cL_law 289 = .ok (.invokestatic 53, 3) := by decide +kernel
theorem dL_law_292 : decode cL_law 292 = .ok (.bipush 8, 2) := by decide +kernel
theorem dL_law_294 : decode cL_law 294 = .ok (.invokestatic 57, 3) := by decide +kernel
theorem dL_law_297 : decode cL_law 297 = .ok (.iadd, 1) := by decide +kernel
theorem dL_law_298 : decode cL_law 298 = .ok (.istore 14, 2) := by decide +kernel
theorem dL_law_300 : decode cL_law 300 = .ok (.iconst 0, 1) := by decide +kernel
theorem dL_law_301 : decode cL_law 301 = .ok (.istore 15, 2) := by decide +kernel
theorem dL_law_303 : decode cL_law 303 = .ok (.iload 15, 2) := by decide +kernel
theorem dL_law_305 : decode cL_law 305 = .ok (.iload 14, 2) := by decide +kernel
theorem dL_law_307 : decode cL_law 307 = .ok (.if_icmp .ge 258, 3) := by decide +kernel
theorem dL_law_310 : decode cL_law 310 = .ok (.aload_n 0, 1) := by decide +kernel
theorem dL_law_311 : decode cL_law 311 = .ok (.iload 11, 2) := by decide +kernel
theorem dL_law_313 : decode cL_law 313 = .ok (.iconst 1, 1) := by decide +kernel
theorem dL_law_314 : decode cL_law 314 = .ok (.iadd, 1) := by decide +kernel
theorem dL_law_315 : decode cL_law 315 = .ok (.iload 15, 2) := by decide +kernel
theorem dL_law_317 : decode cL_law 317 = .ok (.iadd, 1) := by decide +kernel
theorem dL_law_318 : decode cL_law 318 = .ok (.invokestatic 53, 3) := by decide +kernel
theorem dL_law_321 : decode cL_law 321 = .ok (.istore 16, 2) := by decide +kernel
theorem dL_law_323 : decode cL_law 323 = .ok (.iload 16, 2) := by decide +kernel
theorem dL_law_325 : decode cL_law 325 = .ok (.bipush 10, 2) := by decide +kernel
theorem dL_law_327 : decode cL_law 327 = .ok (.invokestatic 57, 3) := by decide +kernel
theorem dL_law_330 : decode cL_law 330 = .ok (.istore 17, 2) := by decide +kernel
theorem dL_law_332 : decode cL_law 332 = .ok (.iload 17, 2) := by decide +kernel
theorem dL_law_334 : decode cL_law 334 = .ok (.iconst 1, 1) := by decide +kernel
theorem dL_law_335 : decode cL_law 335 = .ok (.iadd, 1) := by decide +kernel
theorem dL_law_336 : decode cL_law 336 = .ok (.iload 16, 2) := by decide +kernel
theorem dL_law_338 : decode cL_law 338 = .ok (.iconst 4, 1) := by decide +kernel
theorem dL_law_339 : decode cL_law 339 = .ok (.ishr, 1) := by decide +kernel
theorem dL_law_340 : decode cL_law 340 = .ok (.bipush 9, 2) := by decide +kernel
theorem dL_law_342 : decode cL_law 342 = .ok (.invokestatic 57, 3) := by decide +kernel
theorem dL_law_345 : decode cL_law 345 = .ok (.iadd, 1) := by decide +kernel
theorem dL_law_346 : decode cL_law 346 = .ok (.bipush 10, 2) := by decide +kernel
theorem dL_law_348 : decode cL_law 348 = .ok (.irem, 1) := by decide +kernel
theorem dL_law_349 : decode cL_law 349 = .ok (.istore 18, 2) := by decide +kernel
theorem dL_law_351 : decode cL_law 351 = .ok (.iload 16, 2) := by decide +kernel
theorem dL_law_353 : decode cL_law 353 = .ok (.bipush 8, 2) := by decide +kernel
theorem dL_law_355 : decode cL_law 355 = .ok (.ishr, 1) := by decide +kernel
theorem dL_law_356 : decode cL_law 356 = .ok (.iconst 2, 1) := by decide +kernel
theorem dL_law_357 : decode cL_law 357 = .ok (.invokestatic 57, 3) := by decide +kernel
theorem dL_law_360 : decode cL_law 360 = .ok (.istore 19, 2) := by decide +kernel
theorem dL_law_362 : decode cL_law 362 = .ok (.aload 6, 2) := by decide +kernel
theorem dL_law_364 : decode cL_law 364 = .ok (.iload 18, 2) := by decide +kernel
theorem dL_law_366 : decode cL_law 366 = .ok (.iaload, 1) := by decide +kernel
theorem dL_law_367 : decode cL_law 367 = .ok (.aload 6, 2) := by decide +kernel
theorem dL_law_369 : decode cL_law 369 = .ok (.iload 17, 2) := by decide +kernel
theorem dL_law_371 : decode cL_law 371 = .ok (.iaload, 1) := by decide +kernel
theorem dL_law_372 : decode cL_law 372 = .ok (.isub, 1) := by decide +kernel
theorem dL_law_373 : decode cL_law 373 = .ok (.istore 20, 2) := by decide +kernel
theorem dL_law_375 : decode cL_law 375 = .ok (.aload 6, 2) := by decide +kernel
theorem dL_law_377 : decode cL_law 377 = .ok (.bipush 10, 2) := by decide +kernel
theorem dL_law_379 : decode cL_law 379 = .ok (.iload 18, 2) := by decide +kernel
theorem dL_law_381 : decode cL_law 381 = .ok (.iadd, 1) := by decide +kernel
theorem dL_law_382 : decode cL_law 382 = .ok (.iaload, 1) := by decide +kernel
theorem dL_law_383 : decode cL_law 383 = .ok (.aload 6, 2) := by decide +kernel
theorem dL_law_385 : decode cL_law 385 = .ok (.bipush 10, 2) := by decide +kernel
theorem dL_law_387 : decode cL_law 387 = .ok (.iload 17, 2) := by decide +kernel
theorem dL_law_389 : decode cL_law 389 = .ok (.iadd, 1) := by decide +kernel
theorem dL_law_390 : decode cL_law 390 = .ok (.iaload, 1) := by decide +kernel
theorem dL_law_391 : decode cL_law 391 = .ok (.isub, 1) := by decide +kernel
theorem dL_law_392 : decode cL_law 392 = .ok (.istore 21, 2) := by decide +kernel
theorem dL_law_394 : decode cL_law 394 = .ok (.iload 20, 2) := by decide +kernel
theorem dL_law_396 : decode cL_law 396 = .ok (.iload 21, 2) := by decide +kernel
theorem dL_law_398 : decode cL_law 398 = .ok (.aload 13, 2) := by decide +kernel
theorem dL_law_400 : decode cL_law 400 = .ok (.iconst 2, 1) := by decide +kernel
theorem dL_law_401 : decode cL_law 401 = .ok (.iload 19, 2) := by decide +kernel
theorem dL_law_403 : decode cL_law 403 = .ok (.imul, 1) := by decide +kernel
theorem dL_law_404 : decode cL_law 404 = .ok (.iaload, 1) := by decide +kernel
theorem dL_law_405 : decode cL_law 405 = .ok (.imul, 1) := by decide +kernel
theorem dL_law_406 : decode cL_law 406 = .ok (.bipush 100, 2) := by decide +kernel
theorem dL_law_408 : decode cL_law 408 = .ok (.idiv, 1) := by decide +kernel
theorem dL_law_409 : decode cL_law 409 = .ok (.isub, 1) := by decide +kernel
theorem dL_law_410 : decode cL_law 410 = .ok (.istore 22, 2) := by decide +kernel
theorem dL_law_412 : decode cL_law 412 = .ok (.iload 21, 2) := by decide +kernel
theorem dL_law_414 : decode cL_law 414 = .ok (.iload 20, 2) := by decide +kernel
theorem dL_law_416 : decode cL_law 416 = .ok (.aload 13, 2) := by decide +kernel
theorem dL_law_418 : decode cL_law 418 = .ok (.iconst 2, 1) := by decide +kernel
theorem dL_law_419 : decode cL_law 419 = .ok (.iload 19, 2) := by decide +kernel
theorem dL_law_421 : decode cL_law 421 = .ok (.imul, 1) := by decide +kernel
theorem dL_law_422 : decode cL_law 422 = .ok (.iaload, 1) := by decide +kernel
theorem dL_law_423 : decode cL_law 423 = .ok (.imul, 1) := by decide +kernel
theorem dL_law_424 : decode cL_law 424 = .ok (.bipush 100, 2) := by decide +kernel
theorem dL_law_426 : decode cL_law 426 = .ok (.idiv, 1) := by decide +kernel
theorem dL_law_427 : decode cL_law 427 = .ok (.iadd, 1) := by decide +kernel
theorem dL_law_428 : decode cL_law 428 = .ok (.istore 23, 2) := by decide +kernel
theorem dL_law_430 : decode cL_law 430 = .ok (.aload 12, 2) := by decide +kernel
theorem dL_law_432 : decode cL_law 432 = .ok (.iconst 4, 1) := by decide +kernel
theorem dL_law_433 : decode cL_law 433 = .ok (.iload 15, 2) := by decide +kernel
theorem dL_law_435 : decode cL_law 435 = .ok (.imul, 1) := by decide +kernel
theorem dL_law_436 : decode cL_law 436 = .ok (.iload 17, 2) := by decide +kernel
theorem dL_law_438 : decode cL_law 438 = .ok (.iastore, 1) := by decide +kernel
theorem dL_law_439 : decode cL_law 439 = .ok (.aload 12, 2) := by decide +kernel
theorem dL_law_441 : decode cL_law 441 = .ok (.iconst 4, 1) := by decide +kernel
theorem dL_law_442 : decode cL_law 442 = .ok (.iload 15, 2) := by decide +kernel
theorem dL_law_444 : decode cL_law 444 = .ok (.imul, 1) := by decide +kernel
theorem dL_law_445 : decode cL_law 445 = .ok (.iconst 1, 1) := by decide +kernel
theorem dL_law_446 : decode cL_law 446 = .ok (.iadd, 1) := by decide +kernel
theorem dL_law_447 : decode cL_law 447 = .ok (.iload 18, 2) := by decide +kernel
theorem dL_law_449 : decode cL_law 449 = .ok (.iastore, 1) := by decide +kernel
theorem dL_law_450 : decode cL_law 450 = .ok (.aload 12, 2) := by decide +kernel
theorem dL_law_452 : decode cL_law 452 = .ok (.iconst 4, 1) := by decide +kernel
theorem dL_law_453 : decode cL_law 453 = .ok (.iload 15, 2) := by decide +kernel
theorem dL_law_455 : decode cL_law 455 = .ok (.imul, 1) := by decide +kernel
theorem dL_law_456 : decode cL_law 456 = .ok (.iconst 2, 1) := by decide +kernel
theorem dL_law_457 : decode cL_law 457 = .ok (.iadd, 1) := by decide +kernel
theorem dL_law_458 : decode cL_law 458 = .ok (.iload 22, 2) := by decide +kernel
theorem dL_law_460 : decode cL_law 460 = .ok (.iload 22, 2) := by decide +kernel
theorem dL_law_462 : decode cL_law 462 = .ok (.aload 13, 2) := by decide +kernel
theorem dL_law_464 : decode cL_law 464 = .ok (.iconst 2, 1) := by decide +kernel
theorem dL_law_465 : decode cL_law 465 = .ok (.iload 19, 2) := by decide +kernel
theorem dL_law_467 : decode cL_law 467 = .ok (.imul, 1) := by decide +kernel
theorem dL_law_468 : decode cL_law 468 = .ok (.iconst 1, 1) := by decide +kernel
theorem dL_law_469 : decode cL_law 469 = .ok (.iadd, 1) := by decide +kernel
theorem dL_law_470 : decode cL_law 470 = .ok (.iaload, 1) := by decide +kernel
theorem dL_law_471 : decode cL_law 471 = .ok (.imul, 1) := by decide +kernel
theorem dL_law_472 : decode cL_law 472 = .ok (.bipush 100, 2) := by decide +kernel
theorem dL_law_474 : decode cL_law 474 = .ok (.idiv, 1) := by decide +kernel
theorem dL_law_475 : decode cL_law 475 = .ok (.iadd, 1) := by decide +kernel
theorem dL_law_476 : decode cL_law 476 = .ok (.iastore, 1) := by decide +kernel
theorem dL_law_477 : decode cL_law 477 = .ok (.aload 12, 2) := by decide +kernel
theorem dL_law_479 : decode cL_law 479 = .ok (.iconst 4, 1) := by decide +kernel
theorem dL_law_480 : decode cL_law 480 = .ok (.iload 15, 2) := by decide +kernel
theorem dL_law_482 : decode cL_law 482 = .ok (.imul, 1) := by decide +kernel
theorem dL_law_483 : decode cL_law 483 = .ok (.iconst 3, 1) := by decide +kernel
theorem dL_law_484 : decode cL_law 484 = .ok (.iadd, 1) := by decide +kernel
theorem dL_law_485 : decode cL_law 485 = .ok (.iload 23, 2) := by decide +kernel
theorem dL_law_487 : decode cL_law 487 = .ok (.iload 23, 2) := by decide +kernel
theorem dL_law_489 : decode cL_law 489 = .ok (.aload 13, 2) := by decide +kernel
theorem dL_law_491 : decode cL_law 491 = .ok (.iconst 2, 1) := by decide +kernel
theorem dL_law_492 : decode cL_law 492 = .ok (.iload 19, 2) := by decide +kernel
theorem dL_law_494 : decode cL_law 494 = .ok (.imul, 1) := by decide +kernel
theorem dL_law_495 : decode cL_law 495 = .ok (.iconst 1, 1) := by decide +kernel
theorem dL_law_496 : decode cL_law 496 = .ok (.iadd, 1) := by decide +kernel
theorem dL_law_497 : decode cL_law 497 = .ok (.iaload, 1) := by decide +kernel
theorem dL_law_498 : decode cL_law 498 = .ok (.imul, 1) := by decide +kernel
theorem dL_law_499 : decode cL_law 499 = .ok (.bipush 100, 2) := by decide +kernel
theorem dL_law_501 : decode cL_law 501 = .ok (.idiv, 1) := by decide +kernel
theorem dL_law_502 : decode cL_law 502 = .ok (.iadd, 1) := by decide +kernel
theorem dL_law_503 : decode cL_law 503 = .ok (.iastore, 1) := by decide +kernel
theorem dL_law_504 : decode cL_law 504 = .ok (.aload_n 1, 1) := by decide +kernel
theorem dL_law_505 : decode cL_law 505 = .ok (.iload 19, 2) := by decide +kernel
theorem dL_law_507 : decode cL_law 507 = .ok (.iload 17, 2) := by decide +kernel
theorem dL_law_509 : decode cL_law 509 = .ok (.iload 18, 2) := by decide +kernel
theorem dL_law_511 : decode cL_law 511 = .ok (.invokevirtual 67, 3) := by decide +kernel
theorem dL_law_514 : decode cL_law 514 = .ok (.iload 15, 2) := by decide +kernel
theorem dL_law_516 : decode cL_law 516 = .ok (.if_icmp .ne 41, 3) := by decide +kernel
theorem dL_law_519 : decode cL_law 519 = .ok (.aload_n 1, 1) := by decide +kernel
theorem dL_law_520 : decode cL_law 520 = .ok (.iload 15, 2) := by decide +kernel
theorem dL_law_522 : decode cL_law 522 = .ok (.iconst 1, 1) := by decide +kernel
theorem dL_law_523 : decode cL_law 523 = .ok (.invokevirtual 70, 3) := by decide +kernel
theorem dL_law_526 : decode cL_law 526 = .ok (.aload 12, 2) := by decide +kernel
theorem dL_law_528 : decode cL_law 528 = .ok (.iconst 4, 1) := by decide +kernel
theorem dL_law_529 : decode cL_law 529 = .ok (.iload 15, 2) := by decide +kernel
theorem dL_law_531 : decode cL_law 531 = .ok (.imul, 1) := by decide +kernel
theorem dL_law_532 : decode cL_law 532 = .ok (.iconst 2, 1) := by decide +kernel
theorem dL_law_533 : decode cL_law 533 = .ok (.iadd, 1) := by decide +kernel
theorem dL_law_534 : decode cL_law 534 = .ok (.iaload, 1) := by decide +kernel
theorem dL_law_535 : decode cL_law 535 = .ok (.if_icmp .ne 22, 3) := by decide +kernel
theorem dL_law_538 : decode cL_law 538 = .ok (.aload_n 1, 1) := by decide +kernel
theorem dL_law_539 : decode cL_law 539 = .ok (.iload 15, 2) := by decide +kernel
theorem dL_law_541 : decode cL_law 541 = .ok (.iconst 0, 1) := by decide +kernel
theorem dL_law_542 : decode cL_law 542 = .ok (.invokevirtual 70, 3) := by decide +kernel
theorem dL_law_545 : decode cL_law 545 = .ok (.aload 12, 2) := by decide +kernel
theorem dL_law_547 : decode cL_law 547 = .ok (.iconst 4, 1) := by decide +kernel
theorem dL_law_548 : decode cL_law 548 = .ok (.iload 15, 2) := by decide +kernel
theorem dL_law_550 : decode cL_law 550 = .ok (.imul, 1) := by decide +kernel
theorem dL_law_551 : decode cL_law 551 = .ok (.iconst 3, 1) := by decide +kernel
theorem dL_law_552 : decode cL_law 552 = .ok (.iadd, 1) := by decide +kernel
theorem dL_law_553 : decode cL_law 553 = .ok (.iaload, 1) := by decide +kernel
theorem dL_law_554 : decode cL_law 554 = .ok (.if_icmp .eq 5, 3) := by decide +kernel
theorem dL_law_557 : decode cL_law 557 = .ok (.iconst 0, 1) := by decide +kernel
theorem dL_law_558 : decode cL_law 558 = .ok (.ireturn, 1) := by decide +kernel
theorem dL_law_559 : decode cL_law 559 = .ok (.iinc 15 1, 3) := by decide +kernel
theorem dL_law_562 : decode cL_law 562 = .ok (.goto (-259), 3) := by decide +kernel
theorem dL_law_565 : decode cL_law 565 = .ok (.iinc 11 15, 3) := by decide +kernel
theorem dL_law_568 : decode cL_law 568 = .ok (.iconst 0, 1) := by decide +kernel
theorem dL_law_569 : decode cL_law 569 = .ok (.istore 15, 2) := by decide +kernel
theorem dL_law_571 : decode cL_law 571 = .ok (.iload 15, 2) := by decide +kernel
theorem dL_law_573 : decode cL_law 573 = .ok (.bipush 64, 2) := by decide +kernel
theorem dL_law_575 : decode cL_law 575 = .ok (.if_icmp .ge 19, 3) := by decide +kernel
theorem dL_law_578 : decode cL_law 578 = .ok (.aload 10, 2) := by decide +kernel
theorem dL_law_580 : decode cL_law 580 = .ok (.iload 15, 2) := by decide +kernel
theorem dL_law_582 : decode cL_law 582 = .ok (.iload 15, 2) := by decide +kernel
theorem dL_law_584 : decode cL_law 584 = .ok (.bipush 16, 2) := by decide +kernel
theorem dL_law_586 : decode cL_law 586 = .ok (.irem, 1) := by decide +kernel
theorem dL_law_587 : decode cL_law 587 = .ok (.iastore, 1) := by decide +kernel
theorem dL_law_588 : decode cL_law 588 = .ok (.iinc 15 1, 3) := by decide +kernel
theorem dL_law_591 : decode cL_law 591 = .ok (.goto (-20), 3) := by decide +kernel
theorem dL_law_594 : decode cL_law 594 = .ok (.iconst 0, 1) := by decide +kernel
theorem dL_law_595 : decode cL_law 595 = .ok (.istore 15, 2) := by decide +kernel
theorem dL_law_597 : decode cL_law 597 = .ok (.iconst 0, 1) := by decide +kernel
theorem dL_law_598 : decode cL_law 598 = .ok (.istore 16, 2) := by decide +kernel
theorem dL_law_600 : decode cL_law 600 = .ok (.iconst 0, 1) := by decide +kernel
theorem dL_law_601 : decode cL_law 601 = .ok (.istore 17, 2) := by decide +kernel
theorem dL_law_603 : decode cL_law 603 = .ok (.iload 17, 2) := by decide +kernel
theorem dL_law_605 : decode cL_law 605 = .ok (.bipush 30, 2) := by decide +kernel
theorem dL_law_607 : decode cL_law 607 = .ok (.if_icmp .ge 1902, 3) := by decide +kernel
theorem dL_law_610 : decode cL_law 610 = .ok (.aload_n 0, 1) := by decide +kernel
theorem dL_law_611 : decode cL_law 611 = .ok (.iload 11, 2) := by decide +kernel
theorem dL_law_613 : decode cL_law 613 = .ok (.invokestatic 53, 3) := by decide +kernel
theorem dL_law_616 : decode cL_law 616 = .ok (.istore 18, 2) := by decide +kernel
theorem dL_law_618 : decode cL_law 618 = .ok (.aload_n 0, 1) := by decide +kernel
theorem dL_law_619 : decode cL_law 619 = .ok (.iload 11, 2) := by decide +kernel
theorem dL_law_621 : decode cL_law 621 = .ok (.iconst 1, 1) := by decide +kernel
theorem dL_law_622 : decode cL_law 622 = .ok (.iadd, 1) := by decide +kernel
theorem dL_law_623 : decode cL_law 623 = .ok (.invokestatic 53, 3) := by decide +kernel
theorem dL_law_626 : decode cL_law 626 = .ok (.istore 19, 2) := by decide +kernel
theorem dL_law_628 : decode cL_law 628 = .ok (.iinc 11 2, 3) := by decide +kernel
theorem dL_law_631 : decode cL_law 631 = .ok (.iload 18, 2) := by decide +kernel
theorem dL_law_633 : decode cL_law 633 = .ok (.bipush 9, 2) := by decide +kernel
theorem dL_law_635 : decode cL_law 635 = .ok (.invokestatic 57, 3) := by decide +kernel
theorem dL_law_638 : decode cL_law 638 = .ok (.istore 20, 2) := by decide +kernel
theorem dL_law_640 : decode cL_law 640 = .ok (.iload 15, 2) := by decide +kernel
theorem dL_law_642 : decode cL_law 642 = .ok (.ifCond .ne 7, 3) := by decide +kernel
theorem dL_law_645 : decode cL_law 645 = .ok (.iconst 0, 1) := by decide +kernel
theorem dL_law_646 : decode cL_law 646 = .ok (.goto 12, 3) := by decide +kernel
theorem dL_law_649 : decode cL_law 649 = .ok (.iload 18, 2) := by decide +kernel
theorem dL_law_651 : decode cL_law 651 = .ok (.iconst 4, 1) := by decide +kernel
theorem dL_law_652 : decode cL_law 652 = .ok (.ishr, 1) := by decide +kernel
theorem dL_law_653 : decode cL_law 653 = .ok (.iload 15, 2) := by decide +kernel
theorem dL_law_655 : decode cL_law 655 = .ok (.invokestatic 57, 3) := by decide +kernel
theorem dL_law_658 : decode cL_law 658 = .ok (.istore 21, 2) := by decide +kernel
theorem dL_law_660 : decode cL_law 660 = .ok (.iload 15, 2) := by decide +kernel
theorem dL_law_662 : decode cL_law 662 = .ok (.ifCond .eq 14, 3) := by decide +kernel
theorem dL_law_665 : decode cL_law 665 = .ok (.iload 20, 2) := by decide +kernel
theorem dL_law_667 : decode cL_law 667 = .ok (.ifCond .ne 445, 3) := by decide +kernel
theorem dL_law_670 : decode cL_law 670 = .ok (.iload 15, 2) := by decide +kernel
theorem dL_law_672 : decode cL_law 672 = .ok (.iconst 5, 1) := by decide +kernel
theorem dL_law_673 : decode cL_law 673 = .ok (.if_icmp .ge 439, 3) := by decide +kernel
theorem dL_law_676 : decode cL_law 676 = .ok (.iconst 1, 1) := by decide +kernel
theorem dL_law_677 : decode cL_law 677 = .ok (.iload 19, 2) := by decide +kernel
theorem dL_law_679 : decode cL_law 679 = .ok (.iload 14, 2) := by decide +kernel
theorem dL_law_681 : decode cL_law 681 = .ok (.invokestatic 57, 3) := by decide +kernel
theorem dL_law_684 : decode cL_law 684 = .ok (.iadd, 1) := by decide +kernel
theorem dL_law_685 : decode cL_law 685 = .ok (.istore 22, 2) := by decide +kernel
theorem dL_law_687 : decode cL_law 687 = .ok (.aload_n 1, 1) := by decide +kernel
theorem dL_law_688 : decode cL_law 688 = .ok (.iload 22, 2) := by decide +kernel
theorem dL_law_690 : decode cL_law 690 = .ok (.sipush 1000, 3) := by decide +kernel
theorem dL_law_693 : decode cL_law 693 = .ok (.invokevirtual 74, 3) := by decide +kernel
theorem dL_law_696 : decode cL_law 696 = .ok (.iload 15, 2) := by decide +kernel
theorem dL_law_698 : decode cL_law 698 = .ok (.if_icmp .eq 5, 3) := by decide +kernel
theorem dL_law_701 : decode cL_law 701 = .ok (.iconst 0, 1) := by decide +kernel
theorem dL_law_702 : decode cL_law 702 = .ok (.ireturn, 1) := by decide +kernel
theorem dL_law_703 : decode cL_law 703 = .ok (.iconst 0, 1) := by decide +kernel
theorem dL_law_704 : decode cL_law 704 = .ok (.istore 23, 2) := by decide +kernel
theorem dL_law_706 : decode cL_law 706 = .ok (.iload 23, 2) := by decide +kernel
theorem dL_law_708 : decode cL_law 708 = .ok (.bipush 10, 2) := by decide +kernel
theorem dL_law_710 : decode cL_law 710 = .ok (.if_icmp .ge 50, 3) := by decide +kernel
theorem dL_law_713 : decode cL_law 713 = .ok (.aload 5, 2) := by decide +kernel
theorem dL_law_715 : decode cL_law 715 = .ok (.bipush 10, 2) := by decide +kernel
theorem dL_law_717 : decode cL_law 717 = .ok (.iload 15, 2) := by decide +kernel
theorem dL_law_719 : decode cL_law 719 = .ok (.imul, 1) := by decide +kernel
theorem dL_law_720 : decode cL_law 720 = .ok (.iload 23, 2) := by decide +kernel
theorem dL_law_722 : decode cL_law 722 = .ok (.iadd, 1) := by decide +kernel
theorem dL_law_723 : decode cL_law 723 = .ok (.iload 23, 2) := by decide +kernel
theorem dL_law_725 : decode cL_law 725 = .ok (.ifCond .ne 7, 3) := by decide +kernel
theorem dL_law_728 : decode cL_law 728 = .ok (.iconst (-1), 1) := by decide +kernel
theorem dL_law_729 : decode cL_law 729 = .ok (.goto 5, 3) := by decide +kernel
theorem dL_law_732 : decode cL_law 732 = .ok (.bipush (-2), 2) := by decide +kernel
theorem dL_law_734 : decode cL_law 734 = .ok (.iastore, 1) := by decide +kernel
theorem dL_law_735 : decode cL_law 735 = .ok (.aload 4, 2) := by decide +kernel
theorem dL_law_737 : decode cL_law 737 = .ok (.bipush 10, 2) := by decide +kernel
theorem dL_law_739 : decode cL_law 739 = .ok (.iload 15, 2) := by decide +kernel
theorem dL_law_741 : decode cL_law 741 = .ok (.imul, 1) := by decide +kernel
theorem dL_law_742 : decode cL_law 742 = .ok (.iload 23, 2) := by decide +kernel
theorem dL_law_744 : decode cL_law 744 = .ok (.iadd, 1) := by decide +kernel
theorem dL_law_745 : decode cL_law 745 = .ok (.aload 6, 2) := by decide +kernel
theorem dL_law_747 : decode cL_law 747 = .ok (.bipush 20, 2) := by decide +kernel
theorem dL_law_749 : decode cL_law 749 = .ok (.iload 23, 2) := by decide +kernel
theorem dL_law_751 : decode cL_law 751 = .ok (.iadd, 1) := by decide +kernel
theorem dL_law_752 : decode cL_law 752 = .ok (.iaload, 1) := by decide +kernel
theorem dL_law_753 : decode cL_law 753 = .ok (.iastore, 1) := by decide +kernel
theorem dL_law_754 : decode cL_law 754 = .ok (.iinc 23 1, 3) := by decide +kernel
theorem dL_law_757 : decode cL_law 757 = .ok (.goto (-51), 3) := by decide +kernel
theorem dL_law_760 : decode cL_law 760 = .ok (.aload_n 2, 1) := by decide +kernel
theorem dL_law_761 : decode cL_law 761 = .ok (.bipush 10, 2) := by decide +kernel
theorem dL_law_763 : decode cL_law 763 = .ok (.iload 15, 2) := by decide +kernel
theorem dL_law_765 : decode cL_law 765 = .ok (.imul, 1) := by decide +kernel
theorem dL_law_766 : decode cL_law 766 = .ok (.aload 6, 2) := by decide +kernel
theorem dL_law_768 : decode cL_law 768 = .ok (.iconst 0, 1) := by decide +kernel
theorem dL_law_769 : decode cL_law 769 = .ok (.iaload, 1) := by decide +kernel
theorem dL_law_770 : decode cL_law 770 = .ok (.iastore, 1) := by decide +kernel
theorem dL_law_771 : decode cL_law 771 = .ok (.aload_n 3, 1) := by decide +kernel
theorem dL_law_772 : decode cL_law 772 = .ok (.bipush 10, 2) := by decide +kernel
theorem dL_law_774 : decode cL_law 774 = .ok (.iload 15, 2) := by decide +kernel
theorem dL_law_776 : decode cL_law 776 = .ok (.imul, 1) := by decide +kernel
theorem dL_law_777 : decode cL_law 777 = .ok (.aload 6, 2) := by decide +kernel
theorem dL_law_779 : decode cL_law 779 = .ok (.bipush 10, 2) := by decide +kernel
theorem dL_law_781 : decode cL_law 781 = .ok (.iaload, 1) := by decide +kernel
theorem dL_law_782 : decode cL_law 782 = .ok (.iastore, 1) := by decide +kernel
theorem dL_law_783 : decode cL_law 783 = .ok (.aload 8, 2) := by decide +kernel
theorem dL_law_785 : decode cL_law 785 = .ok (.iload 15, 2) := by decide +kernel
theorem dL_law_787 : decode cL_law 787 = .ok (.sipush 1000, 3) := by decide +kernel
theorem dL_law_790 : decode cL_law 790 = .ok (.iastore, 1) := by decide +kernel
theorem dL_law_791 : decode cL_law 791 = .ok (.iconst 1, 1) := by decide +kernel
theorem dL_law_792 : decode cL_law 792 = .ok (.istore 23, 2) := by decide +kernel
theorem dL_law_794 : decode cL_law 794 = .ok (.iload 23, 2) := by decide +kernel
theorem dL_law_796 : decode cL_law 796 = .ok (.ifCond .eq 310, 3) := by decide +kernel
theorem dL_law_799 : decode cL_law 799 = .ok (.bipush 32, 2) := by decide +kernel
theorem dL_law_801 : decode cL_law 801 = .ok (.newarray .int, 2) := by decide +kernel
theorem dL_law_803 : decode cL_law 803 = .ok (.astore 24, 2) := by decide +kernel
theorem dL_law_805 : decode cL_law 805 = .ok (.iconst 0, 1) := by decide +kernel
theorem dL_law_806 : decode cL_law 806 = .ok (.istore 23, 2) := by decide +kernel
theorem dL_law_808 : decode cL_law 808 = .ok (.iconst 0, 1) := by decide +kernel
theorem dL_law_809 : decode cL_law 809 = .ok (.istore 25, 2) := by decide +kernel
theorem dL_law_811 : decode cL_law 811 = .ok (.iload 25, 2) := by decide +kernel
theorem dL_law_813 : decode cL_law 813 = .ok (.iload 22, 2) := by decide +kernel
theorem dL_law_815 : decode cL_law 815 = .ok (.if_icmp .ge 192, 3) := by decide +kernel
theorem dL_law_818 : decode cL_law 818 = .ok (.iconst 0, 1) := by decide +kernel
theorem dL_law_819 : decode cL_law 819 = .ok (.istore 26, 2) := by decide +kernel
theorem dL_law_821 : decode cL_law 821 = .ok (.iload 26, 2) := by decide +kernel
theorem dL_law_823 : decode cL_law 823 = .ok (.iconst 2, 1) := by decide +kernel
theorem dL_law_824 : decode cL_law 824 = .ok (.if_icmp .ge 177, 3) := by decide +kernel
theorem dL_law_827 : decode cL_law 827 = .ok (.aload 12, 2) := by decide +kernel
theorem dL_law_829 : decode cL_law 829 = .ok (.iconst 4, 1) := by decide +kernel
theorem dL_law_830 : decode cL_law 830 = .ok (.iload 25, 2) := by decide +kernel
theorem dL_law_832 : decode cL_law 832 = .ok (.imul, 1) := by decide +kernel
theorem dL_law_833 : decode cL_law 833 = .ok (.iload 26, 2) := by decide +kernel
theorem dL_law_835 : decode cL_law 835 = .ok (.iadd, 1) := by decide +kernel
theorem dL_law_836 : decode cL_law 836 = .ok (.iaload, 1) := by decide +kernel
theorem dL_law_837 : decode cL_law 837 = .ok (.istore 27, 2) := by decide +kernel
theorem dL_law_839 : decode cL_law 839 = .ok (.aload 12, 2) := by decide +kernel
theorem dL_law_841 : decode cL_law 841 = .ok (.iconst 4, 1) := by decide +kernel
theorem dL_law_842 : decode cL_law 842 = .ok (.iload 25, 2) := by decide +kernel
theorem dL_law_844 : decode cL_law 844 = .ok (.imul, 1) := by decide +kernel
theorem dL_law_845 : decode cL_law 845 = .ok (.iconst 1, 1) := by decide +kernel
theorem dL_law_846 : decode cL_law 846 = .ok (.iadd, 1) := by decide +kernel
theorem dL_law_847 : decode cL_law 847 = .ok (.iload 26, 2) := by decide +kernel
theorem dL_law_849 : decode cL_law 849 = .ok (.isub, 1) := by decide +kernel
theorem dL_law_850 : decode cL_law 850 = .ok (.iaload, 1) := by decide +kernel
theorem dL_law_851 : decode cL_law 851 = .ok (.istore 28, 2) := by decide +kernel
theorem dL_law_853 : decode cL_law 853 = .ok (.aload 5, 2) := by decide +kernel
theorem dL_law_855 : decode cL_law 855 = .ok (.bipush 10, 2) := by decide +kernel
theorem dL_law_857 : decode cL_law 857 = .ok (.iload 15, 2) := by decide +kernel
theorem dL_law_859 : decode cL_law 859 = .ok (.imul, 1) := by decide +kernel
theorem dL_law_860 : decode cL_law 860 = .ok (.iload 27, 2) := by decide +kernel
theorem dL_law_862 : decode cL_law 862 = .ok (.iadd, 1) := by decide +kernel
theorem dL_law_863 : decode cL_law 863 = .ok (.iaload, 1) := by decide +kernel
theorem dL_law_864 : decode cL_law 864 = .ok (.bipush (-2), 2) := by decide +kernel
theorem dL_law_866 : decode cL_law 866 = .ok (.if_icmp .eq 129, 3) := by decide +kernel
theorem dL_law_869 : decode cL_law 869 = .ok (.aload 5, 2) := by decide +kernel
theorem dL_law_871 : decode cL_law 871 = .ok (.bipush 10, 2) := by decide +kernel
theorem dL_law_873 : decode cL_law 873 = .ok (.iload 15, 2) := by decide +kernel
theorem dL_law_875 : decode cL_law 875 = .ok (.imul, 1) := by decide +kernel
theorem dL_law_876 : decode cL_law 876 = .ok (.iload 28, 2) := by decide +kernel
theorem dL_law_878 : decode cL_law 878 = .ok (.iadd, 1) := by decide +kernel
theorem dL_law_879 : decode cL_law 879 = .ok (.iaload, 1) := by decide +kernel
theorem dL_law_880 : decode cL_law 880 = .ok (.bipush (-2), 2) := by decide +kernel
theorem dL_law_882 : decode cL_law 882 = .ok (.if_icmp .le 6, 3) := by decide +kernel
theorem dL_law_885 : decode cL_law 885 = .ok (.goto 110, 3) := by decide +kernel
theorem dL_law_888 : decode cL_law 888 = .ok (.aload 24, 2) := by decide +kernel
theorem dL_law_890 : decode cL_law 890 = .ok (.iload 28, 2) := by decide +kernel
theorem dL_law_892 : decode cL_law 892 = .ok (.dup2, 1) := by decide +kernel
theorem dL_law_893 : decode cL_law 893 = .ok (.iaload, 1) := by decide +kernel
theorem dL_law_894 : decode cL_law 894 = .ok (.aload_n 2, 1) := by decide +kernel
theorem dL_law_895 : decode cL_law 895 = .ok (.bipush 10, 2) := by decide +kernel
theorem dL_law_897 : decode cL_law 897 = .ok (.iload 15, 2) := by decide +kernel
theorem dL_law_899 : decode cL_law 899 = .ok (.imul, 1) := by decide +kernel
theorem dL_law_900 : decode cL_law 900 = .ok (.iload 27, 2) := by decide +kernel
theorem dL_law_902 : decode cL_law 902 = .ok (.iadd, 1) := by decide +kernel
theorem dL_law_903 : decode cL_law 903 = .ok (.iaload, 1) := by decide +kernel
theorem dL_law_904 : decode cL_law 904 = .ok (.iload 26, 2) := by decide +kernel
theorem dL_law_906 : decode cL_law 906 = .ok (.ifCond .ne 15, 3) := by decide +kernel
theorem dL_law_909 : decode cL_law 909 = .ok (.aload 12, 2) := by decide +kernel
theorem dL_law_911 : decode cL_law 911 = .ok (.iconst 4, 1) := by decide +kernel
theorem dL_law_912 : decode cL_law 912 = .ok (.iload 25, 2) := by decide +kernel
theorem dL_law_914 : decode cL_law 914 = .ok (.imul, 1) := by decide +kernel
theorem dL_law_915 : decode cL_law 915 = .ok (.iconst 2, 1) := by decide +kernel
theorem dL_law_916 : decode cL_law 916 = .ok (.iadd, 1) := by decide +kernel
theorem dL_law_917 : decode cL_law 917 = .ok (.iaload, 1) := by decide +kernel
theorem dL_law_918 : decode cL_law 918 = .ok (.goto 13, 3) := by decide +kernel
theorem dL_law_921 : decode cL_law 921 = .ok (.aload 12, 2) := by decide +kernel
theorem dL_law_923 : decode cL_law 923 = .ok (.iconst 4, 1) := by decide +kernel
theorem dL_law_924 : decode cL_law 924 = .ok (.iload 25, 2) := by decide +kernel
theorem dL_law_926 : decode cL_law 926 = .ok (.imul, 1) := by decide +kernel
theorem dL_law_927 : decode cL_law 927 = .ok (.iconst 2, 1) := by decide +kernel
theorem dL_law_928 : decode cL_law 928 = .ok (.iadd, 1) := by decide +kernel
theorem dL_law_929 : decode cL_law 929 = .ok (.iaload, 1) := by decide +kernel
theorem dL_law_930 : decode cL_law 930 = .ok (.ineg, 1) := by decide +kernel
theorem dL_law_931 : decode cL_law 931 = .ok (.iadd, 1) := by decide +kernel
theorem dL_law_932 : decode cL_law 932 = .ok (.iadd, 1) := by decide +kernel
theorem dL_law_933 : decode cL_law 933 = .ok (.iastore, 1) := by decide +kernel
theorem dL_law_934 : decode cL_law 934 = .ok (.aload 24, 2) := by decide +kernel
theorem dL_law_936 : decode cL_law 936 = .ok (.bipush 10, 2) := by decide +kernel
theorem dL_law_938 : decode cL_law 938 = .ok (.iload 28, 2) := by decide +kernel
theorem dL_law_940 : decode cL_law 940 = .ok (.iadd, 1) := by decide +kernel
theorem dL_law_941 : decode cL_law 941 = .ok (.dup2, 1) := by decide +kernel
theorem dL_law_942 : decode cL_law 942 = .ok (.iaload, 1) := by decide +kernel
theorem dL_law_943 : decode cL_law 943 = .ok (.aload_n 3, 1) := by decide +kernel
theorem dL_law_944 : decode cL_law 944 = .ok (.bipush 10, 2) := by decide +kernel
theorem dL_law_946 : decode cL_law 946 = .ok (.iload 15, 2) := by decide +kernel
theorem dL_law_948 : decode cL_law 948 = .ok (.imul, 1) := by decide +kernel
theorem dL_law_949 : decode cL_law 949 = .ok (.iload 27, 2) := by decide +kernel
theorem dL_law_951 : decode cL_law 951 = .ok (.iadd, 1) := by decide +kernel
theorem dL_law_952 : decode cL_law 952 = .ok (.iaload, 1) := by decide +kernel
theorem dL_law_953 : decode cL_law 953 = .ok (.iload 26, 2) := by decide +kernel
theorem dL_law_955 : decode cL_law 955 = .ok (.ifCond .ne 15, 3) := by decide +kernel
theorem dL_law_958 : decode cL_law 958 = .ok (.aload 12, 2) := by decide +kernel
theorem dL_law_960 : decode cL_law 960 = .ok (.iconst 4, 1) := by decide +kernel
theorem dL_law_961 : decode cL_law 961 = .ok (.iload 25, 2) := by decide +kernel
theorem dL_law_963 : decode cL_law 963 = .ok (.imul, 1) := by decide +kernel
theorem dL_law_964 : decode cL_law 964 = .ok (.iconst 3, 1) := by decide +kernel
theorem dL_law_965 : decode cL_law 965 = .ok (.iadd, 1) := by decide +kernel
theorem dL_law_966 : decode cL_law 966 = .ok (.iaload, 1) := by decide +kernel
theorem dL_law_967 : decode cL_law 967 = .ok (.goto 13, 3) := by decide +kernel
theorem dL_law_970 : decode cL_law 970 = .ok (.aload 12, 2) := by decide +kernel
theorem dL_law_972 : decode cL_law 972 = .ok (.iconst 4, 1) := by decide +kernel
theorem dL_law_973 : decode cL_law 973 = .ok (.iload 25, 2) := by decide +kernel
theorem dL_law_975 : decode cL_law 975 = .ok (.imul, 1) := by decide +kernel
theorem dL_law_976 : decode cL_law 976 = .ok (.iconst 3, 1) := by decide +kernel
theorem dL_law_977 : decode cL_law 977 = .ok (.iadd, 1) := by decide +kernel
theorem dL_law_978 : decode cL_law 978 = .ok (.iaload, 1) := by decide +kernel
theorem dL_law_979 : decode cL_law 979 = .ok (.ineg, 1) := by decide +kernel
theorem dL_law_980 : decode cL_law 980 = .ok (.iadd, 1) := by decide +kernel
theorem dL_law_981 : decode cL_law 981 = .ok (.iadd, 1) := by decide +kernel
theorem dL_law_982 : decode cL_law 982 = .ok (.iastore, 1) := by decide +kernel
theorem dL_law_983 : decode cL_law 983 = .ok (.aload 24, 2) := by decide +kernel
theorem dL_law_985 : decode cL_law 985 = .ok (.bipush 20, 2) := by decide +kernel
theorem dL_law_987 : decode cL_law 987 = .ok (.iload 28, 2) := by decide +kernel
theorem dL_law_989 : decode cL_law 989 = .ok (.iadd, 1) := by decide +kernel
theorem dL_law_990 : decode cL_law 990 = .ok (.dup2, 1) := by decide +kernel
theorem dL_law_991 : decode cL_law 991 = .ok (.iaload, 1) := by decide +kernel
theorem dL_law_992 : decode cL_law 992 = .ok (.iconst 1, 1) := by decide +kernel
theorem dL_law_993 : decode cL_law 993 = .ok (.iadd, 1) := by decide +kernel
theorem dL_law_994 : decode cL_law 994 = .ok (.iastore, 1) := by decide +kernel
theorem dL_law_995 : decode cL_law 995 = .ok (.iinc 26 1, 3) := by decide +kernel
theorem dL_law_998 : decode cL_law 998 = .ok (.goto (-177), 3) := by decide +kernel
