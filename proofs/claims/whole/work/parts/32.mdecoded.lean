theorem dM_shape_0 : decode cM_shape 0 = .ok (.iload_n 0, 1) := by decide +kernel
theorem dM_shape_1 : decode cM_shape 1 = .ok (.bipush 16, 2) := by decide +kernel
theorem dM_shape_3 : decode cM_shape 3 = .ok (.imul, 1) := by decide +kernel
theorem dM_shape_4 : decode cM_shape 4 = .ok (.iload_n 1, 1) := by decide +kernel
theorem dM_shape_5 : decode cM_shape 5 = .ok (.iconst 4, 1) := by decide +kernel
theorem dM_shape_6 : decode cM_shape 6 = .ok (.imul, 1) := by decide +kernel
theorem dM_shape_7 : decode cM_shape 7 = .ok (.iadd, 1) := by decide +kernel
theorem dM_shape_8 : decode cM_shape 8 = .ok (.iload_n 2, 1) := by decide +kernel
theorem dM_shape_9 : decode cM_shape 9 = .ok (.iadd, 1) := by decide +kernel
theorem dM_shape_10 : decode cM_shape 10 = .ok (.ireturn, 1) := by decide +kernel
theorem dM_taken_0 : decode cM_taken 0 = .ok (.iload_n 0, 1) := by decide +kernel
theorem dM_taken_1 : decode cM_taken 1 = .ok (.sipush 199, 3) := by decide +kernel
theorem dM_taken_4 : decode cM_taken 4 = .ok (.if_icmp .le 15, 3) := by decide +kernel
theorem dM_taken_7 : decode cM_taken 7 = .ok (.iload_n 0, 1) := by decide +kernel
theorem dM_taken_8 : decode cM_taken 8 = .ok (.iconst 2, 1) := by decide +kernel
theorem dM_taken_9 : decode cM_taken 9 = .ok (.iand, 1) := by decide +kernel
theorem dM_taken_10 : decode cM_taken 10 = .ok (.ifCond .ne 7, 3) := by decide +kernel
theorem dM_taken_13 : decode cM_taken 13 = .ok (.iconst 2, 1) := by decide +kernel
theorem dM_taken_14 : decode cM_taken 14 = .ok (.goto 4, 3) := by decide +kernel
theorem dM_taken_17 : decode cM_taken 17 = .ok (.iconst 3, 1) := by decide +kernel
theorem dM_taken_18 : decode cM_taken 18 = .ok (.ireturn, 1) := by decide +kernel
theorem dM_taken_19 : decode cM_taken 19 = .ok (.iload_n 0, 1) := by decide +kernel
theorem dM_taken_20 : decode cM_taken 20 = .ok (.tableswitch 142 167 196 #[136, 138, 138, 140, 140, 142, 142, 138, 138, 140, 140, 142, 142, 136, 136, 140, 142, 142, 136, 136, 138, 138, 140, 142, 136, 142, 142, 136, 136, 136], 136) := by decide +kernel
theorem dM_taken_156 : decode cM_taken 156 = .ok (.iconst 1, 1) := by decide +kernel
theorem dM_taken_157 : decode cM_taken 157 = .ok (.ireturn, 1) := by decide +kernel
theorem dM_taken_158 : decode cM_taken 158 = .ok (.iconst 2, 1) := by decide +kernel
theorem dM_taken_159 : decode cM_taken 159 = .ok (.ireturn, 1) := by decide +kernel
theorem dM_taken_160 : decode cM_taken 160 = .ok (.iconst 3, 1) := by decide +kernel
theorem dM_taken_161 : decode cM_taken 161 = .ok (.ireturn, 1) := by decide +kernel
theorem dM_taken_162 : decode cM_taken 162 = .ok (.iconst 0, 1) := by decide +kernel
theorem dM_taken_163 : decode cM_taken 163 = .ok (.ireturn, 1) := by decide +kernel
theorem dM_given_0 : decode cM_given 0 = .ok (.iload_n 0, 1) := by decide +kernel
theorem dM_given_1 : decode cM_given 1 = .ok (.sipush 199, 3) := by decide +kernel
theorem dM_given_4 : decode cM_given 4 = .ok (.if_icmp .le 16, 3) := by decide +kernel
theorem dM_given_7 : decode cM_given 7 = .ok (.iload_n 0, 1) := by decide +kernel
theorem dM_given_8 : decode cM_given 8 = .ok (.sipush 204, 3) := by decide +kernel
theorem dM_given_11 : decode cM_given 11 = .ok (.if_icmp .ge 7, 3) := by decide +kernel
theorem dM_given_14 : decode cM_given 14 = .ok (.iconst 0, 1) := by decide +kernel
theorem dM_given_15 : decode cM_given 15 = .ok (.goto 4, 3) := by decide +kernel
theorem dM_given_18 : decode cM_given 18 = .ok (.iconst 1, 1) := by decide +kernel
theorem dM_given_19 : decode cM_given 19 = .ok (.ireturn, 1) := by decide +kernel
theorem dM_given_20 : decode cM_given 20 = .ok (.iload_n 0, 1) := by decide +kernel
theorem dM_given_21 : decode cM_given 21 = .ok (.sipush 172, 3) := by decide +kernel
theorem dM_given_24 : decode cM_given 24 = .ok (.if_icmp .lt 24, 3) := by decide +kernel
theorem dM_given_27 : decode cM_given 27 = .ok (.iload_n 0, 1) := by decide +kernel
theorem dM_given_28 : decode cM_given 28 = .ok (.sipush 188, 3) := by decide +kernel
theorem dM_given_31 : decode cM_given 31 = .ok (.if_icmp .eq 17, 3) := by decide +kernel
theorem dM_given_34 : decode cM_given 34 = .ok (.iload_n 0, 1) := by decide +kernel
theorem dM_given_35 : decode cM_given 35 = .ok (.sipush 192, 3) := by decide +kernel
theorem dM_given_38 : decode cM_given 38 = .ok (.if_icmp .eq 10, 3) := by decide +kernel
theorem dM_given_41 : decode cM_given 41 = .ok (.iload_n 0, 1) := by decide +kernel
theorem dM_given_42 : decode cM_given 42 = .ok (.sipush 193, 3) := by decide +kernel
theorem dM_given_45 : decode cM_given 45 = .ok (.if_icmp .ne 5, 3) := by decide +kernel
theorem dM_given_48 : decode cM_given 48 = .ok (.iconst 0, 1) := by decide +kernel
theorem dM_given_49 : decode cM_given 49 = .ok (.ireturn, 1) := by decide +kernel
theorem dM_given_50 : decode cM_given 50 = .ok (.iload_n 0, 1) := by decide +kernel
theorem dM_given_51 : decode cM_given 51 = .ok (.sipush 178, 3) := by decide +kernel
theorem dM_given_54 : decode cM_given 54 = .ok (.if_icmp .lt 17, 3) := by decide +kernel
theorem dM_given_57 : decode cM_given 57 = .ok (.iload_n 0, 1) := by decide +kernel
theorem dM_given_58 : decode cM_given 58 = .ok (.sipush 189, 3) := by decide +kernel
theorem dM_given_61 : decode cM_given 61 = .ok (.if_icmp .eq 10, 3) := by decide +kernel
theorem dM_given_64 : decode cM_given 64 = .ok (.iload_n 0, 1) := by decide +kernel
theorem dM_given_65 : decode cM_given 65 = .ok (.sipush 193, 3) := by decide +kernel
theorem dM_given_68 : decode cM_given 68 = .ok (.if_icmp .le 5, 3) := by decide +kernel
theorem dM_given_71 : decode cM_given 71 = .ok (.iconst 1, 1) := by decide +kernel
theorem dM_given_72 : decode cM_given 72 = .ok (.ireturn, 1) := by decide +kernel
theorem dM_given_73 : decode cM_given 73 = .ok (.iload_n 0, 1) := by decide +kernel
theorem dM_given_74 : decode cM_given 74 = .ok (.sipush 183, 3) := by decide +kernel
theorem dM_given_77 : decode cM_given 77 = .ok (.if_icmp .lt 10, 3) := by decide +kernel
theorem dM_given_80 : decode cM_given 80 = .ok (.iload_n 0, 1) := by decide +kernel
theorem dM_given_81 : decode cM_given 81 = .ok (.sipush 190, 3) := by decide +kernel
theorem dM_given_84 : decode cM_given 84 = .ok (.if_icmp .ne 7, 3) := by decide +kernel
theorem dM_given_87 : decode cM_given 87 = .ok (.iconst 2, 1) := by decide +kernel
theorem dM_given_88 : decode cM_given 88 = .ok (.goto 4, 3) := by decide +kernel
theorem dM_given_91 : decode cM_given 91 = .ok (.iconst 3, 1) := by decide +kernel
theorem dM_given_92 : decode cM_given 92 = .ok (.ireturn, 1) := by decide +kernel
theorem dM_operatorShape_0 : decode cM_operatorShape 0 = .ok (.iload_n 0, 1) := by decide +kernel
theorem dM_operatorShape_1 : decode cM_operatorShape 1 = .ok (.bipush 69, 2) := by decide +kernel
theorem dM_operatorShape_3 : decode cM_operatorShape 3 = .ok (.if_icmp .lt 24, 3) := by decide +kernel
theorem dM_operatorShape_6 : decode cM_operatorShape 6 = .ok (.iload_n 0, 1) := by decide +kernel
theorem dM_operatorShape_7 : decode cM_operatorShape 7 = .ok (.sipush 207, 3) := by decide +kernel
theorem dM_operatorShape_10 : decode cM_operatorShape 10 = .ok (.if_icmp .gt 17, 3) := by decide +kernel
theorem dM_operatorShape_13 : decode cM_operatorShape 13 = .ok (.iload_n 0, 1) := by decide +kernel
theorem dM_operatorShape_14 : decode cM_operatorShape 14 = .ok (.sipush 196, 3) := by decide +kernel
theorem dM_operatorShape_17 : decode cM_operatorShape 17 = .ok (.if_icmp .le 12, 3) := by decide +kernel
theorem dM_operatorShape_20 : decode cM_operatorShape 20 = .ok (.iload_n 0, 1) := by decide +kernel
theorem dM_operatorShape_21 : decode cM_operatorShape 21 = .ok (.sipush 200, 3) := by decide +kernel
theorem dM_operatorShape_24 : decode cM_operatorShape 24 = .ok (.if_icmp .ge 5, 3) := by decide +kernel
theorem dM_operatorShape_27 : decode cM_operatorShape 27 = .ok (.iconst (-1), 1) := by decide +kernel
theorem dM_operatorShape_28 : decode cM_operatorShape 28 = .ok (.ireturn, 1) := by decide +kernel
theorem dM_operatorShape_29 : decode cM_operatorShape 29 = .ok (.iload_n 0, 1) := by decide +kernel
theorem dM_operatorShape_30 : decode cM_operatorShape 30 = .ok (.bipush 81, 2) := by decide +kernel
theorem dM_operatorShape_32 : decode cM_operatorShape 32 = .ok (.if_icmp .ge 35, 3) := by decide +kernel
theorem dM_operatorShape_35 : decode cM_operatorShape 35 = .ok (.iload_n 0, 1) := by decide +kernel
theorem dM_operatorShape_36 : decode cM_operatorShape 36 = .ok (.bipush 80, 2) := by decide +kernel
theorem dM_operatorShape_38 : decode cM_operatorShape 38 = .ok (.if_icmp .ge 22, 3) := by decide +kernel
theorem dM_operatorShape_41 : decode cM_operatorShape 41 = .ok (.iload_n 0, 1) := by decide +kernel
theorem dM_operatorShape_42 : decode cM_operatorShape 42 = .ok (.bipush 69, 2) := by decide +kernel
theorem dM_operatorShape_44 : decode cM_operatorShape 44 = .ok (.if_icmp .ne 7, 3) := by decide +kernel
theorem dM_operatorShape_47 : decode cM_operatorShape 47 = .ok (.iconst 1, 1) := by decide +kernel
theorem dM_operatorShape_48 : decode cM_operatorShape 48 = .ok (.goto 4, 3) := by decide +kernel
theorem dM_operatorShape_51 : decode cM_operatorShape 51 = .ok (.iconst 2, 1) := by decide +kernel
theorem dM_operatorShape_52 : decode cM_operatorShape 52 = .ok (.iconst 0, 1) := by decide +kernel
theorem dM_operatorShape_53 : decode cM_operatorShape 53 = .ok (.iconst 0, 1) := by decide +kernel
theorem dM_operatorShape_54 : decode cM_operatorShape 54 = .ok (.invokestatic 30, 3) := by decide +kernel
theorem dM_operatorShape_57 : decode cM_operatorShape 57 = .ok (.goto 9, 3) := by decide +kernel
theorem dM_operatorShape_60 : decode cM_operatorShape 60 = .ok (.iconst 1, 1) := by decide +kernel
theorem dM_operatorShape_61 : decode cM_operatorShape 61 = .ok (.iconst 1, 1) := by decide +kernel
theorem dM_operatorShape_62 : decode cM_operatorShape 62 = .ok (.iconst 0, 1) := by decide +kernel
theorem dM_operatorShape_63 : decode cM_operatorShape 63 = .ok (.invokestatic 30, 3) := by decide +kernel
theorem dM_operatorShape_66 : decode cM_operatorShape 66 = .ok (.ireturn, 1) := by decide +kernel
theorem dM_operatorShape_67 : decode cM_operatorShape 67 = .ok (.iload_n 0, 1) := by decide +kernel
theorem dM_operatorShape_68 : decode cM_operatorShape 68 = .ok (.bipush 103, 2) := by decide +kernel
theorem dM_operatorShape_70 : decode cM_operatorShape 70 = .ok (.if_icmp .ge 30, 3) := by decide +kernel
theorem dM_operatorShape_73 : decode cM_operatorShape 73 = .ok (.iconst 2, 1) := by decide +kernel
theorem dM_operatorShape_74 : decode cM_operatorShape 74 = .ok (.iload_n 0, 1) := by decide +kernel
theorem dM_operatorShape_75 : decode cM_operatorShape 75 = .ok (.bipush 91, 2) := by decide +kernel
theorem dM_operatorShape_77 : decode cM_operatorShape 77 = .ok (.if_icmp .ge 7, 3) := by decide +kernel
theorem dM_operatorShape_80 : decode cM_operatorShape 80 = .ok (.iconst 1, 1) := by decide +kernel
theorem dM_operatorShape_81 : decode cM_operatorShape 81 = .ok (.goto 14, 3) := by decide +kernel
theorem dM_operatorShape_84 : decode cM_operatorShape 84 = .ok (.iload_n 0, 1) := by decide +kernel
theorem dM_operatorShape_85 : decode cM_operatorShape 85 = .ok (.bipush 97, 2) := by decide +kernel
theorem dM_operatorShape_87 : decode cM_operatorShape 87 = .ok (.if_icmp .ge 7, 3) := by decide +kernel
theorem dM_operatorShape_90 : decode cM_operatorShape 90 = .ok (.iconst 2, 1) := by decide +kernel
theorem dM_operatorShape_91 : decode cM_operatorShape 91 = .ok (.goto 4, 3) := by decide +kernel
theorem dM_operatorShape_94 : decode cM_operatorShape 94 = .ok (.iconst 3, 1) := by decide +kernel
theorem dM_operatorShape_95 : decode cM_operatorShape 95 = .ok (.iconst 0, 1) := by decide +kernel
theorem dM_operatorShape_96 : decode cM_operatorShape 96 = .ok (.invokestatic 30, 3) := by decide +kernel
theorem dM_operatorShape_99 : decode cM_operatorShape 99 = .ok (.ireturn, 1) := by decide +kernel
theorem dM_operatorShape_100 : decode cM_operatorShape 100 = .ok (.iload_n 0, 1) := by decide +kernel
theorem dM_operatorShape_101 : decode cM_operatorShape 101 = .ok (.sipush 139, 3) := by decide +kernel
theorem dM_operatorShape_104 : decode cM_operatorShape 104 = .ok (.if_icmp .ge 45, 3) := by decide +kernel
theorem dM_operatorShape_107 : decode cM_operatorShape 107 = .ok (.iload_n 0, 1) := by decide +kernel
theorem dM_operatorShape_108 : decode cM_operatorShape 108 = .ok (.bipush 103, 2) := by decide +kernel
theorem dM_operatorShape_110 : decode cM_operatorShape 110 = .ok (.isub, 1) := by decide +kernel
theorem dM_operatorShape_111 : decode cM_operatorShape 111 = .ok (.bipush 18, 2) := by decide +kernel
theorem dM_operatorShape_113 : decode cM_operatorShape 113 = .ok (.irem, 1) := by decide +kernel
theorem dM_operatorShape_114 : decode cM_operatorShape 114 = .ok (.iconst 3, 1) := by decide +kernel
theorem dM_operatorShape_115 : decode cM_operatorShape 115 = .ok (.if_icmp .ge 7, 3) := by decide +kernel
theorem dM_operatorShape_118 : decode cM_operatorShape 118 = .ok (.iconst 1, 1) := by decide +kernel
theorem dM_operatorShape_119 : decode cM_operatorShape 119 = .ok (.goto 4, 3) := by decide +kernel
theorem dM_operatorShape_122 : decode cM_operatorShape 122 = .ok (.iconst 2, 1) := by decide +kernel
theorem dM_operatorShape_123 : decode cM_operatorShape 123 = .ok (.iload_n 0, 1) := by decide +kernel
theorem dM_operatorShape_124 : decode cM_operatorShape 124 = .ok (.bipush 121, 2) := by decide +kernel
theorem dM_operatorShape_126 : decode cM_operatorShape 126 = .ok (.if_icmp .ge 7, 3) := by decide +kernel
theorem dM_operatorShape_129 : decode cM_operatorShape 129 = .ok (.iconst 0, 1) := by decide +kernel
theorem dM_operatorShape_130 : decode cM_operatorShape 130 = .ok (.goto 4, 3) := by decide +kernel
theorem dM_operatorShape_133 : decode cM_operatorShape 133 = .ok (.iconst 1, 1) := by decide +kernel
theorem dM_operatorShape_134 : decode cM_operatorShape 134 = .ok (.iload_n 0, 1) := by decide +kernel
theorem dM_operatorShape_135 : decode cM_operatorShape 135 = .ok (.bipush 121, 2) := by decide +kernel
theorem dM_operatorShape_137 : decode cM_operatorShape 137 = .ok (.if_icmp .ge 7, 3) := by decide +kernel
theorem dM_operatorShape_140 : decode cM_operatorShape 140 = .ok (.iconst 0, 1) := by decide +kernel
theorem dM_operatorShape_141 : decode cM_operatorShape 141 = .ok (.goto 4, 3) := by decide +kernel
theorem dM_operatorShape_144 : decode cM_operatorShape 144 = .ok (.iconst 1, 1) := by decide +kernel
theorem dM_operatorShape_145 : decode cM_operatorShape 145 = .ok (.invokestatic 30, 3) := by decide +kernel
theorem dM_operatorShape_148 : decode cM_operatorShape 148 = .ok (.ireturn, 1) := by decide +kernel
theorem dM_operatorShape_149 : decode cM_operatorShape 149 = .ok (.iload_n 0, 1) := by decide +kernel
theorem dM_operatorShape_150 : decode cM_operatorShape 150 = .ok (.sipush 167, 3) := by decide +kernel
theorem dM_operatorShape_153 : decode cM_operatorShape 153 = .ok (.if_icmp .ge 49, 3) := by decide +kernel
theorem dM_operatorShape_156 : decode cM_operatorShape 156 = .ok (.iload_n 0, 1) := by decide +kernel
theorem dM_operatorShape_157 : decode cM_operatorShape 157 = .ok (.sipush 139, 3) := by decide +kernel
theorem dM_operatorShape_160 : decode cM_operatorShape 160 = .ok (.isub, 1) := by decide +kernel
theorem dM_operatorShape_161 : decode cM_operatorShape 161 = .ok (.bipush 14, 2) := by decide +kernel
theorem dM_operatorShape_163 : decode cM_operatorShape 163 = .ok (.irem, 1) := by decide +kernel
theorem dM_operatorShape_164 : decode cM_operatorShape 164 = .ok (.bipush 7, 2) := by decide +kernel
theorem dM_operatorShape_166 : decode cM_operatorShape 166 = .ok (.if_icmp .ge 7, 3) := by decide +kernel
theorem dM_operatorShape_169 : decode cM_operatorShape 169 = .ok (.iconst 1, 1) := by decide +kernel
theorem dM_operatorShape_170 : decode cM_operatorShape 170 = .ok (.goto 4, 3) := by decide +kernel
theorem dM_operatorShape_173 : decode cM_operatorShape 173 = .ok (.iconst 2, 1) := by decide +kernel
theorem dM_operatorShape_174 : decode cM_operatorShape 174 = .ok (.iload_n 0, 1) := by decide +kernel
theorem dM_operatorShape_175 : decode cM_operatorShape 175 = .ok (.sipush 153, 3) := by decide +kernel
theorem dM_operatorShape_178 : decode cM_operatorShape 178 = .ok (.if_icmp .ge 7, 3) := by decide +kernel
theorem dM_operatorShape_181 : decode cM_operatorShape 181 = .ok (.iconst 2, 1) := by decide +kernel
theorem dM_operatorShape_182 : decode cM_operatorShape 182 = .ok (.goto 4, 3) := by decide +kernel
theorem dM_operatorShape_185 : decode cM_operatorShape 185 = .ok (.iconst 3, 1) := by decide +kernel
theorem dM_operatorShape_186 : decode cM_operatorShape 186 = .ok (.iload_n 0, 1) := by decide +kernel
theorem dM_operatorShape_187 : decode cM_operatorShape 187 = .ok (.sipush 153, 3) := by decide +kernel
theorem dM_operatorShape_190 : decode cM_operatorShape 190 = .ok (.if_icmp .ge 7, 3) := by decide +kernel
theorem dM_operatorShape_193 : decode cM_operatorShape 193 = .ok (.iconst 2, 1) := by decide +kernel
theorem dM_operatorShape_194 : decode cM_operatorShape 194 = .ok (.goto 4, 3) := by decide +kernel
theorem dM_operatorShape_197 : decode cM_operatorShape 197 = .ok (.iconst 3, 1) := by decide +kernel
theorem dM_operatorShape_198 : decode cM_operatorShape 198 = .ok (.invokestatic 30, 3) := by decide +kernel
theorem dM_operatorShape_201 : decode cM_operatorShape 201 = .ok (.ireturn, 1) := by decide +kernel
theorem dM_operatorShape_202 : decode cM_operatorShape 202 = .ok (.iconst 1, 1) := by decide +kernel
theorem dM_operatorShape_203 : decode cM_operatorShape 203 = .ok (.iload_n 0, 1) := by decide +kernel
theorem dM_operatorShape_204 : decode cM_operatorShape 204 = .ok (.invokestatic 34, 3) := by decide +kernel
theorem dM_operatorShape_207 : decode cM_operatorShape 207 = .ok (.iload_n 0, 1) := by decide +kernel
theorem dM_operatorShape_208 : decode cM_operatorShape 208 = .ok (.invokestatic 38, 3) := by decide +kernel
theorem dM_operatorShape_211 : decode cM_operatorShape 211 = .ok (.invokestatic 30, 3) := by decide +kernel
theorem dM_operatorShape_214 : decode cM_operatorShape 214 = .ok (.ireturn, 1) := by decide +kernel
theorem dM_cut_0 : decode cM_cut 0 = .ok (.iload_n 0, 1) := by decide +kernel
theorem dM_cut_1 : decode cM_cut 1 = .ok (.ifCond .eq 8, 3) := by decide +kernel
theorem dM_cut_4 : decode cM_cut 4 = .ok (.iload_n 0, 1) := by decide +kernel
theorem dM_cut_5 : decode cM_cut 5 = .ok (.iconst 2, 1) := by decide +kernel
theorem dM_cut_6 : decode cM_cut 6 = .ok (.if_icmp .ne 11, 3) := by decide +kernel
theorem dM_cut_9 : decode cM_cut 9 = .ok (.lload_n 1, 1) := by decide +kernel
theorem dM_cut_10 : decode cM_cut 10 = .ok (.ldc2_w 41, 3) := by decide +kernel
theorem dM_cut_13 : decode cM_cut 13 = .ok (.land, 1) := by decide +kernel
theorem dM_cut_14 : decode cM_cut 14 = .ok (.goto 4, 3) := by decide +kernel
theorem dM_cut_17 : decode cM_cut 17 = .ok (.lload_n 1, 1) := by decide +kernel
theorem dM_cut_18 : decode cM_cut 18 = .ok (.lreturn, 1) := by decide +kernel
theorem dM_withSign_0 : decode cM_withSign 0 = .ok (.iload_n 0, 1) := by decide +kernel
theorem dM_withSign_1 : decode cM_withSign 1 = .ok (.ifCond .ne 13, 3) := by decide +kernel
theorem dM_withSign_4 : decode cM_withSign 4 = .ok (.lload_n 1, 1) := by decide +kernel
theorem dM_withSign_5 : decode cM_withSign 5 = .ok (.bipush 32, 2) := by decide +kernel
theorem dM_withSign_7 : decode cM_withSign 7 = .ok (.lshl, 1) := by decide +kernel
theorem dM_withSign_8 : decode cM_withSign 8 = .ok (.bipush 32, 2) := by decide +kernel
theorem dM_withSign_10 : decode cM_withSign 10 = .ok (.lshr, 1) := by decide +kernel
theorem dM_withSign_11 : decode cM_withSign 11 = .ok (.goto 4, 3) := by decide +kernel
theorem dM_withSign_14 : decode cM_withSign 14 = .ok (.lload_n 1, 1) := by decide +kernel
theorem dM_withSign_15 : decode cM_withSign 15 = .ok (.lreturn, 1) := by decide +kernel
theorem dM_width_0 : decode cM_width 0 = .ok (.iload_n 0, 1) := by decide +kernel
theorem dM_width_1 : decode cM_width 1 = .ok (.ifCond .eq 8, 3) := by decide +kernel
theorem dM_width_4 : decode cM_width 4 = .ok (.iload_n 0, 1) := by decide +kernel
theorem dM_width_5 : decode cM_width 5 = .ok (.iconst 2, 1) := by decide +kernel
theorem dM_width_6 : decode cM_width 6 = .ok (.if_icmp .ne 8, 3) := by decide +kernel
theorem dM_width_9 : decode cM_width 9 = .ok (.bipush 32, 2) := by decide +kernel
theorem dM_width_11 : decode cM_width 11 = .ok (.goto 5, 3) := by decide +kernel
theorem dM_width_14 : decode cM_width 14 = .ok (.bipush 64, 2) := by decide +kernel
theorem dM_width_16 : decode cM_width 16 = .ok (.ireturn, 1) := by decide +kernel
theorem dM_isBelow_0 : decode cM_isBelow 0 = .ok (.lload_n 0, 1) := by decide +kernel
theorem dM_isBelow_1 : decode cM_isBelow 1 = .ok (.ldc2_w 43, 3) := by decide +kernel
theorem dM_isBelow_4 : decode cM_isBelow 4 = .ok (.lxor, 1) := by decide +kernel
theorem dM_isBelow_5 : decode cM_isBelow 5 = .ok (.lload_n 2, 1) := by decide +kernel
theorem dM_isBelow_6 : decode cM_isBelow 6 = .ok (.ldc2_w 43, 3) := by decide +kernel
theorem dM_isBelow_9 : decode cM_isBelow 9 = .ok (.lxor, 1) := by decide +kernel
theorem dM_isBelow_10 : decode cM_isBelow 10 = .ok (.lcmp, 1) := by decide +kernel
theorem dM_isBelow_11 : decode cM_isBelow 11 = .ok (.ifCond .ge 7, 3) := by decide +kernel
theorem dM_isBelow_14 : decode cM_isBelow 14 = .ok (.iconst 1, 1) := by decide +kernel
theorem dM_isBelow_15 : decode cM_isBelow 15 = .ok (.goto 4, 3) := by decide +kernel
theorem dM_isBelow_18 : decode cM_isBelow 18 = .ok (.iconst 0, 1) := by decide +kernel
theorem dM_isBelow_19 : decode cM_isBelow 19 = .ok (.ireturn, 1) := by decide +kernel
theorem dM_truth_0 : decode cM_truth 0 = .ok (.iload_n 0, 1) := by decide +kernel
theorem dM_truth_1 : decode cM_truth 1 = .ok (.ifCond .eq 7, 3) := by decide +kernel
theorem dM_truth_4 : decode cM_truth 4 = .ok (.lconst 1, 1) := by decide +kernel
theorem dM_truth_5 : decode cM_truth 5 = .ok (.goto 4, 3) := by decide +kernel
theorem dM_truth_8 : decode cM_truth 8 = .ok (.lconst 0, 1) := by decide +kernel
theorem dM_truth_9 : decode cM_truth 9 = .ok (.lreturn, 1) := by decide +kernel
theorem dM_compareWhole_0 : decode cM_compareWhole 0 = .ok (.iload_n 1, 1) := by decide +kernel
theorem dM_compareWhole_1 : decode cM_compareWhole 1 = .ok (.lload_n 2, 1) := by decide +kernel
theorem dM_compareWhole_2 : decode cM_compareWhole 2 = .ok (.invokestatic 45, 3) := by decide +kernel
theorem dM_compareWhole_5 : decode cM_compareWhole 5 = .ok (.lstore 6, 2) := by decide +kernel
theorem dM_compareWhole_7 : decode cM_compareWhole 7 = .ok (.iload_n 1, 1) := by decide +kernel
theorem dM_compareWhole_8 : decode cM_compareWhole 8 = .ok (.lload 4, 2) := by decide +kernel
theorem dM_compareWhole_10 : decode cM_compareWhole 10 = .ok (.invokestatic 45, 3) := by decide +kernel
theorem dM_compareWhole_13 : decode cM_compareWhole 13 = .ok (.lstore 8, 2) := by decide +kernel
theorem dM_compareWhole_15 : decode cM_compareWhole 15 = .ok (.iload_n 0, 1) := by decide +kernel
theorem dM_compareWhole_16 : decode cM_compareWhole 16 = .ok (.tableswitch 190 0 8 #[52, 68, 84, 101, 111, 128, 138, 155, 173], 52) := by decide +kernel
theorem dM_compareWhole_68 : decode cM_compareWhole 68 = .ok (.lload_n 2, 1) := by decide +kernel
theorem dM_compareWhole_69 : decode cM_compareWhole 69 = .ok (.lload 4, 2) := by decide +kernel
theorem dM_compareWhole_71 : decode cM_compareWhole 71 = .ok (.lcmp, 1) := by decide +kernel
theorem dM_compareWhole_72 : decode cM_compareWhole 72 = .ok (.ifCond .ne 7, 3) := by decide +kernel
theorem dM_compareWhole_75 : decode cM_compareWhole 75 = .ok (.iconst 1, 1) := by decide +kernel
theorem dM_compareWhole_76 : decode cM_compareWhole 76 = .ok (.goto 4, 3) := by decide +kernel
theorem dM_compareWhole_79 : decode cM_compareWhole 79 = .ok (.iconst 0, 1) := by decide +kernel
theorem dM_compareWhole_80 : decode cM_compareWhole 80 = .ok (.invokestatic 49, 3) := by decide +kernel
theorem dM_compareWhole_83 : decode cM_compareWhole 83 = .ok (.lreturn, 1) := by decide +kernel
theorem dM_compareWhole_84 : decode cM_compareWhole 84 = .ok (.lload_n 2, 1) := by decide +kernel
theorem dM_compareWhole_85 : decode cM_compareWhole 85 = .ok (.lload 4, 2) := by decide +kernel
theorem dM_compareWhole_87 : decode cM_compareWhole 87 = .ok (.lcmp, 1) := by decide +kernel
theorem dM_compareWhole_88 : decode cM_compareWhole 88 = .ok (.ifCond .eq 7, 3) := by decide +kernel
theorem dM_compareWhole_91 : decode cM_compareWhole 91 = .ok (.iconst 1, 1) := by decide +kernel
theorem dM_compareWhole_92 : decode cM_compareWhole 92 = .ok (.goto 4, 3) := by decide +kernel
theorem dM_compareWhole_95 : decode cM_compareWhole 95 = .ok (.iconst 0, 1) := by decide +kernel
theorem dM_compareWhole_96 : decode cM_compareWhole 96 = .ok (.invokestatic 49, 3) := by decide +kernel
theorem dM_compareWhole_99 : decode cM_compareWhole 99 = .ok (.lreturn, 1) := by decide +kernel
theorem dM_compareWhole_100 : decode cM_compareWhole 100 = .ok (.lload 6, 2) := by decide +kernel
theorem dM_compareWhole_102 : decode cM_compareWhole 102 = .ok (.lload 8, 2) := by decide +kernel
theorem dM_compareWhole_104 : decode cM_compareWhole 104 = .ok (.lcmp, 1) := by decide +kernel
theorem dM_compareWhole_105 : decode cM_compareWhole 105 = .ok (.ifCond .ge 7, 3) := by decide +kernel
theorem dM_compareWhole_108 : decode cM_compareWhole 108 = .ok (.iconst 1, 1) := by decide +kernel
theorem dM_compareWhole_109 : decode cM_compareWhole 109 = .ok (.goto 4, 3) := by decide +kernel
theorem dM_compareWhole_112 : decode cM_compareWhole 112 = .ok (.iconst 0, 1) := by decide +kernel
theorem dM_compareWhole_113 : decode cM_compareWhole 113 = .ok (.invokestatic 49, 3) := by decide +kernel
theorem dM_compareWhole_116 : decode cM_compareWhole 116 = .ok (.lreturn, 1) := by decide +kernel
theorem dM_compareWhole_117 : decode cM_compareWhole 117 = .ok (.lload_n 2, 1) := by decide +kernel
theorem dM_compareWhole_118 : decode cM_compareWhole 118 = .ok (.lload 4, 2) := by decide +kernel
theorem dM_compareWhole_120 : decode cM_compareWhole 120 = .ok (.invokestatic 53, 3) := by decide +kernel
theorem dM_compareWhole_123 : decode cM_compareWhole 123 = .ok (.invokestatic 49, 3) := by decide +kernel
theorem dM_compareWhole_126 : decode cM_compareWhole 126 = .ok (.lreturn, 1) := by decide +kernel
theorem dM_compareWhole_127 : decode cM_compareWhole 127 = .ok (.lload 6, 2) := by decide +kernel
theorem dM_compareWhole_129 : decode cM_compareWhole 129 = .ok (.lload 8, 2) := by decide +kernel
theorem dM_compareWhole_131 : decode cM_compareWhole 131 = .ok (.lcmp, 1) := by decide +kernel
theorem dM_compareWhole_132 : decode cM_compareWhole 132 = .ok (.ifCond .le 7, 3) := by decide +kernel
theorem dM_compareWhole_135 : decode cM_compareWhole 135 = .ok (.iconst 1, 1) := by decide +kernel
theorem dM_compareWhole_136 : decode cM_compareWhole 136 = .ok (.goto 4, 3) := by decide +kernel
theorem dM_compareWhole_139 : decode cM_compareWhole 139 = .ok (.iconst 0, 1) := by decide +kernel
theorem dM_compareWhole_140 : decode cM_compareWhole 140 = .ok (.invokestatic 49, 3) := by decide +kernel
theorem dM_compareWhole_143 : decode cM_compareWhole 143 = .ok (.lreturn, 1) := by decide +kernel
theorem dM_compareWhole_144 : decode cM_compareWhole 144 = .ok (.lload 4, 2) := by decide +kernel
theorem dM_compareWhole_146 : decode cM_compareWhole 146 = .ok (.lload_n 2, 1) := by decide +kernel
theorem dM_compareWhole_147 : decode cM_compareWhole 147 = .ok (.invokestatic 53, 3) := by decide +kernel
theorem dM_compareWhole_150 : decode cM_compareWhole 150 = .ok (.invokestatic 49, 3) := by decide +kernel
theorem dM_compareWhole_153 : decode cM_compareWhole 153 = .ok (.lreturn, 1) := by decide +kernel
theorem dM_compareWhole_154 : decode cM_compareWhole 154 = .ok (.lload 6, 2) := by decide +kernel
theorem dM_compareWhole_156 : decode cM_compareWhole 156 = .ok (.lload 8, 2) := by decide +kernel
theorem dM_compareWhole_158 : decode cM_compareWhole 158 = .ok (.lcmp, 1) := by decide +kernel
theorem dM_compareWhole_159 : decode cM_compareWhole 159 = .ok (.ifCond .gt 7, 3) := by decide +kernel
theorem dM_compareWhole_162 : decode cM_compareWhole 162 = .ok (.iconst 1, 1) := by decide +kernel
theorem dM_compareWhole_163 : decode cM_compareWhole 163 = .ok (.goto 4, 3) := by decide +kernel
theorem dM_compareWhole_166 : decode cM_compareWhole 166 = .ok (.iconst 0, 1) := by decide +kernel
theorem dM_compareWhole_167 : decode cM_compareWhole 167 = .ok (.invokestatic 49, 3) := by decide +kernel
theorem dM_compareWhole_170 : decode cM_compareWhole 170 = .ok (.lreturn, 1) := by decide +kernel
theorem dM_compareWhole_171 : decode cM_compareWhole 171 = .ok (.lload 4, 2) := by decide +kernel
theorem dM_compareWhole_173 : decode cM_compareWhole 173 = .ok (.lload_n 2, 1) := by decide +kernel
theorem dM_compareWhole_174 : decode cM_compareWhole 174 = .ok (.invokestatic 53, 3) := by decide +kernel
theorem dM_compareWhole_177 : decode cM_compareWhole 177 = .ok (.ifCond .ne 7, 3) := by decide +kernel
theorem dM_compareWhole_180 : decode cM_compareWhole 180 = .ok (.iconst 1, 1) := by decide +kernel
theorem dM_compareWhole_181 : decode cM_compareWhole 181 = .ok (.goto 4, 3) := by decide +kernel
theorem dM_compareWhole_184 : decode cM_compareWhole 184 = .ok (.iconst 0, 1) := by decide +kernel
theorem dM_compareWhole_185 : decode cM_compareWhole 185 = .ok (.invokestatic 49, 3) := by decide +kernel
theorem dM_compareWhole_188 : decode cM_compareWhole 188 = .ok (.lreturn, 1) := by decide +kernel
theorem dM_compareWhole_189 : decode cM_compareWhole 189 = .ok (.lload 6, 2) := by decide +kernel
theorem dM_compareWhole_191 : decode cM_compareWhole 191 = .ok (.lload 8, 2) := by decide +kernel
theorem dM_compareWhole_193 : decode cM_compareWhole 193 = .ok (.lcmp, 1) := by decide +kernel
theorem dM_compareWhole_194 : decode cM_compareWhole 194 = .ok (.ifCond .lt 7, 3) := by decide +kernel
theorem dM_compareWhole_197 : decode cM_compareWhole 197 = .ok (.iconst 1, 1) := by decide +kernel
theorem dM_compareWhole_198 : decode cM_compareWhole 198 = .ok (.goto 4, 3) := by decide +kernel
theorem dM_compareWhole_201 : decode cM_compareWhole 201 = .ok (.iconst 0, 1) := by decide +kernel
theorem dM_compareWhole_202 : decode cM_compareWhole 202 = .ok (.invokestatic 49, 3) := by decide +kernel
theorem dM_compareWhole_205 : decode cM_compareWhole 205 = .ok (.lreturn, 1) := by decide +kernel
theorem dM_compareWhole_206 : decode cM_compareWhole 206 = .ok (.lload_n 2, 1) := by decide +kernel
theorem dM_compareWhole_207 : decode cM_compareWhole 207 = .ok (.lload 4, 2) := by decide +kernel
theorem dM_compareWhole_209 : decode cM_compareWhole 209 = .ok (.invokestatic 53, 3) := by decide +kernel
theorem dM_compareWhole_212 : decode cM_compareWhole 212 = .ok (.ifCond .ne 7, 3) := by decide +kernel
theorem dM_compareWhole_215 : decode cM_compareWhole 215 = .ok (.iconst 1, 1) := by decide +kernel
theorem dM_compareWhole_216 : decode cM_compareWhole 216 = .ok (.goto 4, 3) := by decide +kernel
theorem dM_compareWhole_219 : decode cM_compareWhole 219 = .ok (.iconst 0, 1) := by decide +kernel
theorem dM_compareWhole_220 : decode cM_compareWhole 220 = .ok (.invokestatic 49, 3) := by decide +kernel
theorem dM_compareWhole_223 : decode cM_compareWhole 223 = .ok (.lreturn, 1) := by decide +kernel
theorem dM_zerosAhead_0 : decode cM_zerosAhead 0 = .ok (.lconst 0, 1) := by decide +kernel
theorem dM_zerosAhead_1 : decode cM_zerosAhead 1 = .ok (.lstore_n 3, 1) := by decide +kernel
theorem dM_zerosAhead_2 : decode cM_zerosAhead 2 = .ok (.lload_n 3, 1) := by decide +kernel
theorem dM_zerosAhead_3 : decode cM_zerosAhead 3 = .ok (.iload_n 0, 1) := by decide +kernel
theorem dM_zerosAhead_4 : decode cM_zerosAhead 4 = .ok (.i2l, 1) := by decide +kernel
theorem dM_zerosAhead_5 : decode cM_zerosAhead 5 = .ok (.lcmp, 1) := by decide +kernel
theorem dM_zerosAhead_6 : decode cM_zerosAhead 6 = .ok (.ifCond .ge 26, 3) := by decide +kernel
theorem dM_zerosAhead_9 : decode cM_zerosAhead 9 = .ok (.lload_n 1, 1) := by decide +kernel
theorem dM_zerosAhead_10 : decode cM_zerosAhead 10 = .ok (.iload_n 0, 1) := by decide +kernel
theorem dM_zerosAhead_11 : decode cM_zerosAhead 11 = .ok (.iconst 1, 1) := by decide +kernel
theorem dM_zerosAhead_12 : decode cM_zerosAhead 12 = .ok (.isub, 1) := by decide +kernel
theorem dM_zerosAhead_13 : decode cM_zerosAhead 13 = .ok (.i2l, 1) := by decide +kernel
theorem dM_zerosAhead_14 : decode cM_zerosAhead 14 = .ok (.lload_n 3, 1) := by decide +kernel
theorem dM_zerosAhead_15 : decode cM_zerosAhead 15 = .ok (.lsub, 1) := by decide +kernel
theorem dM_zerosAhead_16 : decode cM_zerosAhead 16 = .ok (.l2i, 1) := by decide +kernel
theorem dM_zerosAhead_17 : decode cM_zerosAhead 17 = .ok (.lshr, 1) := by decide +kernel
theorem dM_zerosAhead_18 : decode cM_zerosAhead 18 = .ok (.lconst 1, 1) := by decide +kernel
theorem dM_zerosAhead_19 : decode cM_zerosAhead 19 = .ok (.land, 1) := by decide +kernel
theorem dM_zerosAhead_20 : decode cM_zerosAhead 20 = .ok (.lconst 0, 1) := by decide +kernel
theorem dM_zerosAhead_21 : decode cM_zerosAhead 21 = .ok (.lcmp, 1) := by decide +kernel
theorem dM_zerosAhead_22 : decode cM_zerosAhead 22 = .ok (.ifCond .ne 10, 3) := by decide +kernel
theorem dM_zerosAhead_25 : decode cM_zerosAhead 25 = .ok (.lload_n 3, 1) := by decide +kernel
theorem dM_zerosAhead_26 : decode cM_zerosAhead 26 = .ok (.lconst 1, 1) := by decide +kernel
theorem dM_zerosAhead_27 : decode cM_zerosAhead 27 = .ok (.ladd, 1) := by decide +kernel
theorem dM_zerosAhead_28 : decode cM_zerosAhead 28 = .ok (.lstore_n 3, 1) := by decide +kernel
theorem dM_zerosAhead_29 : decode cM_zerosAhead 29 = .ok (.goto (-27), 3) := by decide +kernel
theorem dM_zerosAhead_32 : decode cM_zerosAhead 32 = .ok (.lload_n 3, 1) := by decide +kernel
theorem dM_zerosAhead_33 : decode cM_zerosAhead 33 = .ok (.lreturn, 1) := by decide +kernel
theorem dM_zerosBehind_0 : decode cM_zerosBehind 0 = .ok (.lconst 0, 1) := by decide +kernel
theorem dM_zerosBehind_1 : decode cM_zerosBehind 1 = .ok (.lstore_n 3, 1) := by decide +kernel
theorem dM_zerosBehind_2 : decode cM_zerosBehind 2 = .ok (.lload_n 3, 1) := by decide +kernel
theorem dM_zerosBehind_3 : decode cM_zerosBehind 3 = .ok (.iload_n 0, 1) := by decide +kernel
theorem dM_zerosBehind_4 : decode cM_zerosBehind 4 = .ok (.i2l, 1) := by decide +kernel
theorem dM_zerosBehind_5 : decode cM_zerosBehind 5 = .ok (.lcmp, 1) := by decide +kernel
theorem dM_zerosBehind_6 : decode cM_zerosBehind 6 = .ok (.ifCond .ge 21, 3) := by decide +kernel
theorem dM_zerosBehind_9 : decode cM_zerosBehind 9 = .ok (.lload_n 1, 1) := by decide +kernel
theorem dM_zerosBehind_10 : decode cM_zerosBehind 10 = .ok (.lload_n 3, 1) := by decide +kernel
theorem dM_zerosBehind_11 : decode cM_zerosBehind 11 = .ok (.l2i, 1) := by decide +kernel
theorem dM_zerosBehind_12 : decode cM_zerosBehind 12 = .ok (.lshr, 1) := by decide +kernel
theorem dM_zerosBehind_13 : decode cM_zerosBehind 13 = .ok (.lconst 1, 1) := by decide +kernel
theorem dM_zerosBehind_14 : decode cM_zerosBehind 14 = .ok (.land, 1) := by decide +kernel
theorem dM_zerosBehind_15 : decode cM_zerosBehind 15 = .ok (.lconst 0, 1) := by decide +kernel
theorem dM_zerosBehind_16 : decode cM_zerosBehind 16 = .ok (.lcmp, 1) := by decide +kernel
theorem dM_zerosBehind_17 : decode cM_zerosBehind 17 = .ok (.ifCond .ne 10, 3) := by decide +kernel
theorem dM_zerosBehind_20 : decode cM_zerosBehind 20 = .ok (.lload_n 3, 1) := by decide +kernel
theorem dM_zerosBehind_21 : decode cM_zerosBehind 21 = .ok (.lconst 1, 1) := by decide +kernel
theorem dM_zerosBehind_22 : decode cM_zerosBehind 22 = .ok (.ladd, 1) := by decide +kernel
theorem dM_zerosBehind_23 : decode cM_zerosBehind 23 = .ok (.lstore_n 3, 1) := by decide +kernel
theorem dM_zerosBehind_24 : decode cM_zerosBehind 24 = .ok (.goto (-22), 3) := by decide +kernel
theorem dM_zerosBehind_27 : decode cM_zerosBehind 27 = .ok (.lload_n 3, 1) := by decide +kernel
theorem dM_zerosBehind_28 : decode cM_zerosBehind 28 = .ok (.lreturn, 1) := by decide +kernel
theorem dM_ones_0 : decode cM_ones 0 = .ok (.lconst 0, 1) := by decide +kernel
theorem dM_ones_1 : decode cM_ones 1 = .ok (.lstore_n 3, 1) := by decide +kernel
theorem dM_ones_2 : decode cM_ones 2 = .ok (.iconst 0, 1) := by decide +kernel
theorem dM_ones_3 : decode cM_ones 3 = .ok (.istore 5, 2) := by decide +kernel
theorem dM_ones_5 : decode cM_ones 5 = .ok (.iload 5, 2) := by decide +kernel
theorem dM_ones_7 : decode cM_ones 7 = .ok (.iload_n 0, 1) := by decide +kernel
theorem dM_ones_8 : decode cM_ones 8 = .ok (.if_icmp .ge 18, 3) := by decide +kernel
theorem dM_ones_11 : decode cM_ones 11 = .ok (.lload_n 3, 1) := by decide +kernel
theorem dM_ones_12 : decode cM_ones 12 = .ok (.lload_n 1, 1) := by decide +kernel
theorem dM_ones_13 : decode cM_ones 13 = .ok (.iload 5, 2) := by decide +kernel
theorem dM_ones_15 : decode cM_ones 15 = .ok (.lshr, 1) := by decide +kernel
theorem dM_ones_16 : decode cM_ones 16 = .ok (.lconst 1, 1) := by decide +kernel
theorem dM_ones_17 : decode cM_ones 17 = .ok (.land, 1) := by decide +kernel
theorem dM_ones_18 : decode cM_ones 18 = .ok (.ladd, 1) := by decide +kernel
theorem dM_ones_19 : decode cM_ones 19 = .ok (.lstore_n 3, 1) := by decide +kernel
theorem dM_ones_20 : decode cM_ones 20 = .ok (.iinc 5 1, 3) := by decide +kernel
theorem dM_ones_23 : decode cM_ones 23 = .ok (.goto (-18), 3) := by decide +kernel
theorem dM_ones_26 : decode cM_ones 26 = .ok (.lload_n 3, 1) := by decide +kernel
theorem dM_ones_27 : decode cM_ones 27 = .ok (.lreturn, 1) := by decide +kernel
theorem dM_divide_0 : decode cM_divide 0 = .ok (.lconst 0, 1) := by decide +kernel
theorem dM_divide_1 : decode cM_divide 1 = .ok (.lstore 5, 2) := by decide +kernel
theorem dM_divide_3 : decode cM_divide 3 = .ok (.lconst 0, 1) := by decide +kernel
theorem dM_divide_4 : decode cM_divide 4 = .ok (.lstore 7, 2) := by decide +kernel
theorem dM_divide_6 : decode cM_divide 6 = .ok (.bipush 63, 2) := by decide +kernel
theorem dM_divide_8 : decode cM_divide 8 = .ok (.istore 9, 2) := by decide +kernel
theorem dM_divide_10 : decode cM_divide 10 = .ok (.iload 9, 2) := by decide +kernel
theorem dM_divide_12 : decode cM_divide 12 = .ok (.ifCond .lt 94, 3) := by decide +kernel
theorem dM_divide_15 : decode cM_divide 15 = .ok (.lload 7, 2) := by decide +kernel
theorem dM_divide_17 : decode cM_divide 17 = .ok (.lconst 0, 1) := by decide +kernel
theorem dM_divide_18 : decode cM_divide 18 = .ok (.lcmp, 1) := by decide +kernel
theorem dM_divide_19 : decode cM_divide 19 = .ok (.ifCond .ge 7, 3) := by decide +kernel
theorem dM_divide_22 : decode cM_divide 22 = .ok (.iconst 1, 1) := by decide +kernel
theorem dM_divide_23 : decode cM_divide 23 = .ok (.goto 4, 3) := by decide +kernel
theorem dM_divide_26 : decode cM_divide 26 = .ok (.iconst 0, 1) := by decide +kernel
theorem dM_divide_27 : decode cM_divide 27 = .ok (.istore 10, 2) := by decide +kernel
theorem dM_divide_29 : decode cM_divide 29 = .ok (.ldc2_w 57, 3) := by decide +kernel
theorem dM_divide_32 : decode cM_divide 32 = .ok (.lload 7, 2) := by decide +kernel
theorem dM_divide_34 : decode cM_divide 34 = .ok (.lmul, 1) := by decide +kernel
theorem dM_divide_35 : decode cM_divide 35 = .ok (.lload_n 0, 1) := by decide +kernel
theorem dM_divide_36 : decode cM_divide 36 = .ok (.iload 9, 2) := by decide +kernel
theorem dM_divide_38 : decode cM_divide 38 = .ok (.lshr, 1) := by decide +kernel
theorem dM_divide_39 : decode cM_divide 39 = .ok (.lconst 1, 1) := by decide +kernel
theorem dM_divide_40 : decode cM_divide 40 = .ok (.land, 1) := by decide +kernel
theorem dM_divide_41 : decode cM_divide 41 = .ok (.lor, 1) := by decide +kernel
theorem dM_divide_42 : decode cM_divide 42 = .ok (.lstore 7, 2) := by decide +kernel
theorem dM_divide_44 : decode cM_divide 44 = .ok (.iload 10, 2) := by decide +kernel
theorem dM_divide_46 : decode cM_divide 46 = .ok (.ifCond .ne 12, 3) := by decide +kernel
theorem dM_divide_49 : decode cM_divide 49 = .ok (.lload 7, 2) := by decide +kernel
theorem dM_divide_51 : decode cM_divide 51 = .ok (.lload_n 2, 1) := by decide +kernel
theorem dM_divide_52 : decode cM_divide 52 = .ok (.invokestatic 53, 3) := by decide +kernel
theorem dM_divide_55 : decode cM_divide 55 = .ok (.ifCond .ne 7, 3) := by decide +kernel
theorem dM_divide_58 : decode cM_divide 58 = .ok (.iconst 1, 1) := by decide +kernel
theorem dM_divide_59 : decode cM_divide 59 = .ok (.goto 4, 3) := by decide +kernel
theorem dM_divide_62 : decode cM_divide 62 = .ok (.iconst 0, 1) := by decide +kernel
theorem dM_divide_63 : decode cM_divide 63 = .ok (.istore 11, 2) := by decide +kernel
theorem dM_divide_65 : decode cM_divide 65 = .ok (.iload 11, 2) := by decide +kernel
theorem dM_divide_67 : decode cM_divide 67 = .ok (.ifCond .eq 10, 3) := by decide +kernel
theorem dM_divide_70 : decode cM_divide 70 = .ok (.lload 7, 2) := by decide +kernel
theorem dM_divide_72 : decode cM_divide 72 = .ok (.lload_n 2, 1) := by decide +kernel
theorem dM_divide_73 : decode cM_divide 73 = .ok (.lsub, 1) := by decide +kernel
theorem dM_divide_74 : decode cM_divide 74 = .ok (.goto 5, 3) := by decide +kernel
theorem dM_divide_77 : decode cM_divide 77 = .ok (.lload 7, 2) := by decide +kernel
theorem dM_divide_79 : decode cM_divide 79 = .ok (.lstore 7, 2) := by decide +kernel
theorem dM_divide_81 : decode cM_divide 81 = .ok (.ldc2_w 57, 3) := by decide +kernel
theorem dM_divide_84 : decode cM_divide 84 = .ok (.lload 5, 2) := by decide +kernel
theorem dM_divide_86 : decode cM_divide 86 = .ok (.lmul, 1) := by decide +kernel
theorem dM_divide_87 : decode cM_divide 87 = .ok (.iload 11, 2) := by decide +kernel
theorem dM_divide_89 : decode cM_divide 89 = .ok (.ifCond .eq 7, 3) := by decide +kernel
theorem dM_divide_92 : decode cM_divide 92 = .ok (.lconst 1, 1) := by decide +kernel
theorem dM_divide_93 : decode cM_divide 93 = .ok (.goto 4, 3) := by decide +kernel
theorem dM_divide_96 : decode cM_divide 96 = .ok (.lconst 0, 1) := by decide +kernel
theorem dM_divide_97 : decode cM_divide 97 = .ok (.lor, 1) := by decide +kernel
theorem dM_divide_98 : decode cM_divide 98 = .ok (.lstore 5, 2) := by decide +kernel
theorem dM_divide_100 : decode cM_divide 100 = .ok (.iinc 9 (-1), 3) := by decide +kernel
theorem dM_divide_103 : decode cM_divide 103 = .ok (.goto (-93), 3) := by decide +kernel
theorem dM_divide_106 : decode cM_divide 106 = .ok (.iload 4, 2) := by decide +kernel
theorem dM_divide_108 : decode cM_divide 108 = .ok (.ifCond .eq 8, 3) := by decide +kernel
theorem dM_divide_111 : decode cM_divide 111 = .ok (.lload 7, 2) := by decide +kernel
theorem dM_divide_113 : decode cM_divide 113 = .ok (.goto 5, 3) := by decide +kernel
theorem dM_divide_116 : decode cM_divide 116 = .ok (.lload 5, 2) := by decide +kernel
theorem dM_divide_118 : decode cM_divide 118 = .ok (.lreturn, 1) := by decide +kernel
theorem dM_turned_0 : decode cM_turned 0 = .ok (.lload_n 1, 1) := by decide +kernel
theorem dM_turned_1 : decode cM_turned 1 = .ok (.lload_n 3, 1) := by decide +kernel
theorem dM_turned_2 : decode cM_turned 2 = .ok (.l2i, 1) := by decide +kernel
theorem dM_turned_3 : decode cM_turned 3 = .ok (.lshl, 1) := by decide +kernel
theorem dM_turned_4 : decode cM_turned 4 = .ok (.lstore 5, 2) := by decide +kernel
theorem dM_turned_6 : decode cM_turned 6 = .ok (.lload_n 3, 1) := by decide +kernel
theorem dM_turned_7 : decode cM_turned 7 = .ok (.lconst 0, 1) := by decide +kernel
theorem dM_turned_8 : decode cM_turned 8 = .ok (.lcmp, 1) := by decide +kernel
theorem dM_turned_9 : decode cM_turned 9 = .ok (.ifCond .ne 7, 3) := by decide +kernel
theorem dM_turned_12 : decode cM_turned 12 = .ok (.lconst 0, 1) := by decide +kernel
theorem dM_turned_13 : decode cM_turned 13 = .ok (.goto 26, 3) := by decide +kernel
theorem dM_turned_16 : decode cM_turned 16 = .ok (.iload_n 0, 1) := by decide +kernel
theorem dM_turned_17 : decode cM_turned 17 = .ok (.bipush 32, 2) := by decide +kernel
theorem dM_turned_19 : decode cM_turned 19 = .ok (.if_icmp .ne 13, 3) := by decide +kernel
theorem dM_turned_22 : decode cM_turned 22 = .ok (.lload_n 1, 1) := by decide +kernel
theorem dM_turned_23 : decode cM_turned 23 = .ok (.iload_n 0, 1) := by decide +kernel
theorem dM_turned_24 : decode cM_turned 24 = .ok (.i2l, 1) := by decide +kernel
theorem dM_turned_25 : decode cM_turned 25 = .ok (.lload_n 3, 1) := by decide +kernel
theorem dM_turned_26 : decode cM_turned 26 = .ok (.lsub, 1) := by decide +kernel
theorem dM_turned_27 : decode cM_turned 27 = .ok (.l2i, 1) := by decide +kernel
theorem dM_turned_28 : decode cM_turned 28 = .ok (.lshr, 1) := by decide +kernel
theorem dM_turned_29 : decode cM_turned 29 = .ok (.goto 10, 3) := by decide +kernel
theorem dM_turned_32 : decode cM_turned 32 = .ok (.lload_n 1, 1) := by decide +kernel
theorem dM_turned_33 : decode cM_turned 33 = .ok (.iload_n 0, 1) := by decide +kernel
theorem dM_turned_34 : decode cM_turned 34 = .ok (.i2l, 1) := by decide +kernel
theorem dM_turned_35 : decode cM_turned 35 = .ok (.lload_n 3, 1) := by decide +kernel
theorem dM_turned_36 : decode cM_turned 36 = .ok (.lsub, 1) := by decide +kernel
theorem dM_turned_37 : decode cM_turned 37 = .ok (.l2i, 1) := by decide +kernel
theorem dM_turned_38 : decode cM_turned 38 = .ok (.lushr, 1) := by decide +kernel
theorem dM_turned_39 : decode cM_turned 39 = .ok (.lstore 7, 2) := by decide +kernel
theorem dM_turned_41 : decode cM_turned 41 = .ok (.lload 5, 2) := by decide +kernel
theorem dM_turned_43 : decode cM_turned 43 = .ok (.lload 7, 2) := by decide +kernel
theorem dM_turned_45 : decode cM_turned 45 = .ok (.lor, 1) := by decide +kernel
theorem dM_turned_46 : decode cM_turned 46 = .ok (.lreturn, 1) := by decide +kernel
theorem dM_precision_0 : decode cM_precision 0 = .ok (.iload_n 0, 1) := by decide +kernel
theorem dM_precision_1 : decode cM_precision 1 = .ok (.iconst 2, 1) := by decide +kernel
theorem dM_precision_2 : decode cM_precision 2 = .ok (.if_icmp .ne 8, 3) := by decide +kernel
theorem dM_precision_5 : decode cM_precision 5 = .ok (.bipush 24, 2) := by decide +kernel
theorem dM_precision_7 : decode cM_precision 7 = .ok (.goto 5, 3) := by decide +kernel
theorem dM_precision_10 : decode cM_precision 10 = .ok (.bipush 53, 2) := by decide +kernel
theorem dM_precision_12 : decode cM_precision 12 = .ok (.ireturn, 1) := by decide +kernel
theorem dM_bias_0 : decode cM_bias 0 = .ok (.iload_n 0, 1) := by decide +kernel
theorem dM_bias_1 : decode cM_bias 1 = .ok (.iconst 2, 1) := by decide +kernel
theorem dM_bias_2 : decode cM_bias 2 = .ok (.if_icmp .ne 8, 3) := by decide +kernel
theorem dM_bias_5 : decode cM_bias 5 = .ok (.bipush 127, 2) := by decide +kernel
theorem dM_bias_7 : decode cM_bias 7 = .ok (.goto 6, 3) := by decide +kernel
theorem dM_bias_10 : decode cM_bias 10 = .ok (.sipush 1023, 3) := by decide +kernel
theorem dM_bias_13 : decode cM_bias 13 = .ok (.ireturn, 1) := by decide +kernel
theorem dM_signOf_0 : decode cM_signOf 0 = .ok (.lconst 1, 1) := by decide +kernel
theorem dM_signOf_1 : decode cM_signOf 1 = .ok (.iload_n 0, 1) := by decide +kernel
theorem dM_signOf_2 : decode cM_signOf 2 = .ok (.invokestatic 70, 3) := by decide +kernel
theorem dM_signOf_5 : decode cM_signOf 5 = .ok (.iconst 1, 1) := by decide +kernel
theorem dM_signOf_6 : decode cM_signOf 6 = .ok (.isub, 1) := by decide +kernel
theorem dM_signOf_7 : decode cM_signOf 7 = .ok (.lshl, 1) := by decide +kernel
theorem dM_signOf_8 : decode cM_signOf 8 = .ok (.lreturn, 1) := by decide +kernel
theorem dM_isMinus_0 : decode cM_isMinus 0 = .ok (.lload_n 1, 1) := by decide +kernel
theorem dM_isMinus_1 : decode cM_isMinus 1 = .ok (.iload_n 0, 1) := by decide +kernel
theorem dM_isMinus_2 : decode cM_isMinus 2 = .ok (.invokestatic 90, 3) := by decide +kernel
theorem dM_isMinus_5 : decode cM_isMinus 5 = .ok (.land, 1) := by decide +kernel
theorem dM_isMinus_6 : decode cM_isMinus 6 = .ok (.lconst 0, 1) := by decide +kernel
theorem dM_isMinus_7 : decode cM_isMinus 7 = .ok (.lcmp, 1) := by decide +kernel
theorem dM_isMinus_8 : decode cM_isMinus 8 = .ok (.ifCond .eq 7, 3) := by decide +kernel
theorem dM_isMinus_11 : decode cM_isMinus 11 = .ok (.iconst 1, 1) := by decide +kernel
theorem dM_isMinus_12 : decode cM_isMinus 12 = .ok (.goto 4, 3) := by decide +kernel
theorem dM_isMinus_15 : decode cM_isMinus 15 = .ok (.iconst 0, 1) := by decide +kernel
theorem dM_isMinus_16 : decode cM_isMinus 16 = .ok (.ireturn, 1) := by decide +kernel
theorem dM_rest_0 : decode cM_rest 0 = .ok (.lload_n 1, 1) := by decide +kernel
theorem dM_rest_1 : decode cM_rest 1 = .ok (.iload_n 0, 1) := by decide +kernel
theorem dM_rest_2 : decode cM_rest 2 = .ok (.invokestatic 90, 3) := by decide +kernel
theorem dM_rest_5 : decode cM_rest 5 = .ok (.lconst 1, 1) := by decide +kernel
theorem dM_rest_6 : decode cM_rest 6 = .ok (.lsub, 1) := by decide +kernel
theorem dM_rest_7 : decode cM_rest 7 = .ok (.land, 1) := by decide +kernel
theorem dM_rest_8 : decode cM_rest 8 = .ok (.lreturn, 1) := by decide +kernel
theorem dM_exponent_0 : decode cM_exponent 0 = .ok (.iload_n 0, 1) := by decide +kernel
theorem dM_exponent_1 : decode cM_exponent 1 = .ok (.lload_n 1, 1) := by decide +kernel
theorem dM_exponent_2 : decode cM_exponent 2 = .ok (.invokestatic 94, 3) := by decide +kernel
theorem dM_exponent_5 : decode cM_exponent 5 = .ok (.iload_n 0, 1) := by decide +kernel
theorem dM_exponent_6 : decode cM_exponent 6 = .ok (.invokestatic 97, 3) := by decide +kernel
theorem dM_exponent_9 : decode cM_exponent 9 = .ok (.iconst 1, 1) := by decide +kernel
theorem dM_exponent_10 : decode cM_exponent 10 = .ok (.isub, 1) := by decide +kernel
theorem dM_exponent_11 : decode cM_exponent 11 = .ok (.lshr, 1) := by decide +kernel
theorem dM_exponent_12 : decode cM_exponent 12 = .ok (.l2i, 1) := by decide +kernel
theorem dM_exponent_13 : decode cM_exponent 13 = .ok (.ireturn, 1) := by decide +kernel
theorem dM_fraction_0 : decode cM_fraction 0 = .ok (.lload_n 1, 1) := by decide +kernel
theorem dM_fraction_1 : decode cM_fraction 1 = .ok (.lconst 1, 1) := by decide +kernel
theorem dM_fraction_2 : decode cM_fraction 2 = .ok (.iload_n 0, 1) := by decide +kernel
theorem dM_fraction_3 : decode cM_fraction 3 = .ok (.invokestatic 97, 3) := by decide +kernel
theorem dM_fraction_6 : decode cM_fraction 6 = .ok (.iconst 1, 1) := by decide +kernel
theorem dM_fraction_7 : decode cM_fraction 7 = .ok (.isub, 1) := by decide +kernel
theorem dM_fraction_8 : decode cM_fraction 8 = .ok (.lshl, 1) := by decide +kernel
theorem dM_fraction_9 : decode cM_fraction 9 = .ok (.lconst 1, 1) := by decide +kernel
theorem dM_fraction_10 : decode cM_fraction 10 = .ok (.lsub, 1) := by decide +kernel
theorem dM_fraction_11 : decode cM_fraction 11 = .ok (.land, 1) := by decide +kernel
theorem dM_fraction_12 : decode cM_fraction 12 = .ok (.lreturn, 1) := by decide +kernel
theorem dM_last_0 : decode cM_last 0 = .ok (.iconst 2, 1) := by decide +kernel
theorem dM_last_1 : decode cM_last 1 = .ok (.iload_n 0, 1) := by decide +kernel
theorem dM_last_2 : decode cM_last 2 = .ok (.invokestatic 100, 3) := by decide +kernel
theorem dM_last_5 : decode cM_last 5 = .ok (.imul, 1) := by decide +kernel
theorem dM_last_6 : decode cM_last 6 = .ok (.iconst 1, 1) := by decide +kernel
theorem dM_last_7 : decode cM_last 7 = .ok (.iadd, 1) := by decide +kernel
theorem dM_last_8 : decode cM_last 8 = .ok (.ireturn, 1) := by decide +kernel
theorem dM_isNone_0 : decode cM_isNone 0 = .ok (.iload_n 0, 1) := by decide +kernel
theorem dM_isNone_1 : decode cM_isNone 1 = .ok (.lload_n 1, 1) := by decide +kernel
theorem dM_isNone_2 : decode cM_isNone 2 = .ok (.invokestatic 103, 3) := by decide +kernel
theorem dM_isNone_5 : decode cM_isNone 5 = .ok (.iload_n 0, 1) := by decide +kernel
theorem dM_isNone_6 : decode cM_isNone 6 = .ok (.invokestatic 107, 3) := by decide +kernel
theorem dM_isNone_9 : decode cM_isNone 9 = .ok (.if_icmp .ne 17, 3) := by decide +kernel
theorem dM_isNone_12 : decode cM_isNone 12 = .ok (.iload_n 0, 1) := by decide +kernel
theorem dM_isNone_13 : decode cM_isNone 13 = .ok (.lload_n 1, 1) := by decide +kernel
theorem dM_isNone_14 : decode cM_isNone 14 = .ok (.invokestatic 110, 3) := by decide +kernel
theorem dM_isNone_17 : decode cM_isNone 17 = .ok (.lconst 0, 1) := by decide +kernel
theorem dM_isNone_18 : decode cM_isNone 18 = .ok (.lcmp, 1) := by decide +kernel
theorem dM_isNone_19 : decode cM_isNone 19 = .ok (.ifCond .eq 7, 3) := by decide +kernel
theorem dM_isNone_22 : decode cM_isNone 22 = .ok (.iconst 1, 1) := by decide +kernel
theorem dM_isNone_23 : decode cM_isNone 23 = .ok (.goto 4, 3) := by decide +kernel
theorem dM_isNone_26 : decode cM_isNone 26 = .ok (.iconst 0, 1) := by decide +kernel
theorem dM_isNone_27 : decode cM_isNone 27 = .ok (.ireturn, 1) := by decide +kernel
theorem dM_isInfinite_0 : decode cM_isInfinite 0 = .ok (.iload_n 0, 1) := by decide +kernel
theorem dM_isInfinite_1 : decode cM_isInfinite 1 = .ok (.lload_n 1, 1) := by decide +kernel
theorem dM_isInfinite_2 : decode cM_isInfinite 2 = .ok (.invokestatic 103, 3) := by decide +kernel
theorem dM_isInfinite_5 : decode cM_isInfinite 5 = .ok (.iload_n 0, 1) := by decide +kernel
theorem dM_isInfinite_6 : decode cM_isInfinite 6 = .ok (.invokestatic 107, 3) := by decide +kernel
theorem dM_isInfinite_9 : decode cM_isInfinite 9 = .ok (.if_icmp .ne 17, 3) := by decide +kernel
theorem dM_isInfinite_12 : decode cM_isInfinite 12 = .ok (.iload_n 0, 1) := by decide +kernel
theorem dM_isInfinite_13 : decode cM_isInfinite 13 = .ok (.lload_n 1, 1) := by decide +kernel
theorem dM_isInfinite_14 : decode cM_isInfinite 14 = .ok (.invokestatic 110, 3) := by decide +kernel
theorem dM_isInfinite_17 : decode cM_isInfinite 17 = .ok (.lconst 0, 1) := by decide +kernel
theorem dM_isInfinite_18 : decode cM_isInfinite 18 = .ok (.lcmp, 1) := by decide +kernel
theorem dM_isInfinite_19 : decode cM_isInfinite 19 = .ok (.ifCond .ne 7, 3) := by decide +kernel
theorem dM_isInfinite_22 : decode cM_isInfinite 22 = .ok (.iconst 1, 1) := by decide +kernel
theorem dM_isInfinite_23 : decode cM_isInfinite 23 = .ok (.goto 4, 3) := by decide +kernel
theorem dM_isInfinite_26 : decode cM_isInfinite 26 = .ok (.iconst 0, 1) := by decide +kernel
theorem dM_isInfinite_27 : decode cM_isInfinite 27 = .ok (.ireturn, 1) := by decide +kernel
theorem dM_isZero_0 : decode cM_isZero 0 = .ok (.iload_n 0, 1) := by decide +kernel
theorem dM_isZero_1 : decode cM_isZero 1 = .ok (.lload_n 1, 1) := by decide +kernel
theorem dM_isZero_2 : decode cM_isZero 2 = .ok (.invokestatic 94, 3) := by decide +kernel
theorem dM_isZero_5 : decode cM_isZero 5 = .ok (.lconst 0, 1) := by decide +kernel
theorem dM_isZero_6 : decode cM_isZero 6 = .ok (.lcmp, 1) := by decide +kernel
theorem dM_isZero_7 : decode cM_isZero 7 = .ok (.ifCond .ne 7, 3) := by decide +kernel
theorem dM_isZero_10 : decode cM_isZero 10 = .ok (.iconst 1, 1) := by decide +kernel
theorem dM_isZero_11 : decode cM_isZero 11 = .ok (.goto 4, 3) := by decide +kernel
theorem dM_isZero_14 : decode cM_isZero 14 = .ok (.iconst 0, 1) := by decide +kernel
theorem dM_isZero_15 : decode cM_isZero 15 = .ok (.ireturn, 1) := by decide +kernel
theorem dM_significand_0 : decode cM_significand 0 = .ok (.iload_n 0, 1) := by decide +kernel
theorem dM_significand_1 : decode cM_significand 1 = .ok (.lload_n 1, 1) := by decide +kernel
theorem dM_significand_2 : decode cM_significand 2 = .ok (.invokestatic 110, 3) := by decide +kernel
theorem dM_significand_5 : decode cM_significand 5 = .ok (.iload_n 0, 1) := by decide +kernel
theorem dM_significand_6 : decode cM_significand 6 = .ok (.lload_n 1, 1) := by decide +kernel
theorem dM_significand_7 : decode cM_significand 7 = .ok (.invokestatic 103, 3) := by decide +kernel
theorem dM_significand_10 : decode cM_significand 10 = .ok (.ifCond .ne 7, 3) := by decide +kernel
theorem dM_significand_13 : decode cM_significand 13 = .ok (.lconst 0, 1) := by decide +kernel
theorem dM_significand_14 : decode cM_significand 14 = .ok (.goto 11, 3) := by decide +kernel
theorem dM_significand_17 : decode cM_significand 17 = .ok (.lconst 1, 1) := by decide +kernel
theorem dM_significand_18 : decode cM_significand 18 = .ok (.iload_n 0, 1) := by decide +kernel
theorem dM_significand_19 : decode cM_significand 19 = .ok (.invokestatic 97, 3) := by decide +kernel
theorem dM_significand_22 : decode cM_significand 22 = .ok (.iconst 1, 1) := by decide +kernel
theorem dM_significand_23 : decode cM_significand 23 = .ok (.isub, 1) := by decide +kernel
theorem dM_significand_24 : decode cM_significand 24 = .ok (.lshl, 1) := by decide +kernel
theorem dM_significand_25 : decode cM_significand 25 = .ok (.ladd, 1) := by decide +kernel
theorem dM_significand_26 : decode cM_significand 26 = .ok (.lreturn, 1) := by decide +kernel
theorem dM_least_0 : decode cM_least 0 = .ok (.iconst 2, 1) := by decide +kernel
theorem dM_least_1 : decode cM_least 1 = .ok (.iload_n 0, 1) := by decide +kernel
theorem dM_least_2 : decode cM_least 2 = .ok (.invokestatic 100, 3) := by decide +kernel
theorem dM_least_5 : decode cM_least 5 = .ok (.isub, 1) := by decide +kernel
theorem dM_least_6 : decode cM_least 6 = .ok (.iload_n 0, 1) := by decide +kernel
theorem dM_least_7 : decode cM_least 7 = .ok (.invokestatic 97, 3) := by decide +kernel
theorem dM_least_10 : decode cM_least 10 = .ok (.isub, 1) := by decide +kernel
theorem dM_least_11 : decode cM_least 11 = .ok (.ireturn, 1) := by decide +kernel
theorem dM_scaleOf_0 : decode cM_scaleOf 0 = .ok (.iload_n 0, 1) := by decide +kernel
theorem dM_scaleOf_1 : decode cM_scaleOf 1 = .ok (.invokestatic 113, 3) := by decide +kernel
theorem dM_scaleOf_4 : decode cM_scaleOf 4 = .ok (.iload_n 0, 1) := by decide +kernel
theorem dM_scaleOf_5 : decode cM_scaleOf 5 = .ok (.lload_n 1, 1) := by decide +kernel
theorem dM_scaleOf_6 : decode cM_scaleOf 6 = .ok (.invokestatic 103, 3) := by decide +kernel
theorem dM_scaleOf_9 : decode cM_scaleOf 9 = .ok (.ifCond .ne 7, 3) := by decide +kernel
theorem dM_scaleOf_12 : decode cM_scaleOf 12 = .ok (.iconst 0, 1) := by decide +kernel
theorem dM_scaleOf_13 : decode cM_scaleOf 13 = .ok (.goto 10, 3) := by decide +kernel
theorem dM_scaleOf_16 : decode cM_scaleOf 16 = .ok (.iload_n 0, 1) := by decide +kernel
theorem dM_scaleOf_17 : decode cM_scaleOf 17 = .ok (.lload_n 1, 1) := by decide +kernel
theorem dM_scaleOf_18 : decode cM_scaleOf 18 = .ok (.invokestatic 103, 3) := by decide +kernel
theorem dM_scaleOf_21 : decode cM_scaleOf 21 = .ok (.iconst 1, 1) := by decide +kernel
theorem dM_scaleOf_22 : decode cM_scaleOf 22 = .ok (.isub, 1) := by decide +kernel
theorem dM_scaleOf_23 : decode cM_scaleOf 23 = .ok (.iadd, 1) := by decide +kernel
theorem dM_scaleOf_24 : decode cM_scaleOf 24 = .ok (.ireturn, 1) := by decide +kernel
theorem dM_theNone_0 : decode cM_theNone 0 = .ok (.iload_n 0, 1) := by decide +kernel
theorem dM_theNone_1 : decode cM_theNone 1 = .ok (.iconst 2, 1) := by decide +kernel
theorem dM_theNone_2 : decode cM_theNone 2 = .ok (.if_icmp .ne 9, 3) := by decide +kernel
theorem dM_theNone_5 : decode cM_theNone 5 = .ok (.ldc2_w 116, 3) := by decide +kernel
theorem dM_theNone_8 : decode cM_theNone 8 = .ok (.goto 6, 3) := by decide +kernel
theorem dM_theNone_11 : decode cM_theNone 11 = .ok (.ldc2_w 118, 3) := by decide +kernel
theorem dM_theNone_14 : decode cM_theNone 14 = .ok (.lreturn, 1) := by decide +kernel
theorem dM_infinite_0 : decode cM_infinite 0 = .ok (.iload_n 0, 1) := by decide +kernel
theorem dM_infinite_1 : decode cM_infinite 1 = .ok (.invokestatic 107, 3) := by decide +kernel
theorem dM_infinite_4 : decode cM_infinite 4 = .ok (.i2l, 1) := by decide +kernel
theorem dM_infinite_5 : decode cM_infinite 5 = .ok (.iload_n 0, 1) := by decide +kernel
theorem dM_infinite_6 : decode cM_infinite 6 = .ok (.invokestatic 97, 3) := by decide +kernel
theorem dM_infinite_9 : decode cM_infinite 9 = .ok (.iconst 1, 1) := by decide +kernel
theorem dM_infinite_10 : decode cM_infinite 10 = .ok (.isub, 1) := by decide +kernel
theorem dM_infinite_11 : decode cM_infinite 11 = .ok (.lshl, 1) := by decide +kernel
theorem dM_infinite_12 : decode cM_infinite 12 = .ok (.lreturn, 1) := by decide +kernel
theorem dM_signed_0 : decode cM_signed 0 = .ok (.iload_n 1, 1) := by decide +kernel
theorem dM_signed_1 : decode cM_signed 1 = .ok (.ifCond .eq 12, 3) := by decide +kernel
theorem dM_signed_4 : decode cM_signed 4 = .ok (.lload_n 2, 1) := by decide +kernel
theorem dM_signed_5 : decode cM_signed 5 = .ok (.iload_n 0, 1) := by decide +kernel
theorem dM_signed_6 : decode cM_signed 6 = .ok (.invokestatic 90, 3) := by decide +kernel
theorem dM_signed_9 : decode cM_signed 9 = .ok (.lor, 1) := by decide +kernel
theorem dM_signed_10 : decode cM_signed 10 = .ok (.goto 4, 3) := by decide +kernel
theorem dM_signed_13 : decode cM_signed 13 = .ok (.lload_n 2, 1) := by decide +kernel
theorem dM_signed_14 : decode cM_signed 14 = .ok (.lreturn, 1) := by decide +kernel
theorem dM_digit_0 : decode cM_digit 0 = .ok (.bipush 16, 2) := by decide +kernel
theorem dM_digit_2 : decode cM_digit 2 = .ok (.iload_n 3, 1) := by decide +kernel
theorem dM_digit_3 : decode cM_digit 3 = .ok (.imul, 1) := by decide +kernel
theorem dM_digit_4 : decode cM_digit 4 = .ok (.iload_n 2, 1) := by decide +kernel
theorem dM_digit_5 : decode cM_digit 5 = .ok (.isub, 1) := by decide +kernel
theorem dM_digit_6 : decode cM_digit 6 = .ok (.istore 4, 2) := by decide +kernel
theorem dM_digit_8 : decode cM_digit 8 = .ok (.iload 4, 2) := by decide +kernel
theorem dM_digit_10 : decode cM_digit 10 = .ok (.bipush 63, 2) := by decide +kernel
theorem dM_digit_12 : decode cM_digit 12 = .ok (.if_icmp .gt 10, 3) := by decide +kernel
theorem dM_digit_15 : decode cM_digit 15 = .ok (.iload 4, 2) := by decide +kernel
theorem dM_digit_17 : decode cM_digit 17 = .ok (.bipush (-15), 2) := by decide +kernel
theorem dM_digit_19 : decode cM_digit 19 = .ok (.if_icmp .ge 5, 3) := by decide +kernel
theorem dM_digit_22 : decode cM_digit 22 = .ok (.iconst 0, 1) := by decide +kernel
theorem dM_digit_23 : decode cM_digit 23 = .ok (.ireturn, 1) := by decide +kernel
theorem dM_digit_24 : decode cM_digit 24 = .ok (.iload 4, 2) := by decide +kernel
theorem dM_digit_26 : decode cM_digit 26 = .ok (.ifCond .lt 10, 3) := by decide +kernel
theorem dM_digit_29 : decode cM_digit 29 = .ok (.lload_n 0, 1) := by decide +kernel
theorem dM_digit_30 : decode cM_digit 30 = .ok (.iload 4, 2) := by decide +kernel
theorem dM_digit_32 : decode cM_digit 32 = .ok (.lushr, 1) := by decide +kernel
theorem dM_digit_33 : decode cM_digit 33 = .ok (.goto 8, 3) := by decide +kernel
theorem dM_digit_36 : decode cM_digit 36 = .ok (.lload_n 0, 1) := by decide +kernel
theorem dM_digit_37 : decode cM_digit 37 = .ok (.iload 4, 2) := by decide +kernel
theorem dM_digit_39 : decode cM_digit 39 = .ok (.ineg, 1) := by decide +kernel
theorem dM_digit_40 : decode cM_digit 40 = .ok (.lshl, 1) := by decide +kernel
theorem dM_digit_41 : decode cM_digit 41 = .ok (.l2i, 1) := by decide +kernel
theorem dM_digit_42 : decode cM_digit 42 = .ok (.ldc 120, 2) := by decide +kernel
theorem dM_digit_44 : decode cM_digit 44 = .ok (.iand, 1) := by decide +kernel
theorem dM_digit_45 : decode cM_digit 45 = .ok (.ireturn, 1) := by decide +kernel
theorem dM_highest_0 : decode cM_highest 0 = .ok (.bipush 63, 2) := by decide +kernel
theorem dM_highest_2 : decode cM_highest 2 = .ok (.istore_n 2, 1) := by decide +kernel
theorem dM_highest_3 : decode cM_highest 3 = .ok (.lload_n 0, 1) := by decide +kernel
theorem dM_highest_4 : decode cM_highest 4 = .ok (.iload_n 2, 1) := by decide +kernel
theorem dM_highest_5 : decode cM_highest 5 = .ok (.lushr, 1) := by decide +kernel
theorem dM_highest_6 : decode cM_highest 6 = .ok (.lconst 1, 1) := by decide +kernel
theorem dM_highest_7 : decode cM_highest 7 = .ok (.land, 1) := by decide +kernel
theorem dM_highest_8 : decode cM_highest 8 = .ok (.lconst 0, 1) := by decide +kernel
theorem dM_highest_9 : decode cM_highest 9 = .ok (.lcmp, 1) := by decide +kernel
theorem dM_highest_10 : decode cM_highest 10 = .ok (.ifCond .ne 9, 3) := by decide +kernel
theorem dM_highest_13 : decode cM_highest 13 = .ok (.iinc 2 (-1), 3) := by decide +kernel
theorem dM_highest_16 : decode cM_highest 16 = .ok (.goto (-13), 3) := by decide +kernel
theorem dM_highest_19 : decode cM_highest 19 = .ok (.iload_n 2, 1) := by decide +kernel
theorem dM_highest_20 : decode cM_highest 20 = .ok (.ireturn, 1) := by decide +kernel
theorem dM_isLess_0 : decode cM_isLess 0 = .ok (.iload_n 0, 1) := by decide +kernel
theorem dM_isLess_1 : decode cM_isLess 1 = .ok (.lload_n 1, 1) := by decide +kernel
theorem dM_isLess_2 : decode cM_isLess 2 = .ok (.invokestatic 191, 3) := by decide +kernel
theorem dM_isLess_5 : decode cM_isLess 5 = .ok (.istore 5, 2) := by decide +kernel
theorem dM_isLess_7 : decode cM_isLess 7 = .ok (.iload_n 0, 1) := by decide +kernel
theorem dM_isLess_8 : decode cM_isLess 8 = .ok (.lload_n 3, 1) := by decide +kernel
theorem dM_isLess_9 : decode cM_isLess 9 = .ok (.invokestatic 191, 3) := by decide +kernel
theorem dM_isLess_12 : decode cM_isLess 12 = .ok (.istore 6, 2) := by decide +kernel
theorem dM_isLess_14 : decode cM_isLess 14 = .ok (.iload 5, 2) := by decide +kernel
theorem dM_isLess_16 : decode cM_isLess 16 = .ok (.iload 6, 2) := by decide +kernel
theorem dM_isLess_18 : decode cM_isLess 18 = .ok (.if_icmp .eq 6, 3) := by decide +kernel
theorem dM_isLess_21 : decode cM_isLess 21 = .ok (.iload 5, 2) := by decide +kernel
theorem dM_isLess_23 : decode cM_isLess 23 = .ok (.ireturn, 1) := by decide +kernel
theorem dM_isLess_24 : decode cM_isLess 24 = .ok (.iload 5, 2) := by decide +kernel
theorem dM_isLess_26 : decode cM_isLess 26 = .ok (.ifCond .eq 25, 3) := by decide +kernel
theorem dM_isLess_29 : decode cM_isLess 29 = .ok (.iload_n 0, 1) := by decide +kernel
theorem dM_isLess_30 : decode cM_isLess 30 = .ok (.lload_n 1, 1) := by decide +kernel
theorem dM_isLess_31 : decode cM_isLess 31 = .ok (.invokestatic 94, 3) := by decide +kernel
theorem dM_isLess_34 : decode cM_isLess 34 = .ok (.iload_n 0, 1) := by decide +kernel
theorem dM_isLess_35 : decode cM_isLess 35 = .ok (.lload_n 3, 1) := by decide +kernel
theorem dM_isLess_36 : decode cM_isLess 36 = .ok (.invokestatic 94, 3) := by decide +kernel
theorem dM_isLess_39 : decode cM_isLess 39 = .ok (.lcmp, 1) := by decide +kernel
theorem dM_isLess_40 : decode cM_isLess 40 = .ok (.ifCond .le 7, 3) := by decide +kernel
theorem dM_isLess_43 : decode cM_isLess 43 = .ok (.iconst 1, 1) := by decide +kernel
theorem dM_isLess_44 : decode cM_isLess 44 = .ok (.goto 26, 3) := by decide +kernel
theorem dM_isLess_47 : decode cM_isLess 47 = .ok (.iconst 0, 1) := by decide +kernel
theorem dM_isLess_48 : decode cM_isLess 48 = .ok (.goto 22, 3) := by decide +kernel
theorem dM_isLess_51 : decode cM_isLess 51 = .ok (.iload_n 0, 1) := by decide +kernel
theorem dM_isLess_52 : decode cM_isLess 52 = .ok (.lload_n 1, 1) := by decide +kernel
theorem dM_isLess_53 : decode cM_isLess 53 = .ok (.invokestatic 94, 3) := by decide +kernel
theorem dM_isLess_56 : decode cM_isLess 56 = .ok (.iload_n 0, 1) := by decide +kernel
theorem dM_isLess_57 : decode cM_isLess 57 = .ok (.lload_n 3, 1) := by decide +kernel
theorem dM_isLess_58 : decode cM_isLess 58 = .ok (.invokestatic 94, 3) := by decide +kernel
theorem dM_isLess_61 : decode cM_isLess 61 = .ok (.lcmp, 1) := by decide +kernel
theorem dM_isLess_62 : decode cM_isLess 62 = .ok (.ifCond .ge 7, 3) := by decide +kernel
theorem dM_isLess_65 : decode cM_isLess 65 = .ok (.iconst 1, 1) := by decide +kernel
theorem dM_isLess_66 : decode cM_isLess 66 = .ok (.goto 4, 3) := by decide +kernel
theorem dM_isLess_69 : decode cM_isLess 69 = .ok (.iconst 0, 1) := by decide +kernel
theorem dM_isLess_70 : decode cM_isLess 70 = .ok (.ireturn, 1) := by decide +kernel
theorem dM_compareFloating_0 : decode cM_compareFloating 0 = .ok (.iload_n 1, 1) := by decide +kernel
theorem dM_compareFloating_1 : decode cM_compareFloating 1 = .ok (.lload_n 2, 1) := by decide +kernel
theorem dM_compareFloating_2 : decode cM_compareFloating 2 = .ok (.invokestatic 227, 3) := by decide +kernel
theorem dM_compareFloating_5 : decode cM_compareFloating 5 = .ok (.ifCond .ne 12, 3) := by decide +kernel
theorem dM_compareFloating_8 : decode cM_compareFloating 8 = .ok (.iload_n 1, 1) := by decide +kernel
theorem dM_compareFloating_9 : decode cM_compareFloating 9 = .ok (.lload 4, 2) := by decide +kernel
theorem dM_compareFloating_11 : decode cM_compareFloating 11 = .ok (.invokestatic 227, 3) := by decide +kernel
theorem dM_compareFloating_14 : decode cM_compareFloating 14 = .ok (.ifCond .eq 17, 3) := by decide +kernel
theorem dM_compareFloating_17 : decode cM_compareFloating 17 = .ok (.iload_n 0, 1) := by decide +kernel
theorem dM_compareFloating_18 : decode cM_compareFloating 18 = .ok (.iconst 1, 1) := by decide +kernel
theorem dM_compareFloating_19 : decode cM_compareFloating 19 = .ok (.if_icmp .ne 7, 3) := by decide +kernel
theorem dM_compareFloating_22 : decode cM_compareFloating 22 = .ok (.iconst 1, 1) := by decide +kernel
theorem dM_compareFloating_23 : decode cM_compareFloating 23 = .ok (.goto 4, 3) := by decide +kernel
theorem dM_compareFloating_26 : decode cM_compareFloating 26 = .ok (.iconst 0, 1) := by decide +kernel
theorem dM_compareFloating_27 : decode cM_compareFloating 27 = .ok (.invokestatic 49, 3) := by decide +kernel
theorem dM_compareFloating_30 : decode cM_compareFloating 30 = .ok (.lreturn, 1) := by decide +kernel
theorem dM_compareFloating_31 : decode cM_compareFloating 31 = .ok (.lload_n 2, 1) := by decide +kernel
theorem dM_compareFloating_32 : decode cM_compareFloating 32 = .ok (.lload 4, 2) := by decide +kernel
theorem dM_compareFloating_34 : decode cM_compareFloating 34 = .ok (.lcmp, 1) := by decide +kernel
theorem dM_compareFloating_35 : decode cM_compareFloating 35 = .ok (.ifCond .eq 20, 3) := by decide +kernel
theorem dM_compareFloating_38 : decode cM_compareFloating 38 = .ok (.iload_n 1, 1) := by decide +kernel
theorem dM_compareFloating_39 : decode cM_compareFloating 39 = .ok (.lload_n 2, 1) := by decide +kernel
theorem dM_compareFloating_40 : decode cM_compareFloating 40 = .ok (.invokestatic 201, 3) := by decide +kernel
theorem dM_compareFloating_43 : decode cM_compareFloating 43 = .ok (.ifCond .eq 16, 3) := by decide +kernel
theorem dM_compareFloating_46 : decode cM_compareFloating 46 = .ok (.iload_n 1, 1) := by decide +kernel
theorem dM_compareFloating_47 : decode cM_compareFloating 47 = .ok (.lload 4, 2) := by decide +kernel
theorem dM_compareFloating_49 : decode cM_compareFloating 49 = .ok (.invokestatic 201, 3) := by decide +kernel
theorem dM_compareFloating_52 : decode cM_compareFloating 52 = .ok (.ifCond .eq 7, 3) := by decide +kernel
theorem dM_compareFloating_55 : decode cM_compareFloating 55 = .ok (.iconst 1, 1) := by decide +kernel
theorem dM_compareFloating_56 : decode cM_compareFloating 56 = .ok (.goto 4, 3) := by decide +kernel
theorem dM_compareFloating_59 : decode cM_compareFloating 59 = .ok (.iconst 0, 1) := by decide +kernel
theorem dM_compareFloating_60 : decode cM_compareFloating 60 = .ok (.istore 6, 2) := by decide +kernel
theorem dM_compareFloating_62 : decode cM_compareFloating 62 = .ok (.iload 6, 2) := by decide +kernel
theorem dM_compareFloating_64 : decode cM_compareFloating 64 = .ok (.ifCond .ne 17, 3) := by decide +kernel
theorem dM_compareFloating_67 : decode cM_compareFloating 67 = .ok (.iload_n 1, 1) := by decide +kernel
theorem dM_compareFloating_68 : decode cM_compareFloating 68 = .ok (.lload_n 2, 1) := by decide +kernel
theorem dM_compareFloating_69 : decode cM_compareFloating 69 = .ok (.lload 4, 2) := by decide +kernel
theorem dM_compareFloating_71 : decode cM_compareFloating 71 = .ok (.invokestatic 242, 3) := by decide +kernel
theorem dM_compareFloating_74 : decode cM_compareFloating 74 = .ok (.ifCond .eq 7, 3) := by decide +kernel
theorem dM_compareFloating_77 : decode cM_compareFloating 77 = .ok (.iconst 1, 1) := by decide +kernel
theorem dM_compareFloating_78 : decode cM_compareFloating 78 = .ok (.goto 4, 3) := by decide +kernel
theorem dM_compareFloating_81 : decode cM_compareFloating 81 = .ok (.iconst 0, 1) := by decide +kernel
theorem dM_compareFloating_82 : decode cM_compareFloating 82 = .ok (.istore 7, 2) := by decide +kernel
theorem dM_compareFloating_84 : decode cM_compareFloating 84 = .ok (.iload_n 0, 1) := by decide +kernel
theorem dM_compareFloating_85 : decode cM_compareFloating 85 = .ok (.tableswitch 99 0 4 #[35, 41, 55, 61, 80], 35) := by decide +kernel
theorem dM_compareFloating_120 : decode cM_compareFloating 120 = .ok (.iload 6, 2) := by decide +kernel
theorem dM_compareFloating_122 : decode cM_compareFloating 122 = .ok (.invokestatic 49, 3) := by decide +kernel
theorem dM_compareFloating_125 : decode cM_compareFloating 125 = .ok (.lreturn, 1) := by decide +kernel
theorem dM_compareFloating_126 : decode cM_compareFloating 126 = .ok (.iload 6, 2) := by decide +kernel
theorem dM_compareFloating_128 : decode cM_compareFloating 128 = .ok (.ifCond .ne 7, 3) := by decide +kernel
theorem dM_compareFloating_131 : decode cM_compareFloating 131 = .ok (.iconst 1, 1) := by decide +kernel
theorem dM_compareFloating_132 : decode cM_compareFloating 132 = .ok (.goto 4, 3) := by decide +kernel
theorem dM_compareFloating_135 : decode cM_compareFloating 135 = .ok (.iconst 0, 1) := by decide +kernel
theorem dM_compareFloating_136 : decode cM_compareFloating 136 = .ok (.invokestatic 49, 3) := by decide +kernel
theorem dM_compareFloating_139 : decode cM_compareFloating 139 = .ok (.lreturn, 1) := by decide +kernel
theorem dM_compareFloating_140 : decode cM_compareFloating 140 = .ok (.iload 7, 2) := by decide +kernel
theorem dM_compareFloating_142 : decode cM_compareFloating 142 = .ok (.invokestatic 49, 3) := by decide +kernel
theorem dM_compareFloating_145 : decode cM_compareFloating 145 = .ok (.lreturn, 1) := by decide +kernel
theorem dM_compareFloating_146 : decode cM_compareFloating 146 = .ok (.iload 6, 2) := by decide +kernel
theorem dM_compareFloating_148 : decode cM_compareFloating 148 = .ok (.ifCond .ne 12, 3) := by decide +kernel
theorem dM_compareFloating_151 : decode cM_compareFloating 151 = .ok (.iload 7, 2) := by decide +kernel
theorem dM_compareFloating_153 : decode cM_compareFloating 153 = .ok (.ifCond .ne 7, 3) := by decide +kernel
theorem dM_compareFloating_156 : decode cM_compareFloating 156 = .ok (.iconst 1, 1) := by decide +kernel
theorem dM_compareFloating_157 : decode cM_compareFloating 157 = .ok (.goto 4, 3) := by decide +kernel
theorem dM_compareFloating_160 : decode cM_compareFloating 160 = .ok (.iconst 0, 1) := by decide +kernel
theorem dM_compareFloating_161 : decode cM_compareFloating 161 = .ok (.invokestatic 49, 3) := by decide +kernel
theorem dM_compareFloating_164 : decode cM_compareFloating 164 = .ok (.lreturn, 1) := by decide +kernel
theorem dM_compareFloating_165 : decode cM_compareFloating 165 = .ok (.iload 6, 2) := by decide +kernel
theorem dM_compareFloating_167 : decode cM_compareFloating 167 = .ok (.ifCond .ne 8, 3) := by decide +kernel
theorem dM_compareFloating_170 : decode cM_compareFloating 170 = .ok (.iload 7, 2) := by decide +kernel
theorem dM_compareFloating_172 : decode cM_compareFloating 172 = .ok (.ifCond .eq 7, 3) := by decide +kernel
theorem dM_compareFloating_175 : decode cM_compareFloating 175 = .ok (.iconst 1, 1) := by decide +kernel
theorem dM_compareFloating_176 : decode cM_compareFloating 176 = .ok (.goto 4, 3) := by decide +kernel
theorem dM_compareFloating_179 : decode cM_compareFloating 179 = .ok (.iconst 0, 1) := by decide +kernel
theorem dM_compareFloating_180 : decode cM_compareFloating 180 = .ok (.invokestatic 49, 3) := by decide +kernel
theorem dM_compareFloating_183 : decode cM_compareFloating 183 = .ok (.lreturn, 1) := by decide +kernel
theorem dM_compareFloating_184 : decode cM_compareFloating 184 = .ok (.iload 7, 2) := by decide +kernel
theorem dM_compareFloating_186 : decode cM_compareFloating 186 = .ok (.ifCond .ne 7, 3) := by decide +kernel
theorem dM_compareFloating_189 : decode cM_compareFloating 189 = .ok (.iconst 1, 1) := by decide +kernel
theorem dM_compareFloating_190 : decode cM_compareFloating 190 = .ok (.goto 4, 3) := by decide +kernel
theorem dM_compareFloating_193 : decode cM_compareFloating 193 = .ok (.iconst 0, 1) := by decide +kernel
theorem dM_compareFloating_194 : decode cM_compareFloating 194 = .ok (.invokestatic 49, 3) := by decide +kernel
theorem dM_compareFloating_197 : decode cM_compareFloating 197 = .ok (.lreturn, 1) := by decide +kernel
