theorem d_M_init_0 : decode c_M_init 0 = .ok (.aload_n 0, 1) := by decide +kernel
theorem d_M_init_1 : decode c_M_init 1 = .ok (.invokespecial 1, 3) := by decide +kernel
theorem d_M_init_4 : decode c_M_init 4 = .ok (.aload_n 0, 1) := by decide +kernel
theorem d_M_init_5 : decode c_M_init 5 = .ok (.bipush 48, 2) := by decide +kernel
theorem d_M_init_7 : decode c_M_init 7 = .ok (.newarray .int, 2) := by decide +kernel
theorem d_M_init_9 : decode c_M_init 9 = .ok (.putfield 7, 3) := by decide +kernel
theorem d_M_init_12 : decode c_M_init 12 = .ok (.aload_n 0, 1) := by decide +kernel
theorem d_M_init_13 : decode c_M_init 13 = .ok (.sipush 1152, 3) := by decide +kernel
theorem d_M_init_16 : decode c_M_init 16 = .ok (.newarray .int, 2) := by decide +kernel
theorem d_M_init_18 : decode c_M_init 18 = .ok (.putfield 13, 3) := by decide +kernel
theorem d_M_init_21 : decode c_M_init 21 = .ok (.aload_n 0, 1) := by decide +kernel
theorem d_M_init_22 : decode c_M_init 22 = .ok (.bipush 8, 2) := by decide +kernel
theorem d_M_init_24 : decode c_M_init 24 = .ok (.newarray .int, 2) := by decide +kernel
theorem d_M_init_26 : decode c_M_init 26 = .ok (.putfield 16, 3) := by decide +kernel
theorem d_M_init_29 : decode c_M_init 29 = .ok (.aload_n 0, 1) := by decide +kernel
theorem d_M_init_30 : decode c_M_init 30 = .ok (.sipush 288, 3) := by decide +kernel
theorem d_M_init_33 : decode c_M_init 33 = .ok (.newarray .int, 2) := by decide +kernel
theorem d_M_init_35 : decode c_M_init 35 = .ok (.putfield 19, 3) := by decide +kernel
theorem d_M_init_38 : decode c_M_init 38 = .ok (.aload_n 0, 1) := by decide +kernel
theorem d_M_init_39 : decode c_M_init 39 = .ok (.iconst 2, 1) := by decide +kernel
theorem d_M_init_40 : decode c_M_init 40 = .ok (.newarray .int, 2) := by decide +kernel
theorem d_M_init_42 : decode c_M_init 42 = .ok (.putfield 22, 3) := by decide +kernel
theorem d_M_init_45 : decode c_M_init 45 = .ok (.aload_n 0, 1) := by decide +kernel
theorem d_M_init_46 : decode c_M_init 46 = .ok (.sipush 1008, 3) := by decide +kernel
theorem d_M_init_49 : decode c_M_init 49 = .ok (.newarray .int, 2) := by decide +kernel
theorem d_M_init_51 : decode c_M_init 51 = .ok (.putfield 25, 3) := by decide +kernel
theorem d_M_init_54 : decode c_M_init 54 = .ok (.aload_n 0, 1) := by decide +kernel
theorem d_M_init_55 : decode c_M_init 55 = .ok (.bipush 6, 2) := by decide +kernel
theorem d_M_init_57 : decode c_M_init 57 = .ok (.newarray .int, 2) := by decide +kernel
theorem d_M_init_59 : decode c_M_init 59 = .ok (.putfield 28, 3) := by decide +kernel
theorem d_M_init_62 : decode c_M_init 62 = .ok (.aload_n 0, 1) := by decide +kernel
theorem d_M_init_63 : decode c_M_init 63 = .ok (.bipush 6, 2) := by decide +kernel
theorem d_M_init_65 : decode c_M_init 65 = .ok (.newarray .int, 2) := by decide +kernel
theorem d_M_init_67 : decode c_M_init 67 = .ok (.putfield 31, 3) := by decide +kernel
theorem d_M_init_70 : decode c_M_init 70 = .ok (.aload_n 0, 1) := by decide +kernel
theorem d_M_init_71 : decode c_M_init 71 = .ok (.bipush 12, 2) := by decide +kernel
theorem d_M_init_73 : decode c_M_init 73 = .ok (.newarray .int, 2) := by decide +kernel
theorem d_M_init_75 : decode c_M_init 75 = .ok (.putfield 34, 3) := by decide +kernel
theorem d_M_init_78 : decode c_M_init 78 = .ok (.aload_n 0, 1) := by decide +kernel
theorem d_M_init_79 : decode c_M_init 79 = .ok (.bipush 12, 2) := by decide +kernel
theorem d_M_init_81 : decode c_M_init 81 = .ok (.newarray .int, 2) := by decide +kernel
theorem d_M_init_83 : decode c_M_init 83 = .ok (.putfield 37, 3) := by decide +kernel
theorem d_M_init_86 : decode c_M_init 86 = .ok (.aload_n 0, 1) := by decide +kernel
theorem d_M_init_87 : decode c_M_init 87 = .ok (.bipush 12, 2) := by decide +kernel
theorem d_M_init_89 : decode c_M_init 89 = .ok (.newarray .int, 2) := by decide +kernel
theorem d_M_init_91 : decode c_M_init 91 = .ok (.putfield 40, 3) := by decide +kernel
theorem d_M_init_94 : decode c_M_init 94 = .ok (.aload_n 0, 1) := by decide +kernel
theorem d_M_init_95 : decode c_M_init 95 = .ok (.bipush 12, 2) := by decide +kernel
theorem d_M_init_97 : decode c_M_init 97 = .ok (.newarray .int, 2) := by decide +kernel
theorem d_M_init_99 : decode c_M_init 99 = .ok (.putfield 43, 3) := by decide +kernel
theorem d_M_init_102 : decode c_M_init 102 = .ok (.aload_n 0, 1) := by decide +kernel
theorem d_M_init_103 : decode c_M_init 103 = .ok (.bipush 12, 2) := by decide +kernel
theorem d_M_init_105 : decode c_M_init 105 = .ok (.newarray .long, 2) := by decide +kernel
theorem d_M_init_107 : decode c_M_init 107 = .ok (.putfield 46, 3) := by decide +kernel
theorem d_M_init_110 : decode c_M_init 110 = .ok (.aload_n 0, 1) := by decide +kernel
theorem d_M_init_111 : decode c_M_init 111 = .ok (.bipush 12, 2) := by decide +kernel
theorem d_M_init_113 : decode c_M_init 113 = .ok (.newarray .long, 2) := by decide +kernel
theorem d_M_init_115 : decode c_M_init 115 = .ok (.putfield 50, 3) := by decide +kernel
theorem d_M_init_118 : decode c_M_init 118 = .ok (.aload_n 0, 1) := by decide +kernel
theorem d_M_init_119 : decode c_M_init 119 = .ok (.iconst 5, 1) := by decide +kernel
theorem d_M_init_120 : decode c_M_init 120 = .ok (.newarray .int, 2) := by decide +kernel
theorem d_M_init_122 : decode c_M_init 122 = .ok (.putfield 53, 3) := by decide +kernel
theorem d_M_init_125 : decode c_M_init 125 = .ok (.return_, 1) := by decide +kernel
theorem d_M_thrown_0 : decode c_M_thrown 0 = .ok (.aload_n 0, 1) := by decide +kernel
theorem d_M_thrown_1 : decode c_M_thrown 1 = .ok (.getfield 56, 3) := by decide +kernel
theorem d_M_thrown_4 : decode c_M_thrown 4 = .ok (.ireturn, 1) := by decide +kernel
theorem d_M_isIn_0 : decode c_M_isIn 0 = .ok (.iload_n 0, 1) := by decide +kernel
theorem d_M_isIn_1 : decode c_M_isIn 1 = .ok (.iload_n 1, 1) := by decide +kernel
theorem d_M_isIn_2 : decode c_M_isIn 2 = .ok (.if_icmp .lt 12, 3) := by decide +kernel
theorem d_M_isIn_5 : decode c_M_isIn 5 = .ok (.iload_n 0, 1) := by decide +kernel
theorem d_M_isIn_6 : decode c_M_isIn 6 = .ok (.iload_n 2, 1) := by decide +kernel
theorem d_M_isIn_7 : decode c_M_isIn 7 = .ok (.if_icmp .gt 7, 3) := by decide +kernel
theorem d_M_isIn_10 : decode c_M_isIn 10 = .ok (.iconst 1, 1) := by decide +kernel
theorem d_M_isIn_11 : decode c_M_isIn 11 = .ok (.goto 4, 3) := by decide +kernel
theorem d_M_isIn_14 : decode c_M_isIn 14 = .ok (.iconst 0, 1) := by decide +kernel
theorem d_M_isIn_15 : decode c_M_isIn 15 = .ok (.ireturn, 1) := by decide +kernel
theorem d_M_noPart_0 : decode c_M_noPart 0 = .ok (.iload_n 1, 1) := by decide +kernel
theorem d_M_noPart_1 : decode c_M_noPart 1 = .ok (.ifCond .lt 11, 3) := by decide +kernel
theorem d_M_noPart_4 : decode c_M_noPart 4 = .ok (.iload_n 1, 1) := by decide +kernel
theorem d_M_noPart_5 : decode c_M_noPart 5 = .ok (.aload_n 0, 1) := by decide +kernel
theorem d_M_noPart_6 : decode c_M_noPart 6 = .ok (.getfield 60, 3) := by decide +kernel
theorem d_M_noPart_9 : decode c_M_noPart 9 = .ok (.if_icmp .lt 7, 3) := by decide +kernel
theorem d_M_noPart_12 : decode c_M_noPart 12 = .ok (.iconst 1, 1) := by decide +kernel
theorem d_M_noPart_13 : decode c_M_noPart 13 = .ok (.goto 4, 3) := by decide +kernel
theorem d_M_noPart_16 : decode c_M_noPart 16 = .ok (.iconst 0, 1) := by decide +kernel
theorem d_M_noPart_17 : decode c_M_noPart 17 = .ok (.ireturn, 1) := by decide +kernel
theorem d_M_more_0 : decode c_M_more 0 = .ok (.iload_n 0, 1) := by decide +kernel
theorem d_M_more_1 : decode c_M_more 1 = .ok (.iload_n 1, 1) := by decide +kernel
theorem d_M_more_2 : decode c_M_more 2 = .ok (.if_icmp .le 7, 3) := by decide +kernel
theorem d_M_more_5 : decode c_M_more 5 = .ok (.iload_n 0, 1) := by decide +kernel
theorem d_M_more_6 : decode c_M_more 6 = .ok (.goto 4, 3) := by decide +kernel
theorem d_M_more_9 : decode c_M_more 9 = .ok (.iload_n 1, 1) := by decide +kernel
theorem d_M_more_10 : decode c_M_more 10 = .ok (.ireturn, 1) := by decide +kernel
theorem d_M_less_0 : decode c_M_less 0 = .ok (.iload_n 0, 1) := by decide +kernel
theorem d_M_less_1 : decode c_M_less 1 = .ok (.iload_n 1, 1) := by decide +kernel
theorem d_M_less_2 : decode c_M_less 2 = .ok (.if_icmp .ge 7, 3) := by decide +kernel
theorem d_M_less_5 : decode c_M_less 5 = .ok (.iload_n 0, 1) := by decide +kernel
theorem d_M_less_6 : decode c_M_less 6 = .ok (.goto 4, 3) := by decide +kernel
theorem d_M_less_9 : decode c_M_less 9 = .ok (.iload_n 1, 1) := by decide +kernel
theorem d_M_less_10 : decode c_M_less 10 = .ok (.ireturn, 1) := by decide +kernel
theorem d_M_part_0 : decode c_M_part 0 = .ok (.iload_n 1, 1) := by decide +kernel
theorem d_M_part_1 : decode c_M_part 1 = .ok (.sipush (-1000), 3) := by decide +kernel
theorem d_M_part_4 : decode c_M_part 4 = .ok (.sipush 1000, 3) := by decide +kernel
theorem d_M_part_7 : decode c_M_part 7 = .ok (.invokestatic 63, 3) := by decide +kernel
theorem d_M_part_10 : decode c_M_part 10 = .ok (.ifCond .eq 69, 3) := by decide +kernel
theorem d_M_part_13 : decode c_M_part 13 = .ok (.iload_n 2, 1) := by decide +kernel
theorem d_M_part_14 : decode c_M_part 14 = .ok (.sipush (-1000), 3) := by decide +kernel
theorem d_M_part_17 : decode c_M_part 17 = .ok (.sipush 1000, 3) := by decide +kernel
theorem d_M_part_20 : decode c_M_part 20 = .ok (.invokestatic 63, 3) := by decide +kernel
theorem d_M_part_23 : decode c_M_part 23 = .ok (.ifCond .eq 56, 3) := by decide +kernel
theorem d_M_part_26 : decode c_M_part 26 = .ok (.iload_n 3, 1) := by decide +kernel
theorem d_M_part_27 : decode c_M_part 27 = .ok (.sipush (-1000), 3) := by decide +kernel
theorem d_M_part_30 : decode c_M_part 30 = .ok (.sipush 1000, 3) := by decide +kernel
theorem d_M_part_33 : decode c_M_part 33 = .ok (.invokestatic 63, 3) := by decide +kernel
theorem d_M_part_36 : decode c_M_part 36 = .ok (.ifCond .eq 43, 3) := by decide +kernel
theorem d_M_part_39 : decode c_M_part 39 = .ok (.iload 4, 2) := by decide +kernel
theorem d_M_part_41 : decode c_M_part 41 = .ok (.iconst 1, 1) := by decide +kernel
theorem d_M_part_42 : decode c_M_part 42 = .ok (.sipush 1000, 3) := by decide +kernel
theorem d_M_part_45 : decode c_M_part 45 = .ok (.invokestatic 63, 3) := by decide +kernel
theorem d_M_part_48 : decode c_M_part 48 = .ok (.ifCond .eq 31, 3) := by decide +kernel
theorem d_M_part_51 : decode c_M_part 51 = .ok (.iload 5, 2) := by decide +kernel
theorem d_M_part_53 : decode c_M_part 53 = .ok (.iconst 1, 1) := by decide +kernel
theorem d_M_part_54 : decode c_M_part 54 = .ok (.sipush 1000, 3) := by decide +kernel
theorem d_M_part_57 : decode c_M_part 57 = .ok (.invokestatic 63, 3) := by decide +kernel
theorem d_M_part_60 : decode c_M_part 60 = .ok (.ifCond .eq 19, 3) := by decide +kernel
theorem d_M_part_63 : decode c_M_part 63 = .ok (.iload 6, 2) := by decide +kernel
theorem d_M_part_65 : decode c_M_part 65 = .ok (.iconst 1, 1) := by decide +kernel
theorem d_M_part_66 : decode c_M_part 66 = .ok (.sipush 1000, 3) := by decide +kernel
theorem d_M_part_69 : decode c_M_part 69 = .ok (.invokestatic 63, 3) := by decide +kernel
theorem d_M_part_72 : decode c_M_part 72 = .ok (.ifCond .eq 7, 3) := by decide +kernel
theorem d_M_part_75 : decode c_M_part 75 = .ok (.iconst 1, 1) := by decide +kernel
theorem d_M_part_76 : decode c_M_part 76 = .ok (.goto 4, 3) := by decide +kernel
theorem d_M_part_79 : decode c_M_part 79 = .ok (.iconst 0, 1) := by decide +kernel
theorem d_M_part_80 : decode c_M_part 80 = .ok (.istore 7, 2) := by decide +kernel
theorem d_M_part_82 : decode c_M_part 82 = .ok (.aload_n 0, 1) := by decide +kernel
theorem d_M_part_83 : decode c_M_part 83 = .ok (.iload 7, 2) := by decide +kernel
theorem d_M_part_85 : decode c_M_part 85 = .ok (.ifCond .ne 7, 3) := by decide +kernel
theorem d_M_part_88 : decode c_M_part 88 = .ok (.iconst 1, 1) := by decide +kernel
theorem d_M_part_89 : decode c_M_part 89 = .ok (.goto 17, 3) := by decide +kernel
theorem d_M_part_92 : decode c_M_part 92 = .ok (.aload_n 0, 1) := by decide +kernel
theorem d_M_part_93 : decode c_M_part 93 = .ok (.getfield 60, 3) := by decide +kernel
theorem d_M_part_96 : decode c_M_part 96 = .ok (.bipush 8, 2) := by decide +kernel
theorem d_M_part_98 : decode c_M_part 98 = .ok (.if_icmp .ne 7, 3) := by decide +kernel
theorem d_M_part_101 : decode c_M_part 101 = .ok (.iconst 2, 1) := by decide +kernel
theorem d_M_part_102 : decode c_M_part 102 = .ok (.goto 4, 3) := by decide +kernel
theorem d_M_part_105 : decode c_M_part 105 = .ok (.iconst 0, 1) := by decide +kernel
theorem d_M_part_106 : decode c_M_part 106 = .ok (.putfield 56, 3) := by decide +kernel
theorem d_M_part_109 : decode c_M_part 109 = .ok (.aload_n 0, 1) := by decide +kernel
theorem d_M_part_110 : decode c_M_part 110 = .ok (.getfield 56, 3) := by decide +kernel
theorem d_M_part_113 : decode c_M_part 113 = .ok (.ifCond .le 5, 3) := by decide +kernel
theorem d_M_part_116 : decode c_M_part 116 = .ok (.iconst 0, 1) := by decide +kernel
theorem d_M_part_117 : decode c_M_part 117 = .ok (.ireturn, 1) := by decide +kernel
theorem d_M_part_118 : decode c_M_part 118 = .ok (.aload_n 0, 1) := by decide +kernel
theorem d_M_part_119 : decode c_M_part 119 = .ok (.iload_n 1, 1) := by decide +kernel
theorem d_M_part_120 : decode c_M_part 120 = .ok (.iload_n 2, 1) := by decide +kernel
theorem d_M_part_121 : decode c_M_part 121 = .ok (.iload_n 3, 1) := by decide +kernel
theorem d_M_part_122 : decode c_M_part 122 = .ok (.iload 4, 2) := by decide +kernel
theorem d_M_part_124 : decode c_M_part 124 = .ok (.iload 5, 2) := by decide +kernel
theorem d_M_part_126 : decode c_M_part 126 = .ok (.iload 6, 2) := by decide +kernel
theorem d_M_part_128 : decode c_M_part 128 = .ok (.invokevirtual 67, 3) := by decide +kernel
theorem d_M_part_131 : decode c_M_part 131 = .ok (.iconst 0, 1) := by decide +kernel
theorem d_M_part_132 : decode c_M_part 132 = .ok (.istore 8, 2) := by decide +kernel
theorem d_M_part_134 : decode c_M_part 134 = .ok (.iload 8, 2) := by decide +kernel
theorem d_M_part_136 : decode c_M_part 136 = .ok (.bipush 6, 2) := by decide +kernel
theorem d_M_part_138 : decode c_M_part 138 = .ok (.if_icmp .ge 54, 3) := by decide +kernel
theorem d_M_part_141 : decode c_M_part 141 = .ok (.aload_n 0, 1) := by decide +kernel
theorem d_M_part_142 : decode c_M_part 142 = .ok (.getfield 7, 3) := by decide +kernel
theorem d_M_part_145 : decode c_M_part 145 = .ok (.bipush 6, 2) := by decide +kernel
theorem d_M_part_147 : decode c_M_part 147 = .ok (.aload_n 0, 1) := by decide +kernel
theorem d_M_part_148 : decode c_M_part 148 = .ok (.getfield 60, 3) := by decide +kernel
theorem d_M_part_151 : decode c_M_part 151 = .ok (.imul, 1) := by decide +kernel
theorem d_M_part_152 : decode c_M_part 152 = .ok (.iload 8, 2) := by decide +kernel
theorem d_M_part_154 : decode c_M_part 154 = .ok (.iadd, 1) := by decide +kernel
theorem d_M_part_155 : decode c_M_part 155 = .ok (.aload_n 0, 1) := by decide +kernel
theorem d_M_part_156 : decode c_M_part 156 = .ok (.getfield 28, 3) := by decide +kernel
theorem d_M_part_159 : decode c_M_part 159 = .ok (.iload 8, 2) := by decide +kernel
theorem d_M_part_161 : decode c_M_part 161 = .ok (.iaload, 1) := by decide +kernel
theorem d_M_part_162 : decode c_M_part 162 = .ok (.iastore, 1) := by decide +kernel
theorem d_M_part_163 : decode c_M_part 163 = .ok (.aload_n 0, 1) := by decide +kernel
theorem d_M_part_164 : decode c_M_part 164 = .ok (.getfield 13, 3) := by decide +kernel
theorem d_M_part_167 : decode c_M_part 167 = .ok (.sipush 144, 3) := by decide +kernel
theorem d_M_part_170 : decode c_M_part 170 = .ok (.aload_n 0, 1) := by decide +kernel
theorem d_M_part_171 : decode c_M_part 171 = .ok (.getfield 60, 3) := by decide +kernel
theorem d_M_part_174 : decode c_M_part 174 = .ok (.imul, 1) := by decide +kernel
theorem d_M_part_175 : decode c_M_part 175 = .ok (.iload 8, 2) := by decide +kernel
theorem d_M_part_177 : decode c_M_part 177 = .ok (.iadd, 1) := by decide +kernel
theorem d_M_part_178 : decode c_M_part 178 = .ok (.aload_n 0, 1) := by decide +kernel
theorem d_M_part_179 : decode c_M_part 179 = .ok (.getfield 28, 3) := by decide +kernel
theorem d_M_part_182 : decode c_M_part 182 = .ok (.iload 8, 2) := by decide +kernel
theorem d_M_part_184 : decode c_M_part 184 = .ok (.iaload, 1) := by decide +kernel
theorem d_M_part_185 : decode c_M_part 185 = .ok (.iastore, 1) := by decide +kernel
theorem d_M_part_186 : decode c_M_part 186 = .ok (.iinc 8 1, 3) := by decide +kernel
theorem d_M_part_189 : decode c_M_part 189 = .ok (.goto (-55), 3) := by decide +kernel
theorem d_M_part_192 : decode c_M_part 192 = .ok (.aload_n 0, 1) := by decide +kernel
theorem d_M_part_193 : decode c_M_part 193 = .ok (.getfield 16, 3) := by decide +kernel
theorem d_M_part_196 : decode c_M_part 196 = .ok (.aload_n 0, 1) := by decide +kernel
theorem d_M_part_197 : decode c_M_part 197 = .ok (.getfield 60, 3) := by decide +kernel
theorem d_M_part_200 : decode c_M_part 200 = .ok (.iconst 1, 1) := by decide +kernel
theorem d_M_part_201 : decode c_M_part 201 = .ok (.iastore, 1) := by decide +kernel
theorem d_M_part_202 : decode c_M_part 202 = .ok (.aload_n 0, 1) := by decide +kernel
theorem d_M_part_203 : decode c_M_part 203 = .ok (.dup, 1) := by decide +kernel
theorem d_M_part_204 : decode c_M_part 204 = .ok (.getfield 60, 3) := by decide +kernel
theorem d_M_part_207 : decode c_M_part 207 = .ok (.iconst 1, 1) := by decide +kernel
theorem d_M_part_208 : decode c_M_part 208 = .ok (.iadd, 1) := by decide +kernel
theorem d_M_part_209 : decode c_M_part 209 = .ok (.putfield 60, 3) := by decide +kernel
theorem d_M_part_212 : decode c_M_part 212 = .ok (.aload_n 0, 1) := by decide +kernel
theorem d_M_part_213 : decode c_M_part 213 = .ok (.getfield 60, 3) := by decide +kernel
theorem d_M_part_216 : decode c_M_part 216 = .ok (.iconst 1, 1) := by decide +kernel
theorem d_M_part_217 : decode c_M_part 217 = .ok (.isub, 1) := by decide +kernel
theorem d_M_part_218 : decode c_M_part 218 = .ok (.ireturn, 1) := by decide +kernel
theorem d_M_tell_0 : decode c_M_tell 0 = .ok (.aload_n 0, 1) := by decide +kernel
theorem d_M_tell_1 : decode c_M_tell 1 = .ok (.getfield 28, 3) := by decide +kernel
theorem d_M_tell_4 : decode c_M_tell 4 = .ok (.iconst 0, 1) := by decide +kernel
theorem d_M_tell_5 : decode c_M_tell 5 = .ok (.iload_n 1, 1) := by decide +kernel
theorem d_M_tell_6 : decode c_M_tell 6 = .ok (.iastore, 1) := by decide +kernel
theorem d_M_tell_7 : decode c_M_tell 7 = .ok (.aload_n 0, 1) := by decide +kernel
theorem d_M_tell_8 : decode c_M_tell 8 = .ok (.getfield 28, 3) := by decide +kernel
theorem d_M_tell_11 : decode c_M_tell 11 = .ok (.iconst 1, 1) := by decide +kernel
theorem d_M_tell_12 : decode c_M_tell 12 = .ok (.iload_n 2, 1) := by decide +kernel
theorem d_M_tell_13 : decode c_M_tell 13 = .ok (.iastore, 1) := by decide +kernel
theorem d_M_tell_14 : decode c_M_tell 14 = .ok (.aload_n 0, 1) := by decide +kernel
theorem d_M_tell_15 : decode c_M_tell 15 = .ok (.getfield 28, 3) := by decide +kernel
theorem d_M_tell_18 : decode c_M_tell 18 = .ok (.iconst 2, 1) := by decide +kernel
theorem d_M_tell_19 : decode c_M_tell 19 = .ok (.iload_n 3, 1) := by decide +kernel
theorem d_M_tell_20 : decode c_M_tell 20 = .ok (.iastore, 1) := by decide +kernel
theorem d_M_tell_21 : decode c_M_tell 21 = .ok (.aload_n 0, 1) := by decide +kernel
theorem d_M_tell_22 : decode c_M_tell 22 = .ok (.getfield 28, 3) := by decide +kernel
theorem d_M_tell_25 : decode c_M_tell 25 = .ok (.iconst 3, 1) := by decide +kernel
theorem d_M_tell_26 : decode c_M_tell 26 = .ok (.iload_n 1, 1) := by decide +kernel
theorem d_M_tell_27 : decode c_M_tell 27 = .ok (.iload 4, 2) := by decide +kernel
theorem d_M_tell_29 : decode c_M_tell 29 = .ok (.iadd, 1) := by decide +kernel
theorem d_M_tell_30 : decode c_M_tell 30 = .ok (.iastore, 1) := by decide +kernel
theorem d_M_tell_31 : decode c_M_tell 31 = .ok (.aload_n 0, 1) := by decide +kernel
theorem d_M_tell_32 : decode c_M_tell 32 = .ok (.getfield 28, 3) := by decide +kernel
theorem d_M_tell_35 : decode c_M_tell 35 = .ok (.iconst 4, 1) := by decide +kernel
theorem d_M_tell_36 : decode c_M_tell 36 = .ok (.iload_n 2, 1) := by decide +kernel
theorem d_M_tell_37 : decode c_M_tell 37 = .ok (.iload 5, 2) := by decide +kernel
theorem d_M_tell_39 : decode c_M_tell 39 = .ok (.iadd, 1) := by decide +kernel
theorem d_M_tell_40 : decode c_M_tell 40 = .ok (.iastore, 1) := by decide +kernel
theorem d_M_tell_41 : decode c_M_tell 41 = .ok (.aload_n 0, 1) := by decide +kernel
theorem d_M_tell_42 : decode c_M_tell 42 = .ok (.getfield 28, 3) := by decide +kernel
theorem d_M_tell_45 : decode c_M_tell 45 = .ok (.iconst 5, 1) := by decide +kernel
theorem d_M_tell_46 : decode c_M_tell 46 = .ok (.iload_n 3, 1) := by decide +kernel
theorem d_M_tell_47 : decode c_M_tell 47 = .ok (.iload 6, 2) := by decide +kernel
theorem d_M_tell_49 : decode c_M_tell 49 = .ok (.iadd, 1) := by decide +kernel
theorem d_M_tell_50 : decode c_M_tell 50 = .ok (.iastore, 1) := by decide +kernel
theorem d_M_tell_51 : decode c_M_tell 51 = .ok (.return_, 1) := by decide +kernel
theorem d_M_load_0 : decode c_M_load 0 = .ok (.aload_n 0, 1) := by decide +kernel
theorem d_M_load_1 : decode c_M_load 1 = .ok (.getfield 22, 3) := by decide +kernel
theorem d_M_load_4 : decode c_M_load 4 = .ok (.iload_n 1, 1) := by decide +kernel
theorem d_M_load_5 : decode c_M_load 5 = .ok (.aload_n 0, 1) := by decide +kernel
theorem d_M_load_6 : decode c_M_load 6 = .ok (.getfield 16, 3) := by decide +kernel
theorem d_M_load_9 : decode c_M_load 9 = .ok (.iload_n 2, 1) := by decide +kernel
theorem d_M_load_10 : decode c_M_load 10 = .ok (.iaload, 1) := by decide +kernel
theorem d_M_load_11 : decode c_M_load 11 = .ok (.iastore, 1) := by decide +kernel
theorem d_M_load_12 : decode c_M_load 12 = .ok (.iconst 0, 1) := by decide +kernel
theorem d_M_load_13 : decode c_M_load 13 = .ok (.istore_n 3, 1) := by decide +kernel
theorem d_M_load_14 : decode c_M_load 14 = .ok (.iload_n 3, 1) := by decide +kernel
theorem d_M_load_15 : decode c_M_load 15 = .ok (.bipush 6, 2) := by decide +kernel
theorem d_M_load_17 : decode c_M_load 17 = .ok (.aload_n 0, 1) := by decide +kernel
theorem d_M_load_18 : decode c_M_load 18 = .ok (.getfield 16, 3) := by decide +kernel
theorem d_M_load_21 : decode c_M_load 21 = .ok (.iload_n 2, 1) := by decide +kernel
theorem d_M_load_22 : decode c_M_load 22 = .ok (.iaload, 1) := by decide +kernel
theorem d_M_load_23 : decode c_M_load 23 = .ok (.imul, 1) := by decide +kernel
theorem d_M_load_24 : decode c_M_load 24 = .ok (.if_icmp .ge 33, 3) := by decide +kernel
theorem d_M_load_27 : decode c_M_load 27 = .ok (.aload_n 0, 1) := by decide +kernel
theorem d_M_load_28 : decode c_M_load 28 = .ok (.getfield 19, 3) := by decide +kernel
theorem d_M_load_31 : decode c_M_load 31 = .ok (.sipush 144, 3) := by decide +kernel
theorem d_M_load_34 : decode c_M_load 34 = .ok (.iload_n 1, 1) := by decide +kernel
theorem d_M_load_35 : decode c_M_load 35 = .ok (.imul, 1) := by decide +kernel
theorem d_M_load_36 : decode c_M_load 36 = .ok (.iload_n 3, 1) := by decide +kernel
theorem d_M_load_37 : decode c_M_load 37 = .ok (.iadd, 1) := by decide +kernel
theorem d_M_load_38 : decode c_M_load 38 = .ok (.aload_n 0, 1) := by decide +kernel
theorem d_M_load_39 : decode c_M_load 39 = .ok (.getfield 13, 3) := by decide +kernel
theorem d_M_load_42 : decode c_M_load 42 = .ok (.sipush 144, 3) := by decide +kernel
theorem d_M_load_45 : decode c_M_load 45 = .ok (.iload_n 2, 1) := by decide +kernel
theorem d_M_load_46 : decode c_M_load 46 = .ok (.imul, 1) := by decide +kernel
theorem d_M_load_47 : decode c_M_load 47 = .ok (.iload_n 3, 1) := by decide +kernel
theorem d_M_load_48 : decode c_M_load 48 = .ok (.iadd, 1) := by decide +kernel
theorem d_M_load_49 : decode c_M_load 49 = .ok (.iaload, 1) := by decide +kernel
theorem d_M_load_50 : decode c_M_load 50 = .ok (.iastore, 1) := by decide +kernel
theorem d_M_load_51 : decode c_M_load 51 = .ok (.iinc 3 1, 3) := by decide +kernel
theorem d_M_load_54 : decode c_M_load 54 = .ok (.goto (-40), 3) := by decide +kernel
theorem d_M_load_57 : decode c_M_load 57 = .ok (.return_, 1) := by decide +kernel
theorem d_M_store_0 : decode c_M_store 0 = .ok (.aload_n 0, 1) := by decide +kernel
theorem d_M_store_1 : decode c_M_store 1 = .ok (.getfield 16, 3) := by decide +kernel
theorem d_M_store_4 : decode c_M_store 4 = .ok (.iload_n 2, 1) := by decide +kernel
theorem d_M_store_5 : decode c_M_store 5 = .ok (.aload_n 0, 1) := by decide +kernel
theorem d_M_store_6 : decode c_M_store 6 = .ok (.getfield 22, 3) := by decide +kernel
theorem d_M_store_9 : decode c_M_store 9 = .ok (.iload_n 1, 1) := by decide +kernel
theorem d_M_store_10 : decode c_M_store 10 = .ok (.iaload, 1) := by decide +kernel
theorem d_M_store_11 : decode c_M_store 11 = .ok (.iastore, 1) := by decide +kernel
theorem d_M_store_12 : decode c_M_store 12 = .ok (.iconst 0, 1) := by decide +kernel
theorem d_M_store_13 : decode c_M_store 13 = .ok (.istore_n 3, 1) := by decide +kernel
theorem d_M_store_14 : decode c_M_store 14 = .ok (.iload_n 3, 1) := by decide +kernel
theorem d_M_store_15 : decode c_M_store 15 = .ok (.bipush 6, 2) := by decide +kernel
theorem d_M_store_17 : decode c_M_store 17 = .ok (.aload_n 0, 1) := by decide +kernel
theorem d_M_store_18 : decode c_M_store 18 = .ok (.getfield 16, 3) := by decide +kernel
theorem d_M_store_21 : decode c_M_store 21 = .ok (.iload_n 2, 1) := by decide +kernel
theorem d_M_store_22 : decode c_M_store 22 = .ok (.iaload, 1) := by decide +kernel
theorem d_M_store_23 : decode c_M_store 23 = .ok (.imul, 1) := by decide +kernel
theorem d_M_store_24 : decode c_M_store 24 = .ok (.if_icmp .ge 33, 3) := by decide +kernel
theorem d_M_store_27 : decode c_M_store 27 = .ok (.aload_n 0, 1) := by decide +kernel
theorem d_M_store_28 : decode c_M_store 28 = .ok (.getfield 13, 3) := by decide +kernel
theorem d_M_store_31 : decode c_M_store 31 = .ok (.sipush 144, 3) := by decide +kernel
theorem d_M_store_34 : decode c_M_store 34 = .ok (.iload_n 2, 1) := by decide +kernel
theorem d_M_store_35 : decode c_M_store 35 = .ok (.imul, 1) := by decide +kernel
theorem d_M_store_36 : decode c_M_store 36 = .ok (.iload_n 3, 1) := by decide +kernel
theorem d_M_store_37 : decode c_M_store 37 = .ok (.iadd, 1) := by decide +kernel
theorem d_M_store_38 : decode c_M_store 38 = .ok (.aload_n 0, 1) := by decide +kernel
theorem d_M_store_39 : decode c_M_store 39 = .ok (.getfield 19, 3) := by decide +kernel
theorem d_M_store_42 : decode c_M_store 42 = .ok (.sipush 144, 3) := by decide +kernel
theorem d_M_store_45 : decode c_M_store 45 = .ok (.iload_n 1, 1) := by decide +kernel
theorem d_M_store_46 : decode c_M_store 46 = .ok (.imul, 1) := by decide +kernel
theorem d_M_store_47 : decode c_M_store 47 = .ok (.iload_n 3, 1) := by decide +kernel
theorem d_M_store_48 : decode c_M_store 48 = .ok (.iadd, 1) := by decide +kernel
theorem d_M_store_49 : decode c_M_store 49 = .ok (.iaload, 1) := by decide +kernel
theorem d_M_store_50 : decode c_M_store 50 = .ok (.iastore, 1) := by decide +kernel
theorem d_M_store_51 : decode c_M_store 51 = .ok (.iinc 3 1, 3) := by decide +kernel
theorem d_M_store_54 : decode c_M_store 54 = .ok (.goto (-40), 3) := by decide +kernel
theorem d_M_store_57 : decode c_M_store 57 = .ok (.return_, 1) := by decide +kernel
theorem d_M_meets_0 : decode c_M_meets 0 = .ok (.iconst 1, 1) := by decide +kernel
theorem d_M_meets_1 : decode c_M_meets 1 = .ok (.istore_n 2, 1) := by decide +kernel
theorem d_M_meets_2 : decode c_M_meets 2 = .ok (.iconst 0, 1) := by decide +kernel
theorem d_M_meets_3 : decode c_M_meets 3 = .ok (.istore_n 3, 1) := by decide +kernel
theorem d_M_meets_4 : decode c_M_meets 4 = .ok (.iload_n 3, 1) := by decide +kernel
theorem d_M_meets_5 : decode c_M_meets 5 = .ok (.iconst 3, 1) := by decide +kernel
theorem d_M_meets_6 : decode c_M_meets 6 = .ok (.if_icmp .ge 57, 3) := by decide +kernel
theorem d_M_meets_9 : decode c_M_meets 9 = .ok (.iload_n 2, 1) := by decide +kernel
theorem d_M_meets_10 : decode c_M_meets 10 = .ok (.ifCond .eq 45, 3) := by decide +kernel
theorem d_M_meets_13 : decode c_M_meets 13 = .ok (.aload_n 0, 1) := by decide +kernel
theorem d_M_meets_14 : decode c_M_meets 14 = .ok (.getfield 19, 3) := by decide +kernel
theorem d_M_meets_17 : decode c_M_meets 17 = .ok (.iload_n 1, 1) := by decide +kernel
theorem d_M_meets_18 : decode c_M_meets 18 = .ok (.iload_n 3, 1) := by decide +kernel
theorem d_M_meets_19 : decode c_M_meets 19 = .ok (.iadd, 1) := by decide +kernel
theorem d_M_meets_20 : decode c_M_meets 20 = .ok (.iaload, 1) := by decide +kernel
theorem d_M_meets_21 : decode c_M_meets 21 = .ok (.aload_n 0, 1) := by decide +kernel
theorem d_M_meets_22 : decode c_M_meets 22 = .ok (.getfield 28, 3) := by decide +kernel
theorem d_M_meets_25 : decode c_M_meets 25 = .ok (.iconst 3, 1) := by decide +kernel
theorem d_M_meets_26 : decode c_M_meets 26 = .ok (.iload_n 3, 1) := by decide +kernel
theorem d_M_meets_27 : decode c_M_meets 27 = .ok (.iadd, 1) := by decide +kernel
theorem d_M_meets_28 : decode c_M_meets 28 = .ok (.iaload, 1) := by decide +kernel
theorem d_M_meets_29 : decode c_M_meets 29 = .ok (.if_icmp .ge 26, 3) := by decide +kernel
theorem d_M_meets_32 : decode c_M_meets 32 = .ok (.aload_n 0, 1) := by decide +kernel
theorem d_M_meets_33 : decode c_M_meets 33 = .ok (.getfield 28, 3) := by decide +kernel
theorem d_M_meets_36 : decode c_M_meets 36 = .ok (.iload_n 3, 1) := by decide +kernel
theorem d_M_meets_37 : decode c_M_meets 37 = .ok (.iaload, 1) := by decide +kernel
theorem d_M_meets_38 : decode c_M_meets 38 = .ok (.aload_n 0, 1) := by decide +kernel
theorem d_M_meets_39 : decode c_M_meets 39 = .ok (.getfield 19, 3) := by decide +kernel
theorem d_M_meets_42 : decode c_M_meets 42 = .ok (.iload_n 1, 1) := by decide +kernel
theorem d_M_meets_43 : decode c_M_meets 43 = .ok (.iconst 3, 1) := by decide +kernel
theorem d_M_meets_44 : decode c_M_meets 44 = .ok (.iadd, 1) := by decide +kernel
theorem d_M_meets_45 : decode c_M_meets 45 = .ok (.iload_n 3, 1) := by decide +kernel
theorem d_M_meets_46 : decode c_M_meets 46 = .ok (.iadd, 1) := by decide +kernel
theorem d_M_meets_47 : decode c_M_meets 47 = .ok (.iaload, 1) := by decide +kernel
theorem d_M_meets_48 : decode c_M_meets 48 = .ok (.if_icmp .ge 7, 3) := by decide +kernel
theorem d_M_meets_51 : decode c_M_meets 51 = .ok (.iconst 1, 1) := by decide +kernel
theorem d_M_meets_52 : decode c_M_meets 52 = .ok (.goto 4, 3) := by decide +kernel
theorem d_M_meets_55 : decode c_M_meets 55 = .ok (.iconst 0, 1) := by decide +kernel
theorem d_M_meets_56 : decode c_M_meets 56 = .ok (.istore_n 2, 1) := by decide +kernel
theorem d_M_meets_57 : decode c_M_meets 57 = .ok (.iinc 3 1, 3) := by decide +kernel
theorem d_M_meets_60 : decode c_M_meets 60 = .ok (.goto (-56), 3) := by decide +kernel
theorem d_M_meets_63 : decode c_M_meets 63 = .ok (.iload_n 2, 1) := by decide +kernel
theorem d_M_meets_64 : decode c_M_meets 64 = .ok (.ireturn, 1) := by decide +kernel
theorem d_M_pareAll_0 : decode c_M_pareAll 0 = .ok (.iconst 0, 1) := by decide +kernel
theorem d_M_pareAll_1 : decode c_M_pareAll 1 = .ok (.istore_n 2, 1) := by decide +kernel
theorem d_M_pareAll_2 : decode c_M_pareAll 2 = .ok (.iconst 0, 1) := by decide +kernel
theorem d_M_pareAll_3 : decode c_M_pareAll 3 = .ok (.istore_n 3, 1) := by decide +kernel
theorem d_M_pareAll_4 : decode c_M_pareAll 4 = .ok (.iconst 0, 1) := by decide +kernel
theorem d_M_pareAll_5 : decode c_M_pareAll 5 = .ok (.istore 4, 2) := by decide +kernel
theorem d_M_pareAll_7 : decode c_M_pareAll 7 = .ok (.iload 4, 2) := by decide +kernel
theorem d_M_pareAll_9 : decode c_M_pareAll 9 = .ok (.aload_n 0, 1) := by decide +kernel
theorem d_M_pareAll_10 : decode c_M_pareAll 10 = .ok (.getfield 22, 3) := by decide +kernel
theorem d_M_pareAll_13 : decode c_M_pareAll 13 = .ok (.iload_n 1, 1) := by decide +kernel
theorem d_M_pareAll_14 : decode c_M_pareAll 14 = .ok (.iaload, 1) := by decide +kernel
theorem d_M_pareAll_15 : decode c_M_pareAll 15 = .ok (.if_icmp .ge 86, 3) := by decide +kernel
theorem d_M_pareAll_18 : decode c_M_pareAll 18 = .ok (.sipush 144, 3) := by decide +kernel
theorem d_M_pareAll_21 : decode c_M_pareAll 21 = .ok (.iload_n 1, 1) := by decide +kernel
theorem d_M_pareAll_22 : decode c_M_pareAll 22 = .ok (.imul, 1) := by decide +kernel
theorem d_M_pareAll_23 : decode c_M_pareAll 23 = .ok (.bipush 6, 2) := by decide +kernel
theorem d_M_pareAll_25 : decode c_M_pareAll 25 = .ok (.iload 4, 2) := by decide +kernel
theorem d_M_pareAll_27 : decode c_M_pareAll 27 = .ok (.imul, 1) := by decide +kernel
theorem d_M_pareAll_28 : decode c_M_pareAll 28 = .ok (.iadd, 1) := by decide +kernel
theorem d_M_pareAll_29 : decode c_M_pareAll 29 = .ok (.istore 5, 2) := by decide +kernel
theorem d_M_pareAll_31 : decode c_M_pareAll 31 = .ok (.aload_n 0, 1) := by decide +kernel
theorem d_M_pareAll_32 : decode c_M_pareAll 32 = .ok (.iload 5, 2) := by decide +kernel
theorem d_M_pareAll_34 : decode c_M_pareAll 34 = .ok (.invokevirtual 71, 3) := by decide +kernel
theorem d_M_pareAll_37 : decode c_M_pareAll 37 = .ok (.ifCond .eq 17, 3) := by decide +kernel
theorem d_M_pareAll_40 : decode c_M_pareAll 40 = .ok (.iinc 3 1, 3) := by decide +kernel
theorem d_M_pareAll_43 : decode c_M_pareAll 43 = .ok (.aload_n 0, 1) := by decide +kernel
theorem d_M_pareAll_44 : decode c_M_pareAll 44 = .ok (.iload 5, 2) := by decide +kernel
theorem d_M_pareAll_46 : decode c_M_pareAll 46 = .ok (.iload_n 2, 1) := by decide +kernel
theorem d_M_pareAll_47 : decode c_M_pareAll 47 = .ok (.invokevirtual 75, 3) := by decide +kernel
theorem d_M_pareAll_50 : decode c_M_pareAll 50 = .ok (.istore_n 2, 1) := by decide +kernel
theorem d_M_pareAll_51 : decode c_M_pareAll 51 = .ok (.goto 44, 3) := by decide +kernel
theorem d_M_pareAll_54 : decode c_M_pareAll 54 = .ok (.iconst 0, 1) := by decide +kernel
theorem d_M_pareAll_55 : decode c_M_pareAll 55 = .ok (.istore 6, 2) := by decide +kernel
theorem d_M_pareAll_57 : decode c_M_pareAll 57 = .ok (.iload 6, 2) := by decide +kernel
theorem d_M_pareAll_59 : decode c_M_pareAll 59 = .ok (.bipush 6, 2) := by decide +kernel
theorem d_M_pareAll_61 : decode c_M_pareAll 61 = .ok (.if_icmp .ge 31, 3) := by decide +kernel
theorem d_M_pareAll_64 : decode c_M_pareAll 64 = .ok (.aload_n 0, 1) := by decide +kernel
theorem d_M_pareAll_65 : decode c_M_pareAll 65 = .ok (.getfield 25, 3) := by decide +kernel
theorem d_M_pareAll_68 : decode c_M_pareAll 68 = .ok (.bipush 6, 2) := by decide +kernel
theorem d_M_pareAll_70 : decode c_M_pareAll 70 = .ok (.iload_n 2, 1) := by decide +kernel
theorem d_M_pareAll_71 : decode c_M_pareAll 71 = .ok (.imul, 1) := by decide +kernel
theorem d_M_pareAll_72 : decode c_M_pareAll 72 = .ok (.iload 6, 2) := by decide +kernel
theorem d_M_pareAll_74 : decode c_M_pareAll 74 = .ok (.iadd, 1) := by decide +kernel
theorem d_M_pareAll_75 : decode c_M_pareAll 75 = .ok (.aload_n 0, 1) := by decide +kernel
theorem d_M_pareAll_76 : decode c_M_pareAll 76 = .ok (.getfield 19, 3) := by decide +kernel
theorem d_M_pareAll_79 : decode c_M_pareAll 79 = .ok (.iload 5, 2) := by decide +kernel
theorem d_M_pareAll_81 : decode c_M_pareAll 81 = .ok (.iload 6, 2) := by decide +kernel
theorem d_M_pareAll_83 : decode c_M_pareAll 83 = .ok (.iadd, 1) := by decide +kernel
theorem d_M_pareAll_84 : decode c_M_pareAll 84 = .ok (.iaload, 1) := by decide +kernel
theorem d_M_pareAll_85 : decode c_M_pareAll 85 = .ok (.iastore, 1) := by decide +kernel
theorem d_M_pareAll_86 : decode c_M_pareAll 86 = .ok (.iinc 6 1, 3) := by decide +kernel
theorem d_M_pareAll_89 : decode c_M_pareAll 89 = .ok (.goto (-32), 3) := by decide +kernel
theorem d_M_pareAll_92 : decode c_M_pareAll 92 = .ok (.iinc 2 1, 3) := by decide +kernel
theorem d_M_pareAll_95 : decode c_M_pareAll 95 = .ok (.iinc 4 1, 3) := by decide +kernel
theorem d_M_pareAll_98 : decode c_M_pareAll 98 = .ok (.goto (-91), 3) := by decide +kernel
theorem d_M_pareAll_101 : decode c_M_pareAll 101 = .ok (.iload_n 2, 1) := by decide +kernel
theorem d_M_pareAll_102 : decode c_M_pareAll 102 = .ok (.bipush 24, 2) := by decide +kernel
theorem d_M_pareAll_104 : decode c_M_pareAll 104 = .ok (.if_icmp .le 5, 3) := by decide +kernel
theorem d_M_pareAll_107 : decode c_M_pareAll 107 = .ok (.iconst (-1), 1) := by decide +kernel
theorem d_M_pareAll_108 : decode c_M_pareAll 108 = .ok (.ireturn, 1) := by decide +kernel
theorem d_M_pareAll_109 : decode c_M_pareAll 109 = .ok (.aload_n 0, 1) := by decide +kernel
theorem d_M_pareAll_110 : decode c_M_pareAll 110 = .ok (.getfield 22, 3) := by decide +kernel
theorem d_M_pareAll_113 : decode c_M_pareAll 113 = .ok (.iload_n 1, 1) := by decide +kernel
theorem d_M_pareAll_114 : decode c_M_pareAll 114 = .ok (.iload_n 2, 1) := by decide +kernel
theorem d_M_pareAll_115 : decode c_M_pareAll 115 = .ok (.iastore, 1) := by decide +kernel
theorem d_M_pareAll_116 : decode c_M_pareAll 116 = .ok (.iconst 0, 1) := by decide +kernel
theorem d_M_pareAll_117 : decode c_M_pareAll 117 = .ok (.istore 4, 2) := by decide +kernel
theorem d_M_pareAll_119 : decode c_M_pareAll 119 = .ok (.iload 4, 2) := by decide +kernel
theorem d_M_pareAll_121 : decode c_M_pareAll 121 = .ok (.bipush 6, 2) := by decide +kernel
theorem d_M_pareAll_123 : decode c_M_pareAll 123 = .ok (.iload_n 2, 1) := by decide +kernel
theorem d_M_pareAll_124 : decode c_M_pareAll 124 = .ok (.imul, 1) := by decide +kernel
theorem d_M_pareAll_125 : decode c_M_pareAll 125 = .ok (.if_icmp .ge 29, 3) := by decide +kernel
theorem d_M_pareAll_128 : decode c_M_pareAll 128 = .ok (.aload_n 0, 1) := by decide +kernel
theorem d_M_pareAll_129 : decode c_M_pareAll 129 = .ok (.getfield 19, 3) := by decide +kernel
theorem d_M_pareAll_132 : decode c_M_pareAll 132 = .ok (.sipush 144, 3) := by decide +kernel
theorem d_M_pareAll_135 : decode c_M_pareAll 135 = .ok (.iload_n 1, 1) := by decide +kernel
theorem d_M_pareAll_136 : decode c_M_pareAll 136 = .ok (.imul, 1) := by decide +kernel
theorem d_M_pareAll_137 : decode c_M_pareAll 137 = .ok (.iload 4, 2) := by decide +kernel
theorem d_M_pareAll_139 : decode c_M_pareAll 139 = .ok (.iadd, 1) := by decide +kernel
theorem d_M_pareAll_140 : decode c_M_pareAll 140 = .ok (.aload_n 0, 1) := by decide +kernel
theorem d_M_pareAll_141 : decode c_M_pareAll 141 = .ok (.getfield 25, 3) := by decide +kernel
theorem d_M_pareAll_144 : decode c_M_pareAll 144 = .ok (.iload 4, 2) := by decide +kernel
theorem d_M_pareAll_146 : decode c_M_pareAll 146 = .ok (.iaload, 1) := by decide +kernel
theorem d_M_pareAll_147 : decode c_M_pareAll 147 = .ok (.iastore, 1) := by decide +kernel
theorem d_M_pareAll_148 : decode c_M_pareAll 148 = .ok (.iinc 4 1, 3) := by decide +kernel
theorem d_M_pareAll_151 : decode c_M_pareAll 151 = .ok (.goto (-32), 3) := by decide +kernel
theorem d_M_pareAll_154 : decode c_M_pareAll 154 = .ok (.iload_n 3, 1) := by decide +kernel
theorem d_M_pareAll_155 : decode c_M_pareAll 155 = .ok (.ireturn, 1) := by decide +kernel
theorem d_M_pare_0 : decode c_M_pare 0 = .ok (.iload_n 2, 1) := by decide +kernel
theorem d_M_pare_1 : decode c_M_pare 1 = .ok (.istore_n 3, 1) := by decide +kernel
theorem d_M_pare_2 : decode c_M_pare 2 = .ok (.iconst 0, 1) := by decide +kernel
theorem d_M_pare_3 : decode c_M_pare 3 = .ok (.istore 4, 2) := by decide +kernel
theorem d_M_pare_5 : decode c_M_pare 5 = .ok (.iload 4, 2) := by decide +kernel
theorem d_M_pare_7 : decode c_M_pare 7 = .ok (.iconst 3, 1) := by decide +kernel
theorem d_M_pare_8 : decode c_M_pare 8 = .ok (.if_icmp .ge 272, 3) := by decide +kernel
theorem d_M_pare_11 : decode c_M_pare 11 = .ok (.iconst 0, 1) := by decide +kernel
theorem d_M_pare_12 : decode c_M_pare 12 = .ok (.istore 5, 2) := by decide +kernel
theorem d_M_pare_14 : decode c_M_pare 14 = .ok (.iload 5, 2) := by decide +kernel
theorem d_M_pare_16 : decode c_M_pare 16 = .ok (.iconst 2, 1) := by decide +kernel
theorem d_M_pare_17 : decode c_M_pare 17 = .ok (.if_icmp .ge 257, 3) := by decide +kernel
theorem d_M_pare_20 : decode c_M_pare 20 = .ok (.iload 5, 2) := by decide +kernel
theorem d_M_pare_22 : decode c_M_pare 22 = .ok (.ifCond .ne 30, 3) := by decide +kernel
theorem d_M_pare_25 : decode c_M_pare 25 = .ok (.aload_n 0, 1) := by decide +kernel
theorem d_M_pare_26 : decode c_M_pare 26 = .ok (.getfield 19, 3) := by decide +kernel
theorem d_M_pare_29 : decode c_M_pare 29 = .ok (.iload_n 1, 1) := by decide +kernel
theorem d_M_pare_30 : decode c_M_pare 30 = .ok (.iload 4, 2) := by decide +kernel
theorem d_M_pare_32 : decode c_M_pare 32 = .ok (.iadd, 1) := by decide +kernel
theorem d_M_pare_33 : decode c_M_pare 33 = .ok (.iaload, 1) := by decide +kernel
theorem d_M_pare_34 : decode c_M_pare 34 = .ok (.aload_n 0, 1) := by decide +kernel
theorem d_M_pare_35 : decode c_M_pare 35 = .ok (.getfield 28, 3) := by decide +kernel
theorem d_M_pare_38 : decode c_M_pare 38 = .ok (.iload 4, 2) := by decide +kernel
theorem d_M_pare_40 : decode c_M_pare 40 = .ok (.iaload, 1) := by decide +kernel
theorem d_M_pare_41 : decode c_M_pare 41 = .ok (.if_icmp .ge 7, 3) := by decide +kernel
theorem d_M_pare_44 : decode c_M_pare 44 = .ok (.iconst 1, 1) := by decide +kernel
theorem d_M_pare_45 : decode c_M_pare 45 = .ok (.goto 35, 3) := by decide +kernel
theorem d_M_pare_48 : decode c_M_pare 48 = .ok (.iconst 0, 1) := by decide +kernel
theorem d_M_pare_49 : decode c_M_pare 49 = .ok (.goto 31, 3) := by decide +kernel
theorem d_M_pare_52 : decode c_M_pare 52 = .ok (.aload_n 0, 1) := by decide +kernel
theorem d_M_pare_53 : decode c_M_pare 53 = .ok (.getfield 19, 3) := by decide +kernel
theorem d_M_pare_56 : decode c_M_pare 56 = .ok (.iload_n 1, 1) := by decide +kernel
theorem d_M_pare_57 : decode c_M_pare 57 = .ok (.iconst 3, 1) := by decide +kernel
theorem d_M_pare_58 : decode c_M_pare 58 = .ok (.iadd, 1) := by decide +kernel
theorem d_M_pare_59 : decode c_M_pare 59 = .ok (.iload 4, 2) := by decide +kernel
theorem d_M_pare_61 : decode c_M_pare 61 = .ok (.iadd, 1) := by decide +kernel
theorem d_M_pare_62 : decode c_M_pare 62 = .ok (.iaload, 1) := by decide +kernel
theorem d_M_pare_63 : decode c_M_pare 63 = .ok (.aload_n 0, 1) := by decide +kernel
theorem d_M_pare_64 : decode c_M_pare 64 = .ok (.getfield 28, 3) := by decide +kernel
theorem d_M_pare_67 : decode c_M_pare 67 = .ok (.iconst 3, 1) := by decide +kernel
theorem d_M_pare_68 : decode c_M_pare 68 = .ok (.iload 4, 2) := by decide +kernel
theorem d_M_pare_70 : decode c_M_pare 70 = .ok (.iadd, 1) := by decide +kernel
theorem d_M_pare_71 : decode c_M_pare 71 = .ok (.iaload, 1) := by decide +kernel
theorem d_M_pare_72 : decode c_M_pare 72 = .ok (.if_icmp .le 7, 3) := by decide +kernel
theorem d_M_pare_75 : decode c_M_pare 75 = .ok (.iconst 1, 1) := by decide +kernel
theorem d_M_pare_76 : decode c_M_pare 76 = .ok (.goto 4, 3) := by decide +kernel
theorem d_M_pare_79 : decode c_M_pare 79 = .ok (.iconst 0, 1) := by decide +kernel
theorem d_M_pare_80 : decode c_M_pare 80 = .ok (.istore 6, 2) := by decide +kernel
theorem d_M_pare_82 : decode c_M_pare 82 = .ok (.iload 6, 2) := by decide +kernel
theorem d_M_pare_84 : decode c_M_pare 84 = .ok (.ifCond .eq 184, 3) := by decide +kernel
theorem d_M_pare_87 : decode c_M_pare 87 = .ok (.iconst 0, 1) := by decide +kernel
theorem d_M_pare_88 : decode c_M_pare 88 = .ok (.istore 7, 2) := by decide +kernel
theorem d_M_pare_90 : decode c_M_pare 90 = .ok (.iload 7, 2) := by decide +kernel
theorem d_M_pare_92 : decode c_M_pare 92 = .ok (.iconst 3, 1) := by decide +kernel
theorem d_M_pare_93 : decode c_M_pare 93 = .ok (.if_icmp .ge 172, 3) := by decide +kernel
theorem d_M_pare_96 : decode c_M_pare 96 = .ok (.iload 7, 2) := by decide +kernel
theorem d_M_pare_98 : decode c_M_pare 98 = .ok (.iload 4, 2) := by decide +kernel
theorem d_M_pare_100 : decode c_M_pare 100 = .ok (.if_icmp .ge 25, 3) := by decide +kernel
theorem d_M_pare_103 : decode c_M_pare 103 = .ok (.aload_n 0, 1) := by decide +kernel
theorem d_M_pare_104 : decode c_M_pare 104 = .ok (.getfield 19, 3) := by decide +kernel
theorem d_M_pare_107 : decode c_M_pare 107 = .ok (.iload_n 1, 1) := by decide +kernel
theorem d_M_pare_108 : decode c_M_pare 108 = .ok (.iload 7, 2) := by decide +kernel
theorem d_M_pare_110 : decode c_M_pare 110 = .ok (.iadd, 1) := by decide +kernel
theorem d_M_pare_111 : decode c_M_pare 111 = .ok (.iaload, 1) := by decide +kernel
theorem d_M_pare_112 : decode c_M_pare 112 = .ok (.aload_n 0, 1) := by decide +kernel
theorem d_M_pare_113 : decode c_M_pare 113 = .ok (.getfield 28, 3) := by decide +kernel
theorem d_M_pare_116 : decode c_M_pare 116 = .ok (.iload 7, 2) := by decide +kernel
theorem d_M_pare_118 : decode c_M_pare 118 = .ok (.iaload, 1) := by decide +kernel
theorem d_M_pare_119 : decode c_M_pare 119 = .ok (.invokestatic 79, 3) := by decide +kernel
theorem d_M_pare_122 : decode c_M_pare 122 = .ok (.goto 12, 3) := by decide +kernel
theorem d_M_pare_125 : decode c_M_pare 125 = .ok (.aload_n 0, 1) := by decide +kernel
theorem d_M_pare_126 : decode c_M_pare 126 = .ok (.getfield 19, 3) := by decide +kernel
theorem d_M_pare_129 : decode c_M_pare 129 = .ok (.iload_n 1, 1) := by decide +kernel
theorem d_M_pare_130 : decode c_M_pare 130 = .ok (.iload 7, 2) := by decide +kernel
theorem d_M_pare_132 : decode c_M_pare 132 = .ok (.iadd, 1) := by decide +kernel
theorem d_M_pare_133 : decode c_M_pare 133 = .ok (.iaload, 1) := by decide +kernel
theorem d_M_pare_134 : decode c_M_pare 134 = .ok (.istore 8, 2) := by decide +kernel
theorem d_M_pare_136 : decode c_M_pare 136 = .ok (.iload 7, 2) := by decide +kernel
theorem d_M_pare_138 : decode c_M_pare 138 = .ok (.iload 4, 2) := by decide +kernel
theorem d_M_pare_140 : decode c_M_pare 140 = .ok (.if_icmp .ge 29, 3) := by decide +kernel
theorem d_M_pare_143 : decode c_M_pare 143 = .ok (.aload_n 0, 1) := by decide +kernel
theorem d_M_pare_144 : decode c_M_pare 144 = .ok (.getfield 19, 3) := by decide +kernel
theorem d_M_pare_147 : decode c_M_pare 147 = .ok (.iload_n 1, 1) := by decide +kernel
theorem d_M_pare_148 : decode c_M_pare 148 = .ok (.iconst 3, 1) := by decide +kernel
theorem d_M_pare_149 : decode c_M_pare 149 = .ok (.iadd, 1) := by decide +kernel
theorem d_M_pare_150 : decode c_M_pare 150 = .ok (.iload 7, 2) := by decide +kernel
theorem d_M_pare_152 : decode c_M_pare 152 = .ok (.iadd, 1) := by decide +kernel
theorem d_M_pare_153 : decode c_M_pare 153 = .ok (.iaload, 1) := by decide +kernel
theorem d_M_pare_154 : decode c_M_pare 154 = .ok (.aload_n 0, 1) := by decide +kernel
theorem d_M_pare_155 : decode c_M_pare 155 = .ok (.getfield 28, 3) := by decide +kernel
theorem d_M_pare_158 : decode c_M_pare 158 = .ok (.iconst 3, 1) := by decide +kernel
theorem d_M_pare_159 : decode c_M_pare 159 = .ok (.iload 7, 2) := by decide +kernel
theorem d_M_pare_161 : decode c_M_pare 161 = .ok (.iadd, 1) := by decide +kernel
theorem d_M_pare_162 : decode c_M_pare 162 = .ok (.iaload, 1) := by decide +kernel
theorem d_M_pare_163 : decode c_M_pare 163 = .ok (.invokestatic 82, 3) := by decide +kernel
theorem d_M_pare_166 : decode c_M_pare 166 = .ok (.goto 14, 3) := by decide +kernel
theorem d_M_pare_169 : decode c_M_pare 169 = .ok (.aload_n 0, 1) := by decide +kernel
theorem d_M_pare_170 : decode c_M_pare 170 = .ok (.getfield 19, 3) := by decide +kernel
theorem d_M_pare_173 : decode c_M_pare 173 = .ok (.iload_n 1, 1) := by decide +kernel
theorem d_M_pare_174 : decode c_M_pare 174 = .ok (.iconst 3, 1) := by decide +kernel
theorem d_M_pare_175 : decode c_M_pare 175 = .ok (.iadd, 1) := by decide +kernel
theorem d_M_pare_176 : decode c_M_pare 176 = .ok (.iload 7, 2) := by decide +kernel
theorem d_M_pare_178 : decode c_M_pare 178 = .ok (.iadd, 1) := by decide +kernel
theorem d_M_pare_179 : decode c_M_pare 179 = .ok (.iaload, 1) := by decide +kernel
theorem d_M_pare_180 : decode c_M_pare 180 = .ok (.istore 9, 2) := by decide +kernel
theorem d_M_pare_182 : decode c_M_pare 182 = .ok (.aload_n 0, 1) := by decide +kernel
theorem d_M_pare_183 : decode c_M_pare 183 = .ok (.getfield 25, 3) := by decide +kernel
theorem d_M_pare_186 : decode c_M_pare 186 = .ok (.bipush 6, 2) := by decide +kernel
theorem d_M_pare_188 : decode c_M_pare 188 = .ok (.iload_n 3, 1) := by decide +kernel
theorem d_M_pare_189 : decode c_M_pare 189 = .ok (.imul, 1) := by decide +kernel
theorem d_M_pare_190 : decode c_M_pare 190 = .ok (.iload 7, 2) := by decide +kernel
theorem d_M_pare_192 : decode c_M_pare 192 = .ok (.iadd, 1) := by decide +kernel
theorem d_M_pare_193 : decode c_M_pare 193 = .ok (.iload 7, 2) := by decide +kernel
theorem d_M_pare_195 : decode c_M_pare 195 = .ok (.iload 4, 2) := by decide +kernel
theorem d_M_pare_197 : decode c_M_pare 197 = .ok (.if_icmp .ne 21, 3) := by decide +kernel
theorem d_M_pare_200 : decode c_M_pare 200 = .ok (.iload 5, 2) := by decide +kernel
theorem d_M_pare_202 : decode c_M_pare 202 = .ok (.iconst 1, 1) := by decide +kernel
theorem d_M_pare_203 : decode c_M_pare 203 = .ok (.if_icmp .ne 15, 3) := by decide +kernel
theorem d_M_pare_206 : decode c_M_pare 206 = .ok (.aload_n 0, 1) := by decide +kernel
theorem d_M_pare_207 : decode c_M_pare 207 = .ok (.getfield 28, 3) := by decide +kernel
theorem d_M_pare_210 : decode c_M_pare 210 = .ok (.iconst 3, 1) := by decide +kernel
theorem d_M_pare_211 : decode c_M_pare 211 = .ok (.iload 4, 2) := by decide +kernel
theorem d_M_pare_213 : decode c_M_pare 213 = .ok (.iadd, 1) := by decide +kernel
theorem d_M_pare_214 : decode c_M_pare 214 = .ok (.iaload, 1) := by decide +kernel
theorem d_M_pare_215 : decode c_M_pare 215 = .ok (.goto 5, 3) := by decide +kernel
theorem d_M_pare_218 : decode c_M_pare 218 = .ok (.iload 8, 2) := by decide +kernel
theorem d_M_pare_220 : decode c_M_pare 220 = .ok (.iastore, 1) := by decide +kernel
theorem d_M_pare_221 : decode c_M_pare 221 = .ok (.aload_n 0, 1) := by decide +kernel
theorem d_M_pare_222 : decode c_M_pare 222 = .ok (.getfield 25, 3) := by decide +kernel
theorem d_M_pare_225 : decode c_M_pare 225 = .ok (.bipush 6, 2) := by decide +kernel
theorem d_M_pare_227 : decode c_M_pare 227 = .ok (.iload_n 3, 1) := by decide +kernel
theorem d_M_pare_228 : decode c_M_pare 228 = .ok (.imul, 1) := by decide +kernel
theorem d_M_pare_229 : decode c_M_pare 229 = .ok (.iconst 3, 1) := by decide +kernel
theorem d_M_pare_230 : decode c_M_pare 230 = .ok (.iadd, 1) := by decide +kernel
theorem d_M_pare_231 : decode c_M_pare 231 = .ok (.iload 7, 2) := by decide +kernel
theorem d_M_pare_233 : decode c_M_pare 233 = .ok (.iadd, 1) := by decide +kernel
theorem d_M_pare_234 : decode c_M_pare 234 = .ok (.iload 7, 2) := by decide +kernel
theorem d_M_pare_236 : decode c_M_pare 236 = .ok (.iload 4, 2) := by decide +kernel
theorem d_M_pare_238 : decode c_M_pare 238 = .ok (.if_icmp .ne 18, 3) := by decide +kernel
theorem d_M_pare_241 : decode c_M_pare 241 = .ok (.iload 5, 2) := by decide +kernel
theorem d_M_pare_243 : decode c_M_pare 243 = .ok (.ifCond .ne 13, 3) := by decide +kernel
theorem d_M_pare_246 : decode c_M_pare 246 = .ok (.aload_n 0, 1) := by decide +kernel
theorem d_M_pare_247 : decode c_M_pare 247 = .ok (.getfield 28, 3) := by decide +kernel
theorem d_M_pare_250 : decode c_M_pare 250 = .ok (.iload 4, 2) := by decide +kernel
theorem d_M_pare_252 : decode c_M_pare 252 = .ok (.iaload, 1) := by decide +kernel
theorem d_M_pare_253 : decode c_M_pare 253 = .ok (.goto 5, 3) := by decide +kernel
theorem d_M_pare_256 : decode c_M_pare 256 = .ok (.iload 9, 2) := by decide +kernel
theorem d_M_pare_258 : decode c_M_pare 258 = .ok (.iastore, 1) := by decide +kernel
theorem d_M_pare_259 : decode c_M_pare 259 = .ok (.iinc 7 1, 3) := by decide +kernel
theorem d_M_pare_262 : decode c_M_pare 262 = .ok (.goto (-172), 3) := by decide +kernel
theorem d_M_pare_265 : decode c_M_pare 265 = .ok (.iinc 3 1, 3) := by decide +kernel
theorem d_M_pare_268 : decode c_M_pare 268 = .ok (.iinc 5 1, 3) := by decide +kernel
theorem d_M_pare_271 : decode c_M_pare 271 = .ok (.goto (-257), 3) := by decide +kernel
theorem d_M_pare_274 : decode c_M_pare 274 = .ok (.iinc 4 1, 3) := by decide +kernel
theorem d_M_pare_277 : decode c_M_pare 277 = .ok (.goto (-272), 3) := by decide +kernel
theorem d_M_pare_280 : decode c_M_pare 280 = .ok (.iload_n 3, 1) := by decide +kernel
theorem d_M_pare_281 : decode c_M_pare 281 = .ok (.ireturn, 1) := by decide +kernel
theorem d_M_cut_0 : decode c_M_cut 0 = .ok (.iload_n 2, 1) := by decide +kernel
theorem d_M_cut_1 : decode c_M_cut 1 = .ok (.sipush (-2000), 3) := by decide +kernel
theorem d_M_cut_4 : decode c_M_cut 4 = .ok (.sipush 2000, 3) := by decide +kernel
theorem d_M_cut_7 : decode c_M_cut 7 = .ok (.invokestatic 63, 3) := by decide +kernel
theorem d_M_cut_10 : decode c_M_cut 10 = .ok (.ifCond .eq 70, 3) := by decide +kernel
theorem d_M_cut_13 : decode c_M_cut 13 = .ok (.iload_n 3, 1) := by decide +kernel
theorem d_M_cut_14 : decode c_M_cut 14 = .ok (.sipush (-2000), 3) := by decide +kernel
theorem d_M_cut_17 : decode c_M_cut 17 = .ok (.sipush 2000, 3) := by decide +kernel
theorem d_M_cut_20 : decode c_M_cut 20 = .ok (.invokestatic 63, 3) := by decide +kernel
theorem d_M_cut_23 : decode c_M_cut 23 = .ok (.ifCond .eq 57, 3) := by decide +kernel
theorem d_M_cut_26 : decode c_M_cut 26 = .ok (.iload 4, 2) := by decide +kernel
theorem d_M_cut_28 : decode c_M_cut 28 = .ok (.sipush (-2000), 3) := by decide +kernel
theorem d_M_cut_31 : decode c_M_cut 31 = .ok (.sipush 2000, 3) := by decide +kernel
theorem d_M_cut_34 : decode c_M_cut 34 = .ok (.invokestatic 63, 3) := by decide +kernel
theorem d_M_cut_37 : decode c_M_cut 37 = .ok (.ifCond .eq 43, 3) := by decide +kernel
theorem d_M_cut_40 : decode c_M_cut 40 = .ok (.iload 5, 2) := by decide +kernel
theorem d_M_cut_42 : decode c_M_cut 42 = .ok (.iconst 1, 1) := by decide +kernel
theorem d_M_cut_43 : decode c_M_cut 43 = .ok (.sipush 2000, 3) := by decide +kernel
theorem d_M_cut_46 : decode c_M_cut 46 = .ok (.invokestatic 63, 3) := by decide +kernel
theorem d_M_cut_49 : decode c_M_cut 49 = .ok (.ifCond .eq 31, 3) := by decide +kernel
theorem d_M_cut_52 : decode c_M_cut 52 = .ok (.iload 6, 2) := by decide +kernel
theorem d_M_cut_54 : decode c_M_cut 54 = .ok (.iconst 1, 1) := by decide +kernel
theorem d_M_cut_55 : decode c_M_cut 55 = .ok (.sipush 2000, 3) := by decide +kernel
theorem d_M_cut_58 : decode c_M_cut 58 = .ok (.invokestatic 63, 3) := by decide +kernel
theorem d_M_cut_61 : decode c_M_cut 61 = .ok (.ifCond .eq 19, 3) := by decide +kernel
theorem d_M_cut_64 : decode c_M_cut 64 = .ok (.iload 7, 2) := by decide +kernel
theorem d_M_cut_66 : decode c_M_cut 66 = .ok (.iconst 1, 1) := by decide +kernel
theorem d_M_cut_67 : decode c_M_cut 67 = .ok (.sipush 2000, 3) := by decide +kernel
theorem d_M_cut_70 : decode c_M_cut 70 = .ok (.invokestatic 63, 3) := by decide +kernel
theorem d_M_cut_73 : decode c_M_cut 73 = .ok (.ifCond .eq 7, 3) := by decide +kernel
theorem d_M_cut_76 : decode c_M_cut 76 = .ok (.iconst 1, 1) := by decide +kernel
theorem d_M_cut_77 : decode c_M_cut 77 = .ok (.goto 4, 3) := by decide +kernel
theorem d_M_cut_80 : decode c_M_cut 80 = .ok (.iconst 0, 1) := by decide +kernel
theorem d_M_cut_81 : decode c_M_cut 81 = .ok (.istore 8, 2) := by decide +kernel
theorem d_M_cut_83 : decode c_M_cut 83 = .ok (.aload_n 0, 1) := by decide +kernel
theorem d_M_cut_84 : decode c_M_cut 84 = .ok (.aload_n 0, 1) := by decide +kernel
theorem d_M_cut_85 : decode c_M_cut 85 = .ok (.iload_n 1, 1) := by decide +kernel
theorem d_M_cut_86 : decode c_M_cut 86 = .ok (.invokevirtual 85, 3) := by decide +kernel
theorem d_M_cut_89 : decode c_M_cut 89 = .ok (.ifCond .eq 7, 3) := by decide +kernel
theorem d_M_cut_92 : decode c_M_cut 92 = .ok (.iconst 1, 1) := by decide +kernel
theorem d_M_cut_93 : decode c_M_cut 93 = .ok (.goto 13, 3) := by decide +kernel
theorem d_M_cut_96 : decode c_M_cut 96 = .ok (.iload 8, 2) := by decide +kernel
theorem d_M_cut_98 : decode c_M_cut 98 = .ok (.ifCond .eq 7, 3) := by decide +kernel
theorem d_M_cut_101 : decode c_M_cut 101 = .ok (.iconst 0, 1) := by decide +kernel
theorem d_M_cut_102 : decode c_M_cut 102 = .ok (.goto 4, 3) := by decide +kernel
theorem d_M_cut_105 : decode c_M_cut 105 = .ok (.iconst 2, 1) := by decide +kernel
theorem d_M_cut_106 : decode c_M_cut 106 = .ok (.putfield 56, 3) := by decide +kernel
theorem d_M_cut_109 : decode c_M_cut 109 = .ok (.aload_n 0, 1) := by decide +kernel
theorem d_M_cut_110 : decode c_M_cut 110 = .ok (.getfield 56, 3) := by decide +kernel
theorem d_M_cut_113 : decode c_M_cut 113 = .ok (.ifCond .le 5, 3) := by decide +kernel
theorem d_M_cut_116 : decode c_M_cut 116 = .ok (.iconst 0, 1) := by decide +kernel
theorem d_M_cut_117 : decode c_M_cut 117 = .ok (.ireturn, 1) := by decide +kernel
theorem d_M_cut_118 : decode c_M_cut 118 = .ok (.aload_n 0, 1) := by decide +kernel
theorem d_M_cut_119 : decode c_M_cut 119 = .ok (.iload_n 2, 1) := by decide +kernel
theorem d_M_cut_120 : decode c_M_cut 120 = .ok (.iload_n 3, 1) := by decide +kernel
theorem d_M_cut_121 : decode c_M_cut 121 = .ok (.iload 4, 2) := by decide +kernel
theorem d_M_cut_123 : decode c_M_cut 123 = .ok (.iload 5, 2) := by decide +kernel
theorem d_M_cut_125 : decode c_M_cut 125 = .ok (.iload 6, 2) := by decide +kernel
theorem d_M_cut_127 : decode c_M_cut 127 = .ok (.iload 7, 2) := by decide +kernel
theorem d_M_cut_129 : decode c_M_cut 129 = .ok (.invokevirtual 67, 3) := by decide +kernel
theorem d_M_cut_132 : decode c_M_cut 132 = .ok (.aload_n 0, 1) := by decide +kernel
theorem d_M_cut_133 : decode c_M_cut 133 = .ok (.iconst 0, 1) := by decide +kernel
theorem d_M_cut_134 : decode c_M_cut 134 = .ok (.iload_n 1, 1) := by decide +kernel
theorem d_M_cut_135 : decode c_M_cut 135 = .ok (.invokevirtual 88, 3) := by decide +kernel
theorem d_M_cut_138 : decode c_M_cut 138 = .ok (.aload_n 0, 1) := by decide +kernel
theorem d_M_cut_139 : decode c_M_cut 139 = .ok (.iconst 0, 1) := by decide +kernel
theorem d_M_cut_140 : decode c_M_cut 140 = .ok (.invokevirtual 92, 3) := by decide +kernel
theorem d_M_cut_143 : decode c_M_cut 143 = .ok (.istore 9, 2) := by decide +kernel
theorem d_M_cut_145 : decode c_M_cut 145 = .ok (.iload 9, 2) := by decide +kernel
theorem d_M_cut_147 : decode c_M_cut 147 = .ok (.ifCond .ge 10, 3) := by decide +kernel
theorem d_M_cut_150 : decode c_M_cut 150 = .ok (.aload_n 0, 1) := by decide +kernel
theorem d_M_cut_151 : decode c_M_cut 151 = .ok (.iconst 3, 1) := by decide +kernel
theorem d_M_cut_152 : decode c_M_cut 152 = .ok (.putfield 56, 3) := by decide +kernel
theorem d_M_cut_155 : decode c_M_cut 155 = .ok (.iconst 0, 1) := by decide +kernel
theorem d_M_cut_156 : decode c_M_cut 156 = .ok (.ireturn, 1) := by decide +kernel
theorem d_M_cut_157 : decode c_M_cut 157 = .ok (.aload_n 0, 1) := by decide +kernel
theorem d_M_cut_158 : decode c_M_cut 158 = .ok (.iconst 0, 1) := by decide +kernel
theorem d_M_cut_159 : decode c_M_cut 159 = .ok (.iload_n 1, 1) := by decide +kernel
theorem d_M_cut_160 : decode c_M_cut 160 = .ok (.invokevirtual 96, 3) := by decide +kernel
theorem d_M_cut_163 : decode c_M_cut 163 = .ok (.iload 9, 2) := by decide +kernel
theorem d_M_cut_165 : decode c_M_cut 165 = .ok (.ifCond .le 7, 3) := by decide +kernel
theorem d_M_cut_168 : decode c_M_cut 168 = .ok (.iconst 1, 1) := by decide +kernel
theorem d_M_cut_169 : decode c_M_cut 169 = .ok (.goto 4, 3) := by decide +kernel
theorem d_M_cut_172 : decode c_M_cut 172 = .ok (.iconst 0, 1) := by decide +kernel
theorem d_M_cut_173 : decode c_M_cut 173 = .ok (.ireturn, 1) := by decide +kernel
theorem d_M_clear_0 : decode c_M_clear 0 = .ok (.aload_n 0, 1) := by decide +kernel
theorem d_M_clear_1 : decode c_M_clear 1 = .ok (.iload_n 1, 1) := by decide +kernel
theorem d_M_clear_2 : decode c_M_clear 2 = .ok (.iconst 0, 1) := by decide +kernel
theorem d_M_clear_3 : decode c_M_clear 3 = .ok (.bipush 100, 2) := by decide +kernel
theorem d_M_clear_5 : decode c_M_clear 5 = .ok (.invokestatic 63, 3) := by decide +kernel
theorem d_M_clear_8 : decode c_M_clear 8 = .ok (.ifCond .eq 7, 3) := by decide +kernel
theorem d_M_clear_11 : decode c_M_clear 11 = .ok (.iconst 0, 1) := by decide +kernel
theorem d_M_clear_12 : decode c_M_clear 12 = .ok (.goto 4, 3) := by decide +kernel
theorem d_M_clear_15 : decode c_M_clear 15 = .ok (.iconst 1, 1) := by decide +kernel
theorem d_M_clear_16 : decode c_M_clear 16 = .ok (.putfield 56, 3) := by decide +kernel
theorem d_M_clear_19 : decode c_M_clear 19 = .ok (.aload_n 0, 1) := by decide +kernel
theorem d_M_clear_20 : decode c_M_clear 20 = .ok (.aload_n 0, 1) := by decide +kernel
theorem d_M_clear_21 : decode c_M_clear 21 = .ok (.getfield 56, 3) := by decide +kernel
theorem d_M_clear_24 : decode c_M_clear 24 = .ok (.ifCond .le 10, 3) := by decide +kernel
theorem d_M_clear_27 : decode c_M_clear 27 = .ok (.aload_n 0, 1) := by decide +kernel
theorem d_M_clear_28 : decode c_M_clear 28 = .ok (.getfield 99, 3) := by decide +kernel
theorem d_M_clear_31 : decode c_M_clear 31 = .ok (.goto 4, 3) := by decide +kernel
theorem d_M_clear_34 : decode c_M_clear 34 = .ok (.iload_n 1, 1) := by decide +kernel
theorem d_M_clear_35 : decode c_M_clear 35 = .ok (.putfield 99, 3) := by decide +kernel
theorem d_M_clear_38 : decode c_M_clear 38 = .ok (.return_, 1) := by decide +kernel
theorem d_M_hasCommon_0 : decode c_M_hasCommon 0 = .ok (.iconst 1, 1) := by decide +kernel
theorem d_M_hasCommon_1 : decode c_M_hasCommon 1 = .ok (.istore_n 3, 1) := by decide +kernel
theorem d_M_hasCommon_2 : decode c_M_hasCommon 2 = .ok (.iconst 0, 1) := by decide +kernel
theorem d_M_hasCommon_3 : decode c_M_hasCommon 3 = .ok (.istore 4, 2) := by decide +kernel
theorem d_M_hasCommon_5 : decode c_M_hasCommon 5 = .ok (.iload 4, 2) := by decide +kernel
theorem d_M_hasCommon_7 : decode c_M_hasCommon 7 = .ok (.iconst 3, 1) := by decide +kernel
theorem d_M_hasCommon_8 : decode c_M_hasCommon 8 = .ok (.if_icmp .ge 112, 3) := by decide +kernel
theorem d_M_hasCommon_11 : decode c_M_hasCommon 11 = .ok (.aload_n 0, 1) := by decide +kernel
theorem d_M_hasCommon_12 : decode c_M_hasCommon 12 = .ok (.getfield 31, 3) := by decide +kernel
theorem d_M_hasCommon_15 : decode c_M_hasCommon 15 = .ok (.iload 4, 2) := by decide +kernel
theorem d_M_hasCommon_17 : decode c_M_hasCommon 17 = .ok (.aload_n 0, 1) := by decide +kernel
theorem d_M_hasCommon_18 : decode c_M_hasCommon 18 = .ok (.getfield 7, 3) := by decide +kernel
theorem d_M_hasCommon_21 : decode c_M_hasCommon 21 = .ok (.bipush 6, 2) := by decide +kernel
theorem d_M_hasCommon_23 : decode c_M_hasCommon 23 = .ok (.iload_n 1, 1) := by decide +kernel
theorem d_M_hasCommon_24 : decode c_M_hasCommon 24 = .ok (.imul, 1) := by decide +kernel
theorem d_M_hasCommon_25 : decode c_M_hasCommon 25 = .ok (.iload 4, 2) := by decide +kernel
theorem d_M_hasCommon_27 : decode c_M_hasCommon 27 = .ok (.iadd, 1) := by decide +kernel
theorem d_M_hasCommon_28 : decode c_M_hasCommon 28 = .ok (.iaload, 1) := by decide +kernel
theorem d_M_hasCommon_29 : decode c_M_hasCommon 29 = .ok (.aload_n 0, 1) := by decide +kernel
theorem d_M_hasCommon_30 : decode c_M_hasCommon 30 = .ok (.getfield 7, 3) := by decide +kernel
theorem d_M_hasCommon_33 : decode c_M_hasCommon 33 = .ok (.bipush 6, 2) := by decide +kernel
theorem d_M_hasCommon_35 : decode c_M_hasCommon 35 = .ok (.iload_n 2, 1) := by decide +kernel
theorem d_M_hasCommon_36 : decode c_M_hasCommon 36 = .ok (.imul, 1) := by decide +kernel
theorem d_M_hasCommon_37 : decode c_M_hasCommon 37 = .ok (.iload 4, 2) := by decide +kernel
theorem d_M_hasCommon_39 : decode c_M_hasCommon 39 = .ok (.iadd, 1) := by decide +kernel
theorem d_M_hasCommon_40 : decode c_M_hasCommon 40 = .ok (.iaload, 1) := by decide +kernel
theorem d_M_hasCommon_41 : decode c_M_hasCommon 41 = .ok (.invokestatic 79, 3) := by decide +kernel
theorem d_M_hasCommon_44 : decode c_M_hasCommon 44 = .ok (.iastore, 1) := by decide +kernel
theorem d_M_hasCommon_45 : decode c_M_hasCommon 45 = .ok (.aload_n 0, 1) := by decide +kernel
theorem d_M_hasCommon_46 : decode c_M_hasCommon 46 = .ok (.getfield 31, 3) := by decide +kernel
theorem d_M_hasCommon_49 : decode c_M_hasCommon 49 = .ok (.iconst 3, 1) := by decide +kernel
theorem d_M_hasCommon_50 : decode c_M_hasCommon 50 = .ok (.iload 4, 2) := by decide +kernel
theorem d_M_hasCommon_52 : decode c_M_hasCommon 52 = .ok (.iadd, 1) := by decide +kernel
theorem d_M_hasCommon_53 : decode c_M_hasCommon 53 = .ok (.aload_n 0, 1) := by decide +kernel
theorem d_M_hasCommon_54 : decode c_M_hasCommon 54 = .ok (.getfield 7, 3) := by decide +kernel
theorem d_M_hasCommon_57 : decode c_M_hasCommon 57 = .ok (.bipush 6, 2) := by decide +kernel
theorem d_M_hasCommon_59 : decode c_M_hasCommon 59 = .ok (.iload_n 1, 1) := by decide +kernel
theorem d_M_hasCommon_60 : decode c_M_hasCommon 60 = .ok (.imul, 1) := by decide +kernel
theorem d_M_hasCommon_61 : decode c_M_hasCommon 61 = .ok (.iconst 3, 1) := by decide +kernel
theorem d_M_hasCommon_62 : decode c_M_hasCommon 62 = .ok (.iadd, 1) := by decide +kernel
theorem d_M_hasCommon_63 : decode c_M_hasCommon 63 = .ok (.iload 4, 2) := by decide +kernel
theorem d_M_hasCommon_65 : decode c_M_hasCommon 65 = .ok (.iadd, 1) := by decide +kernel
theorem d_M_hasCommon_66 : decode c_M_hasCommon 66 = .ok (.iaload, 1) := by decide +kernel
theorem d_M_hasCommon_67 : decode c_M_hasCommon 67 = .ok (.aload_n 0, 1) := by decide +kernel
theorem d_M_hasCommon_68 : decode c_M_hasCommon 68 = .ok (.getfield 7, 3) := by decide +kernel
theorem d_M_hasCommon_71 : decode c_M_hasCommon 71 = .ok (.bipush 6, 2) := by decide +kernel
theorem d_M_hasCommon_73 : decode c_M_hasCommon 73 = .ok (.iload_n 2, 1) := by decide +kernel
theorem d_M_hasCommon_74 : decode c_M_hasCommon 74 = .ok (.imul, 1) := by decide +kernel
theorem d_M_hasCommon_75 : decode c_M_hasCommon 75 = .ok (.iconst 3, 1) := by decide +kernel
theorem d_M_hasCommon_76 : decode c_M_hasCommon 76 = .ok (.iadd, 1) := by decide +kernel
theorem d_M_hasCommon_77 : decode c_M_hasCommon 77 = .ok (.iload 4, 2) := by decide +kernel
theorem d_M_hasCommon_79 : decode c_M_hasCommon 79 = .ok (.iadd, 1) := by decide +kernel
theorem d_M_hasCommon_80 : decode c_M_hasCommon 80 = .ok (.iaload, 1) := by decide +kernel
theorem d_M_hasCommon_81 : decode c_M_hasCommon 81 = .ok (.invokestatic 82, 3) := by decide +kernel
theorem d_M_hasCommon_84 : decode c_M_hasCommon 84 = .ok (.iastore, 1) := by decide +kernel
theorem d_M_hasCommon_85 : decode c_M_hasCommon 85 = .ok (.iload_n 3, 1) := by decide +kernel
theorem d_M_hasCommon_86 : decode c_M_hasCommon 86 = .ok (.ifCond .eq 26, 3) := by decide +kernel
theorem d_M_hasCommon_89 : decode c_M_hasCommon 89 = .ok (.aload_n 0, 1) := by decide +kernel
theorem d_M_hasCommon_90 : decode c_M_hasCommon 90 = .ok (.getfield 31, 3) := by decide +kernel
theorem d_M_hasCommon_93 : decode c_M_hasCommon 93 = .ok (.iload 4, 2) := by decide +kernel
theorem d_M_hasCommon_95 : decode c_M_hasCommon 95 = .ok (.iaload, 1) := by decide +kernel
theorem d_M_hasCommon_96 : decode c_M_hasCommon 96 = .ok (.aload_n 0, 1) := by decide +kernel
theorem d_M_hasCommon_97 : decode c_M_hasCommon 97 = .ok (.getfield 31, 3) := by decide +kernel
theorem d_M_hasCommon_100 : decode c_M_hasCommon 100 = .ok (.iconst 3, 1) := by decide +kernel
theorem d_M_hasCommon_101 : decode c_M_hasCommon 101 = .ok (.iload 4, 2) := by decide +kernel
theorem d_M_hasCommon_103 : decode c_M_hasCommon 103 = .ok (.iadd, 1) := by decide +kernel
theorem d_M_hasCommon_104 : decode c_M_hasCommon 104 = .ok (.iaload, 1) := by decide +kernel
theorem d_M_hasCommon_105 : decode c_M_hasCommon 105 = .ok (.if_icmp .ge 7, 3) := by decide +kernel
theorem d_M_hasCommon_108 : decode c_M_hasCommon 108 = .ok (.iconst 1, 1) := by decide +kernel
theorem d_M_hasCommon_109 : decode c_M_hasCommon 109 = .ok (.goto 4, 3) := by decide +kernel
theorem d_M_hasCommon_112 : decode c_M_hasCommon 112 = .ok (.iconst 0, 1) := by decide +kernel
theorem d_M_hasCommon_113 : decode c_M_hasCommon 113 = .ok (.istore_n 3, 1) := by decide +kernel
theorem d_M_hasCommon_114 : decode c_M_hasCommon 114 = .ok (.iinc 4 1, 3) := by decide +kernel
theorem d_M_hasCommon_117 : decode c_M_hasCommon 117 = .ok (.goto (-112), 3) := by decide +kernel
theorem d_M_hasCommon_120 : decode c_M_hasCommon 120 = .ok (.iload_n 3, 1) := by decide +kernel
theorem d_M_hasCommon_121 : decode c_M_hasCommon 121 = .ok (.ireturn, 1) := by decide +kernel
theorem d_M_loses_0 : decode c_M_loses 0 = .ok (.iload_n 1, 1) := by decide +kernel
theorem d_M_loses_1 : decode c_M_loses 1 = .ok (.ifCond .ne 10, 3) := by decide +kernel
theorem d_M_loses_4 : decode c_M_loses 4 = .ok (.aload_n 0, 1) := by decide +kernel
theorem d_M_loses_5 : decode c_M_loses 5 = .ok (.getfield 99, 3) := by decide +kernel
theorem d_M_loses_8 : decode c_M_loses 8 = .ok (.goto 4, 3) := by decide +kernel
theorem d_M_loses_11 : decode c_M_loses 11 = .ok (.iconst 0, 1) := by decide +kernel
theorem d_M_loses_12 : decode c_M_loses 12 = .ok (.istore 5, 2) := by decide +kernel
theorem d_M_loses_14 : decode c_M_loses 14 = .ok (.iconst 0, 1) := by decide +kernel
theorem d_M_loses_15 : decode c_M_loses 15 = .ok (.istore 6, 2) := by decide +kernel
theorem d_M_loses_17 : decode c_M_loses 17 = .ok (.iload 6, 2) := by decide +kernel
theorem d_M_loses_19 : decode c_M_loses 19 = .ok (.bipush 6, 2) := by decide +kernel
theorem d_M_loses_21 : decode c_M_loses 21 = .ok (.if_icmp .ge 23, 3) := by decide +kernel
theorem d_M_loses_24 : decode c_M_loses 24 = .ok (.aload_n 0, 1) := by decide +kernel
theorem d_M_loses_25 : decode c_M_loses 25 = .ok (.getfield 28, 3) := by decide +kernel
theorem d_M_loses_28 : decode c_M_loses 28 = .ok (.iload 6, 2) := by decide +kernel
theorem d_M_loses_30 : decode c_M_loses 30 = .ok (.aload_n 0, 1) := by decide +kernel
theorem d_M_loses_31 : decode c_M_loses 31 = .ok (.getfield 31, 3) := by decide +kernel
theorem d_M_loses_34 : decode c_M_loses 34 = .ok (.iload 6, 2) := by decide +kernel
theorem d_M_loses_36 : decode c_M_loses 36 = .ok (.iaload, 1) := by decide +kernel
theorem d_M_loses_37 : decode c_M_loses 37 = .ok (.iastore, 1) := by decide +kernel
theorem d_M_loses_38 : decode c_M_loses 38 = .ok (.iinc 6 1, 3) := by decide +kernel
theorem d_M_loses_41 : decode c_M_loses 41 = .ok (.goto (-24), 3) := by decide +kernel
theorem d_M_loses_44 : decode c_M_loses 44 = .ok (.aload_n 0, 1) := by decide +kernel
theorem d_M_loses_45 : decode c_M_loses 45 = .ok (.getfield 28, 3) := by decide +kernel
theorem d_M_loses_48 : decode c_M_loses 48 = .ok (.iload_n 2, 1) := by decide +kernel
theorem d_M_loses_49 : decode c_M_loses 49 = .ok (.aload_n 0, 1) := by decide +kernel
theorem d_M_loses_50 : decode c_M_loses 50 = .ok (.getfield 31, 3) := by decide +kernel
theorem d_M_loses_53 : decode c_M_loses 53 = .ok (.iload_n 2, 1) := by decide +kernel
theorem d_M_loses_54 : decode c_M_loses 54 = .ok (.iaload, 1) := by decide +kernel
theorem d_M_loses_55 : decode c_M_loses 55 = .ok (.iload_n 3, 1) := by decide +kernel
theorem d_M_loses_56 : decode c_M_loses 56 = .ok (.iload 5, 2) := by decide +kernel
theorem d_M_loses_58 : decode c_M_loses 58 = .ok (.isub, 1) := by decide +kernel
theorem d_M_loses_59 : decode c_M_loses 59 = .ok (.invokestatic 79, 3) := by decide +kernel
theorem d_M_loses_62 : decode c_M_loses 62 = .ok (.iastore, 1) := by decide +kernel
theorem d_M_loses_63 : decode c_M_loses 63 = .ok (.aload_n 0, 1) := by decide +kernel
theorem d_M_loses_64 : decode c_M_loses 64 = .ok (.getfield 28, 3) := by decide +kernel
theorem d_M_loses_67 : decode c_M_loses 67 = .ok (.iconst 3, 1) := by decide +kernel
theorem d_M_loses_68 : decode c_M_loses 68 = .ok (.iload_n 2, 1) := by decide +kernel
theorem d_M_loses_69 : decode c_M_loses 69 = .ok (.iadd, 1) := by decide +kernel
theorem d_M_loses_70 : decode c_M_loses 70 = .ok (.aload_n 0, 1) := by decide +kernel
theorem d_M_loses_71 : decode c_M_loses 71 = .ok (.getfield 31, 3) := by decide +kernel
theorem d_M_loses_74 : decode c_M_loses 74 = .ok (.iconst 3, 1) := by decide +kernel
theorem d_M_loses_75 : decode c_M_loses 75 = .ok (.iload_n 2, 1) := by decide +kernel
theorem d_M_loses_76 : decode c_M_loses 76 = .ok (.iadd, 1) := by decide +kernel
theorem d_M_loses_77 : decode c_M_loses 77 = .ok (.iaload, 1) := by decide +kernel
theorem d_M_loses_78 : decode c_M_loses 78 = .ok (.iload 4, 2) := by decide +kernel
theorem d_M_loses_80 : decode c_M_loses 80 = .ok (.iload 5, 2) := by decide +kernel
theorem d_M_loses_82 : decode c_M_loses 82 = .ok (.iadd, 1) := by decide +kernel
theorem d_M_loses_83 : decode c_M_loses 83 = .ok (.invokestatic 82, 3) := by decide +kernel
theorem d_M_loses_86 : decode c_M_loses 86 = .ok (.iastore, 1) := by decide +kernel
theorem d_M_loses_87 : decode c_M_loses 87 = .ok (.aload_n 0, 1) := by decide +kernel
theorem d_M_loses_88 : decode c_M_loses 88 = .ok (.iload_n 1, 1) := by decide +kernel
theorem d_M_loses_89 : decode c_M_loses 89 = .ok (.invokevirtual 92, 3) := by decide +kernel
theorem d_M_loses_92 : decode c_M_loses 92 = .ok (.ifCond .lt 7, 3) := by decide +kernel
theorem d_M_loses_95 : decode c_M_loses 95 = .ok (.iconst 1, 1) := by decide +kernel
theorem d_M_loses_96 : decode c_M_loses 96 = .ok (.goto 4, 3) := by decide +kernel
theorem d_M_loses_99 : decode c_M_loses 99 = .ok (.iconst 0, 1) := by decide +kernel
theorem d_M_loses_100 : decode c_M_loses 100 = .ok (.ireturn, 1) := by decide +kernel
theorem d_M_needs_0 : decode c_M_needs 0 = .ok (.iload_n 0, 1) := by decide +kernel
theorem d_M_needs_1 : decode c_M_needs 1 = .ok (.ifCond .ne 7, 3) := by decide +kernel
theorem d_M_needs_4 : decode c_M_needs 4 = .ok (.iconst 2, 1) := by decide +kernel
theorem d_M_needs_5 : decode c_M_needs 5 = .ok (.goto 24, 3) := by decide +kernel
theorem d_M_needs_8 : decode c_M_needs 8 = .ok (.iload_n 0, 1) := by decide +kernel
theorem d_M_needs_9 : decode c_M_needs 9 = .ok (.iconst 1, 1) := by decide +kernel
theorem d_M_needs_10 : decode c_M_needs 10 = .ok (.if_icmp .ne 7, 3) := by decide +kernel
theorem d_M_needs_13 : decode c_M_needs 13 = .ok (.iconst 1, 1) := by decide +kernel
theorem d_M_needs_14 : decode c_M_needs 14 = .ok (.goto 15, 3) := by decide +kernel
theorem d_M_needs_17 : decode c_M_needs 17 = .ok (.iload_n 0, 1) := by decide +kernel
theorem d_M_needs_18 : decode c_M_needs 18 = .ok (.iconst 2, 1) := by decide +kernel
theorem d_M_needs_19 : decode c_M_needs 19 = .ok (.if_icmp .ne 9, 3) := by decide +kernel
theorem d_M_needs_22 : decode c_M_needs 22 = .ok (.iconst 2, 1) := by decide +kernel
theorem d_M_needs_23 : decode c_M_needs 23 = .ok (.iload_n 1, 1) := by decide +kernel
theorem d_M_needs_24 : decode c_M_needs 24 = .ok (.imul, 1) := by decide +kernel
theorem d_M_needs_25 : decode c_M_needs 25 = .ok (.goto 4, 3) := by decide +kernel
theorem d_M_needs_28 : decode c_M_needs 28 = .ok (.iconst 3, 1) := by decide +kernel
theorem d_M_needs_29 : decode c_M_needs 29 = .ok (.ireturn, 1) := by decide +kernel
theorem d_M_shape_0 : decode c_M_shape 0 = .ok (.aload_n 0, 1) := by decide +kernel
theorem d_M_shape_1 : decode c_M_shape 1 = .ok (.getfield 31, 3) := by decide +kernel
theorem d_M_shape_4 : decode c_M_shape 4 = .ok (.iload_n 2, 1) := by decide +kernel
theorem d_M_shape_5 : decode c_M_shape 5 = .ok (.iaload, 1) := by decide +kernel
theorem d_M_shape_6 : decode c_M_shape 6 = .ok (.istore 4, 2) := by decide +kernel
theorem d_M_shape_8 : decode c_M_shape 8 = .ok (.aload_n 0, 1) := by decide +kernel
theorem d_M_shape_9 : decode c_M_shape 9 = .ok (.getfield 31, 3) := by decide +kernel
theorem d_M_shape_12 : decode c_M_shape 12 = .ok (.iconst 3, 1) := by decide +kernel
theorem d_M_shape_13 : decode c_M_shape 13 = .ok (.iload_n 2, 1) := by decide +kernel
theorem d_M_shape_14 : decode c_M_shape 14 = .ok (.iadd, 1) := by decide +kernel
theorem d_M_shape_15 : decode c_M_shape 15 = .ok (.iaload, 1) := by decide +kernel
theorem d_M_shape_16 : decode c_M_shape 16 = .ok (.istore 5, 2) := by decide +kernel
theorem d_M_shape_18 : decode c_M_shape 18 = .ok (.iload 5, 2) := by decide +kernel
theorem d_M_shape_20 : decode c_M_shape 20 = .ok (.iload 4, 2) := by decide +kernel
theorem d_M_shape_22 : decode c_M_shape 22 = .ok (.isub, 1) := by decide +kernel
theorem d_M_shape_23 : decode c_M_shape 23 = .ok (.istore 6, 2) := by decide +kernel
theorem d_M_shape_25 : decode c_M_shape 25 = .ok (.iload_n 1, 1) := by decide +kernel
theorem d_M_shape_26 : decode c_M_shape 26 = .ok (.ifCond .ne 45, 3) := by decide +kernel
theorem d_M_shape_29 : decode c_M_shape 29 = .ok (.aload_n 0, 1) := by decide +kernel
theorem d_M_shape_30 : decode c_M_shape 30 = .ok (.iconst 1, 1) := by decide +kernel
theorem d_M_shape_31 : decode c_M_shape 31 = .ok (.iload_n 2, 1) := by decide +kernel
theorem d_M_shape_32 : decode c_M_shape 32 = .ok (.iload 4, 2) := by decide +kernel
theorem d_M_shape_34 : decode c_M_shape 34 = .ok (.iload 4, 2) := by decide +kernel
theorem d_M_shape_36 : decode c_M_shape 36 = .ok (.iload 6, 2) := by decide +kernel
theorem d_M_shape_38 : decode c_M_shape 38 = .ok (.iconst 2, 1) := by decide +kernel
theorem d_M_shape_39 : decode c_M_shape 39 = .ok (.idiv, 1) := by decide +kernel
theorem d_M_shape_40 : decode c_M_shape 40 = .ok (.iadd, 1) := by decide +kernel
theorem d_M_shape_41 : decode c_M_shape 41 = .ok (.invokevirtual 102, 3) := by decide +kernel
theorem d_M_shape_44 : decode c_M_shape 44 = .ok (.ifCond .eq 25, 3) := by decide +kernel
theorem d_M_shape_47 : decode c_M_shape 47 = .ok (.aload_n 0, 1) := by decide +kernel
theorem d_M_shape_48 : decode c_M_shape 48 = .ok (.iconst 0, 1) := by decide +kernel
theorem d_M_shape_49 : decode c_M_shape 49 = .ok (.iload_n 2, 1) := by decide +kernel
theorem d_M_shape_50 : decode c_M_shape 50 = .ok (.iload 4, 2) := by decide +kernel
theorem d_M_shape_52 : decode c_M_shape 52 = .ok (.iload 6, 2) := by decide +kernel
theorem d_M_shape_54 : decode c_M_shape 54 = .ok (.iconst 2, 1) := by decide +kernel
theorem d_M_shape_55 : decode c_M_shape 55 = .ok (.idiv, 1) := by decide +kernel
theorem d_M_shape_56 : decode c_M_shape 56 = .ok (.iadd, 1) := by decide +kernel
theorem d_M_shape_57 : decode c_M_shape 57 = .ok (.iload 5, 2) := by decide +kernel
theorem d_M_shape_59 : decode c_M_shape 59 = .ok (.invokevirtual 102, 3) := by decide +kernel
theorem d_M_shape_62 : decode c_M_shape 62 = .ok (.ifCond .eq 7, 3) := by decide +kernel
theorem d_M_shape_65 : decode c_M_shape 65 = .ok (.iconst 1, 1) := by decide +kernel
theorem d_M_shape_66 : decode c_M_shape 66 = .ok (.goto 4, 3) := by decide +kernel
theorem d_M_shape_69 : decode c_M_shape 69 = .ok (.iconst 0, 1) := by decide +kernel
theorem d_M_shape_70 : decode c_M_shape 70 = .ok (.ireturn, 1) := by decide +kernel
theorem d_M_shape_71 : decode c_M_shape 71 = .ok (.iload_n 1, 1) := by decide +kernel
theorem d_M_shape_72 : decode c_M_shape 72 = .ok (.iconst 1, 1) := by decide +kernel
theorem d_M_shape_73 : decode c_M_shape 73 = .ok (.if_icmp .ne 14, 3) := by decide +kernel
theorem d_M_shape_76 : decode c_M_shape 76 = .ok (.aload_n 0, 1) := by decide +kernel
theorem d_M_shape_77 : decode c_M_shape 77 = .ok (.iconst 0, 1) := by decide +kernel
theorem d_M_shape_78 : decode c_M_shape 78 = .ok (.iload_n 2, 1) := by decide +kernel
theorem d_M_shape_79 : decode c_M_shape 79 = .ok (.iload 4, 2) := by decide +kernel
theorem d_M_shape_81 : decode c_M_shape 81 = .ok (.iload 5, 2) := by decide +kernel
theorem d_M_shape_83 : decode c_M_shape 83 = .ok (.invokevirtual 102, 3) := by decide +kernel
theorem d_M_shape_86 : decode c_M_shape 86 = .ok (.ireturn, 1) := by decide +kernel
theorem d_M_shape_87 : decode c_M_shape 87 = .ok (.iload_n 1, 1) := by decide +kernel
theorem d_M_shape_88 : decode c_M_shape 88 = .ok (.iconst 2, 1) := by decide +kernel
theorem d_M_shape_89 : decode c_M_shape 89 = .ok (.if_icmp .ne 64, 3) := by decide +kernel
theorem d_M_shape_92 : decode c_M_shape 92 = .ok (.iconst 1, 1) := by decide +kernel
theorem d_M_shape_93 : decode c_M_shape 93 = .ok (.istore 7, 2) := by decide +kernel
theorem d_M_shape_95 : decode c_M_shape 95 = .ok (.iconst 0, 1) := by decide +kernel
theorem d_M_shape_96 : decode c_M_shape 96 = .ok (.istore 8, 2) := by decide +kernel
theorem d_M_shape_98 : decode c_M_shape 98 = .ok (.iload 8, 2) := by decide +kernel
theorem d_M_shape_100 : decode c_M_shape 100 = .ok (.iload_n 3, 1) := by decide +kernel
theorem d_M_shape_101 : decode c_M_shape 101 = .ok (.imul, 1) := by decide +kernel
theorem d_M_shape_102 : decode c_M_shape 102 = .ok (.iload 6, 2) := by decide +kernel
theorem d_M_shape_104 : decode c_M_shape 104 = .ok (.if_icmp .ge 46, 3) := by decide +kernel
theorem d_M_shape_107 : decode c_M_shape 107 = .ok (.iload 7, 2) := by decide +kernel
theorem d_M_shape_109 : decode c_M_shape 109 = .ok (.ifCond .eq 41, 3) := by decide +kernel
theorem d_M_shape_112 : decode c_M_shape 112 = .ok (.aload_n 0, 1) := by decide +kernel
theorem d_M_shape_113 : decode c_M_shape 113 = .ok (.iload 8, 2) := by decide +kernel
theorem d_M_shape_115 : decode c_M_shape 115 = .ok (.iconst 2, 1) := by decide +kernel
theorem d_M_shape_116 : decode c_M_shape 116 = .ok (.irem, 1) := by decide +kernel
theorem d_M_shape_117 : decode c_M_shape 117 = .ok (.iload_n 2, 1) := by decide +kernel
theorem d_M_shape_118 : decode c_M_shape 118 = .ok (.iload 4, 2) := by decide +kernel
theorem d_M_shape_120 : decode c_M_shape 120 = .ok (.iload 8, 2) := by decide +kernel
theorem d_M_shape_122 : decode c_M_shape 122 = .ok (.iload_n 3, 1) := by decide +kernel
theorem d_M_shape_123 : decode c_M_shape 123 = .ok (.imul, 1) := by decide +kernel
theorem d_M_shape_124 : decode c_M_shape 124 = .ok (.iadd, 1) := by decide +kernel
theorem d_M_shape_125 : decode c_M_shape 125 = .ok (.iload 5, 2) := by decide +kernel
theorem d_M_shape_127 : decode c_M_shape 127 = .ok (.iload 4, 2) := by decide +kernel
theorem d_M_shape_129 : decode c_M_shape 129 = .ok (.iload 8, 2) := by decide +kernel
theorem d_M_shape_131 : decode c_M_shape 131 = .ok (.iload_n 3, 1) := by decide +kernel
theorem d_M_shape_132 : decode c_M_shape 132 = .ok (.imul, 1) := by decide +kernel
theorem d_M_shape_133 : decode c_M_shape 133 = .ok (.iadd, 1) := by decide +kernel
theorem d_M_shape_134 : decode c_M_shape 134 = .ok (.iload_n 3, 1) := by decide +kernel
theorem d_M_shape_135 : decode c_M_shape 135 = .ok (.iadd, 1) := by decide +kernel
theorem d_M_shape_136 : decode c_M_shape 136 = .ok (.invokestatic 82, 3) := by decide +kernel
theorem d_M_shape_139 : decode c_M_shape 139 = .ok (.invokevirtual 102, 3) := by decide +kernel
theorem d_M_shape_142 : decode c_M_shape 142 = .ok (.istore 7, 2) := by decide +kernel
theorem d_M_shape_144 : decode c_M_shape 144 = .ok (.iinc 8 1, 3) := by decide +kernel
theorem d_M_shape_147 : decode c_M_shape 147 = .ok (.goto (-49), 3) := by decide +kernel
theorem d_M_shape_150 : decode c_M_shape 150 = .ok (.iload 7, 2) := by decide +kernel
theorem d_M_shape_152 : decode c_M_shape 152 = .ok (.ireturn, 1) := by decide +kernel
theorem d_M_shape_153 : decode c_M_shape 153 = .ok (.iload 6, 2) := by decide +kernel
theorem d_M_shape_155 : decode c_M_shape 155 = .ok (.iconst 3, 1) := by decide +kernel
theorem d_M_shape_156 : decode c_M_shape 156 = .ok (.idiv, 1) := by decide +kernel
theorem d_M_shape_157 : decode c_M_shape 157 = .ok (.istore 7, 2) := by decide +kernel
theorem d_M_shape_159 : decode c_M_shape 159 = .ok (.iload_n 1, 1) := by decide +kernel
theorem d_M_shape_160 : decode c_M_shape 160 = .ok (.iconst 3, 1) := by decide +kernel
theorem d_M_shape_161 : decode c_M_shape 161 = .ok (.if_icmp .ne 7, 3) := by decide +kernel
theorem d_M_shape_164 : decode c_M_shape 164 = .ok (.iconst 0, 1) := by decide +kernel
theorem d_M_shape_165 : decode c_M_shape 165 = .ok (.goto 4, 3) := by decide +kernel
theorem d_M_shape_168 : decode c_M_shape 168 = .ok (.iconst 1, 1) := by decide +kernel
theorem d_M_shape_169 : decode c_M_shape 169 = .ok (.istore 8, 2) := by decide +kernel
theorem d_M_shape_171 : decode c_M_shape 171 = .ok (.aload_n 0, 1) := by decide +kernel
theorem d_M_shape_172 : decode c_M_shape 172 = .ok (.iload 8, 2) := by decide +kernel
theorem d_M_shape_174 : decode c_M_shape 174 = .ok (.iload_n 2, 1) := by decide +kernel
theorem d_M_shape_175 : decode c_M_shape 175 = .ok (.iload 4, 2) := by decide +kernel
theorem d_M_shape_177 : decode c_M_shape 177 = .ok (.iload 7, 2) := by decide +kernel
theorem d_M_shape_179 : decode c_M_shape 179 = .ok (.iadd, 1) := by decide +kernel
theorem d_M_shape_180 : decode c_M_shape 180 = .ok (.iload 5, 2) := by decide +kernel
theorem d_M_shape_182 : decode c_M_shape 182 = .ok (.iload 7, 2) := by decide +kernel
theorem d_M_shape_184 : decode c_M_shape 184 = .ok (.isub, 1) := by decide +kernel
theorem d_M_shape_185 : decode c_M_shape 185 = .ok (.invokevirtual 102, 3) := by decide +kernel
theorem d_M_shape_188 : decode c_M_shape 188 = .ok (.ifCond .eq 45, 3) := by decide +kernel
theorem d_M_shape_191 : decode c_M_shape 191 = .ok (.aload_n 0, 1) := by decide +kernel
theorem d_M_shape_192 : decode c_M_shape 192 = .ok (.iconst 1, 1) := by decide +kernel
theorem d_M_shape_193 : decode c_M_shape 193 = .ok (.iload 8, 2) := by decide +kernel
theorem d_M_shape_195 : decode c_M_shape 195 = .ok (.isub, 1) := by decide +kernel
theorem d_M_shape_196 : decode c_M_shape 196 = .ok (.iload_n 2, 1) := by decide +kernel
theorem d_M_shape_197 : decode c_M_shape 197 = .ok (.iload 4, 2) := by decide +kernel
theorem d_M_shape_199 : decode c_M_shape 199 = .ok (.iload 4, 2) := by decide +kernel
theorem d_M_shape_201 : decode c_M_shape 201 = .ok (.iload 7, 2) := by decide +kernel
theorem d_M_shape_203 : decode c_M_shape 203 = .ok (.iadd, 1) := by decide +kernel
theorem d_M_shape_204 : decode c_M_shape 204 = .ok (.invokevirtual 102, 3) := by decide +kernel
theorem d_M_shape_207 : decode c_M_shape 207 = .ok (.ifCond .eq 26, 3) := by decide +kernel
theorem d_M_shape_210 : decode c_M_shape 210 = .ok (.aload_n 0, 1) := by decide +kernel
theorem d_M_shape_211 : decode c_M_shape 211 = .ok (.iconst 1, 1) := by decide +kernel
theorem d_M_shape_212 : decode c_M_shape 212 = .ok (.iload 8, 2) := by decide +kernel
theorem d_M_shape_214 : decode c_M_shape 214 = .ok (.isub, 1) := by decide +kernel
theorem d_M_shape_215 : decode c_M_shape 215 = .ok (.iload_n 2, 1) := by decide +kernel
theorem d_M_shape_216 : decode c_M_shape 216 = .ok (.iload 5, 2) := by decide +kernel
theorem d_M_shape_218 : decode c_M_shape 218 = .ok (.iload 7, 2) := by decide +kernel
theorem d_M_shape_220 : decode c_M_shape 220 = .ok (.isub, 1) := by decide +kernel
theorem d_M_shape_221 : decode c_M_shape 221 = .ok (.iload 5, 2) := by decide +kernel
theorem d_M_shape_223 : decode c_M_shape 223 = .ok (.invokevirtual 102, 3) := by decide +kernel
theorem d_M_shape_226 : decode c_M_shape 226 = .ok (.ifCond .eq 7, 3) := by decide +kernel
theorem d_M_shape_229 : decode c_M_shape 229 = .ok (.iconst 1, 1) := by decide +kernel
theorem d_M_shape_230 : decode c_M_shape 230 = .ok (.goto 4, 3) := by decide +kernel
theorem d_M_shape_233 : decode c_M_shape 233 = .ok (.iconst 0, 1) := by decide +kernel
theorem d_M_shape_234 : decode c_M_shape 234 = .ok (.ireturn, 1) := by decide +kernel
theorem d_M_joint_0 : decode c_M_joint 0 = .ok (.aload_n 0, 1) := by decide +kernel
theorem d_M_joint_1 : decode c_M_joint 1 = .ok (.iload_n 1, 1) := by decide +kernel
theorem d_M_joint_2 : decode c_M_joint 2 = .ok (.iconst 0, 1) := by decide +kernel
theorem d_M_joint_3 : decode c_M_joint 3 = .ok (.iconst 4, 1) := by decide +kernel
theorem d_M_joint_4 : decode c_M_joint 4 = .ok (.invokestatic 63, 3) := by decide +kernel
theorem d_M_joint_7 : decode c_M_joint 7 = .ok (.ifCond .eq 29, 3) := by decide +kernel
theorem d_M_joint_10 : decode c_M_joint 10 = .ok (.aload_n 0, 1) := by decide +kernel
theorem d_M_joint_11 : decode c_M_joint 11 = .ok (.iload_n 2, 1) := by decide +kernel
theorem d_M_joint_12 : decode c_M_joint 12 = .ok (.invokevirtual 85, 3) := by decide +kernel
theorem d_M_joint_15 : decode c_M_joint 15 = .ok (.ifCond .ne 21, 3) := by decide +kernel
theorem d_M_joint_18 : decode c_M_joint 18 = .ok (.aload_n 0, 1) := by decide +kernel
theorem d_M_joint_19 : decode c_M_joint 19 = .ok (.iload_n 3, 1) := by decide +kernel
theorem d_M_joint_20 : decode c_M_joint 20 = .ok (.invokevirtual 85, 3) := by decide +kernel
theorem d_M_joint_23 : decode c_M_joint 23 = .ok (.ifCond .ne 13, 3) := by decide +kernel
theorem d_M_joint_26 : decode c_M_joint 26 = .ok (.iload 4, 2) := by decide +kernel
theorem d_M_joint_28 : decode c_M_joint 28 = .ok (.iconst 0, 1) := by decide +kernel
theorem d_M_joint_29 : decode c_M_joint 29 = .ok (.iconst 2, 1) := by decide +kernel
theorem d_M_joint_30 : decode c_M_joint 30 = .ok (.invokestatic 63, 3) := by decide +kernel
theorem d_M_joint_33 : decode c_M_joint 33 = .ok (.ifCond .ne 7, 3) := by decide +kernel
theorem d_M_joint_36 : decode c_M_joint 36 = .ok (.iconst 1, 1) := by decide +kernel
theorem d_M_joint_37 : decode c_M_joint 37 = .ok (.goto 25, 3) := by decide +kernel
theorem d_M_joint_40 : decode c_M_joint 40 = .ok (.iload_n 2, 1) := by decide +kernel
theorem d_M_joint_41 : decode c_M_joint 41 = .ok (.iload_n 3, 1) := by decide +kernel
theorem d_M_joint_42 : decode c_M_joint 42 = .ok (.if_icmp .eq 15, 3) := by decide +kernel
theorem d_M_joint_45 : decode c_M_joint 45 = .ok (.iload 5, 2) := by decide +kernel
theorem d_M_joint_47 : decode c_M_joint 47 = .ok (.iconst 1, 1) := by decide +kernel
theorem d_M_joint_48 : decode c_M_joint 48 = .ok (.sipush 1000, 3) := by decide +kernel
theorem d_M_joint_51 : decode c_M_joint 51 = .ok (.invokestatic 63, 3) := by decide +kernel
theorem d_M_joint_54 : decode c_M_joint 54 = .ok (.ifCond .ne 7, 3) := by decide +kernel
theorem d_M_joint_57 : decode c_M_joint 57 = .ok (.iconst 2, 1) := by decide +kernel
theorem d_M_joint_58 : decode c_M_joint 58 = .ok (.goto 4, 3) := by decide +kernel
theorem d_M_joint_61 : decode c_M_joint 61 = .ok (.iconst 0, 1) := by decide +kernel
theorem d_M_joint_62 : decode c_M_joint 62 = .ok (.putfield 56, 3) := by decide +kernel
theorem d_M_joint_65 : decode c_M_joint 65 = .ok (.aload_n 0, 1) := by decide +kernel
theorem d_M_joint_66 : decode c_M_joint 66 = .ok (.getfield 56, 3) := by decide +kernel
theorem d_M_joint_69 : decode c_M_joint 69 = .ok (.ifCond .le 5, 3) := by decide +kernel
theorem d_M_joint_72 : decode c_M_joint 72 = .ok (.iconst 0, 1) := by decide +kernel
theorem d_M_joint_73 : decode c_M_joint 73 = .ok (.ireturn, 1) := by decide +kernel
theorem d_M_joint_74 : decode c_M_joint 74 = .ok (.aload_n 0, 1) := by decide +kernel
theorem d_M_joint_75 : decode c_M_joint 75 = .ok (.getfield 106, 3) := by decide +kernel
theorem d_M_joint_78 : decode c_M_joint 78 = .ok (.bipush 12, 2) := by decide +kernel
theorem d_M_joint_80 : decode c_M_joint 80 = .ok (.if_icmp .ge 16, 3) := by decide +kernel
theorem d_M_joint_83 : decode c_M_joint 83 = .ok (.aload_n 0, 1) := by decide +kernel
theorem d_M_joint_84 : decode c_M_joint 84 = .ok (.iload_n 2, 1) := by decide +kernel
theorem d_M_joint_85 : decode c_M_joint 85 = .ok (.iload_n 3, 1) := by decide +kernel
theorem d_M_joint_86 : decode c_M_joint 86 = .ok (.invokevirtual 109, 3) := by decide +kernel
theorem d_M_joint_89 : decode c_M_joint 89 = .ok (.ifCond .eq 7, 3) := by decide +kernel
theorem d_M_joint_92 : decode c_M_joint 92 = .ok (.iconst 1, 1) := by decide +kernel
theorem d_M_joint_93 : decode c_M_joint 93 = .ok (.goto 4, 3) := by decide +kernel
theorem d_M_joint_96 : decode c_M_joint 96 = .ok (.iconst 0, 1) := by decide +kernel
theorem d_M_joint_97 : decode c_M_joint 97 = .ok (.istore 6, 2) := by decide +kernel
theorem d_M_joint_99 : decode c_M_joint 99 = .ok (.iload 6, 2) := by decide +kernel
theorem d_M_joint_101 : decode c_M_joint 101 = .ok (.ifCond .eq 23, 3) := by decide +kernel
theorem d_M_joint_104 : decode c_M_joint 104 = .ok (.aload_n 0, 1) := by decide +kernel
theorem d_M_joint_105 : decode c_M_joint 105 = .ok (.getfield 31, 3) := by decide +kernel
theorem d_M_joint_108 : decode c_M_joint 108 = .ok (.iconst 3, 1) := by decide +kernel
theorem d_M_joint_109 : decode c_M_joint 109 = .ok (.iload 4, 2) := by decide +kernel
theorem d_M_joint_111 : decode c_M_joint 111 = .ok (.iadd, 1) := by decide +kernel
theorem d_M_joint_112 : decode c_M_joint 112 = .ok (.iaload, 1) := by decide +kernel
theorem d_M_joint_113 : decode c_M_joint 113 = .ok (.aload_n 0, 1) := by decide +kernel
theorem d_M_joint_114 : decode c_M_joint 114 = .ok (.getfield 31, 3) := by decide +kernel
theorem d_M_joint_117 : decode c_M_joint 117 = .ok (.iload 4, 2) := by decide +kernel
theorem d_M_joint_119 : decode c_M_joint 119 = .ok (.iaload, 1) := by decide +kernel
theorem d_M_joint_120 : decode c_M_joint 120 = .ok (.isub, 1) := by decide +kernel
theorem d_M_joint_121 : decode c_M_joint 121 = .ok (.goto 4, 3) := by decide +kernel
theorem d_M_joint_124 : decode c_M_joint 124 = .ok (.iconst 0, 1) := by decide +kernel
theorem d_M_joint_125 : decode c_M_joint 125 = .ok (.istore 7, 2) := by decide +kernel
theorem d_M_joint_127 : decode c_M_joint 127 = .ok (.iload 6, 2) := by decide +kernel
theorem d_M_joint_129 : decode c_M_joint 129 = .ok (.ifCond .eq 27, 3) := by decide +kernel
theorem d_M_joint_132 : decode c_M_joint 132 = .ok (.iload_n 1, 1) := by decide +kernel
theorem d_M_joint_133 : decode c_M_joint 133 = .ok (.iconst 2, 1) := by decide +kernel
theorem d_M_joint_134 : decode c_M_joint 134 = .ok (.if_icmp .ne 18, 3) := by decide +kernel
theorem d_M_joint_137 : decode c_M_joint 137 = .ok (.iload 7, 2) := by decide +kernel
theorem d_M_joint_139 : decode c_M_joint 139 = .ok (.iload 5, 2) := by decide +kernel
theorem d_M_joint_141 : decode c_M_joint 141 = .ok (.iadd, 1) := by decide +kernel
theorem d_M_joint_142 : decode c_M_joint 142 = .ok (.iconst 1, 1) := by decide +kernel
theorem d_M_joint_143 : decode c_M_joint 143 = .ok (.isub, 1) := by decide +kernel
theorem d_M_joint_144 : decode c_M_joint 144 = .ok (.iload 5, 2) := by decide +kernel
theorem d_M_joint_146 : decode c_M_joint 146 = .ok (.idiv, 1) := by decide +kernel
theorem d_M_joint_147 : decode c_M_joint 147 = .ok (.bipush 8, 2) := by decide +kernel
theorem d_M_joint_149 : decode c_M_joint 149 = .ok (.if_icmp .gt 7, 3) := by decide +kernel
theorem d_M_joint_152 : decode c_M_joint 152 = .ok (.iconst 1, 1) := by decide +kernel
theorem d_M_joint_153 : decode c_M_joint 153 = .ok (.goto 4, 3) := by decide +kernel
theorem d_M_joint_156 : decode c_M_joint 156 = .ok (.iconst 0, 1) := by decide +kernel
theorem d_M_joint_157 : decode c_M_joint 157 = .ok (.istore 6, 2) := by decide +kernel
theorem d_M_joint_159 : decode c_M_joint 159 = .ok (.aload_n 0, 1) := by decide +kernel
theorem d_M_joint_160 : decode c_M_joint 160 = .ok (.iload 6, 2) := by decide +kernel
theorem d_M_joint_162 : decode c_M_joint 162 = .ok (.ifCond .eq 7, 3) := by decide +kernel
theorem d_M_joint_165 : decode c_M_joint 165 = .ok (.iconst 0, 1) := by decide +kernel
theorem d_M_joint_166 : decode c_M_joint 166 = .ok (.goto 4, 3) := by decide +kernel
theorem d_M_joint_169 : decode c_M_joint 169 = .ok (.iconst 3, 1) := by decide +kernel
theorem d_M_joint_170 : decode c_M_joint 170 = .ok (.putfield 56, 3) := by decide +kernel
theorem d_M_joint_173 : decode c_M_joint 173 = .ok (.aload_n 0, 1) := by decide +kernel
theorem d_M_joint_174 : decode c_M_joint 174 = .ok (.getfield 56, 3) := by decide +kernel
theorem d_M_joint_177 : decode c_M_joint 177 = .ok (.ifCond .le 5, 3) := by decide +kernel
theorem d_M_joint_180 : decode c_M_joint 180 = .ok (.iconst 0, 1) := by decide +kernel
theorem d_M_joint_181 : decode c_M_joint 181 = .ok (.ireturn, 1) := by decide +kernel
theorem d_M_joint_182 : decode c_M_joint 182 = .ok (.iload_n 1, 1) := by decide +kernel
theorem d_M_joint_183 : decode c_M_joint 183 = .ok (.iload 5, 2) := by decide +kernel
theorem d_M_joint_185 : decode c_M_joint 185 = .ok (.invokestatic 113, 3) := by decide +kernel
theorem d_M_joint_188 : decode c_M_joint 188 = .ok (.iload 7, 2) := by decide +kernel
theorem d_M_joint_190 : decode c_M_joint 190 = .ok (.isub, 1) := by decide +kernel
theorem d_M_joint_191 : decode c_M_joint 191 = .ok (.istore 8, 2) := by decide +kernel
theorem d_M_joint_193 : decode c_M_joint 193 = .ok (.iload 8, 2) := by decide +kernel
theorem d_M_joint_195 : decode c_M_joint 195 = .ok (.ifCond .le 8, 3) := by decide +kernel
theorem d_M_joint_198 : decode c_M_joint 198 = .ok (.iconst (-1), 1) := by decide +kernel
theorem d_M_joint_199 : decode c_M_joint 199 = .ok (.iload 8, 2) := by decide +kernel
theorem d_M_joint_201 : decode c_M_joint 201 = .ok (.isub, 1) := by decide +kernel
theorem d_M_joint_202 : decode c_M_joint 202 = .ok (.ireturn, 1) := by decide +kernel
theorem d_M_joint_203 : decode c_M_joint 203 = .ok (.aload_n 0, 1) := by decide +kernel
theorem d_M_joint_204 : decode c_M_joint 204 = .ok (.iconst 0, 1) := by decide +kernel
theorem d_M_joint_205 : decode c_M_joint 205 = .ok (.iload_n 2, 1) := by decide +kernel
theorem d_M_joint_206 : decode c_M_joint 206 = .ok (.invokevirtual 88, 3) := by decide +kernel
theorem d_M_joint_209 : decode c_M_joint 209 = .ok (.aload_n 0, 1) := by decide +kernel
theorem d_M_joint_210 : decode c_M_joint 210 = .ok (.iconst 1, 1) := by decide +kernel
theorem d_M_joint_211 : decode c_M_joint 211 = .ok (.iload_n 3, 1) := by decide +kernel
theorem d_M_joint_212 : decode c_M_joint 212 = .ok (.invokevirtual 88, 3) := by decide +kernel
theorem d_M_joint_215 : decode c_M_joint 215 = .ok (.aload_n 0, 1) := by decide +kernel
theorem d_M_joint_216 : decode c_M_joint 216 = .ok (.iload_n 1, 1) := by decide +kernel
theorem d_M_joint_217 : decode c_M_joint 217 = .ok (.iload 4, 2) := by decide +kernel
theorem d_M_joint_219 : decode c_M_joint 219 = .ok (.iload 5, 2) := by decide +kernel
theorem d_M_joint_221 : decode c_M_joint 221 = .ok (.invokevirtual 116, 3) := by decide +kernel
theorem d_M_joint_224 : decode c_M_joint 224 = .ok (.ifCond .ne 10, 3) := by decide +kernel
theorem d_M_joint_227 : decode c_M_joint 227 = .ok (.aload_n 0, 1) := by decide +kernel
theorem d_M_joint_228 : decode c_M_joint 228 = .ok (.iconst 3, 1) := by decide +kernel
theorem d_M_joint_229 : decode c_M_joint 229 = .ok (.putfield 56, 3) := by decide +kernel
theorem d_M_joint_232 : decode c_M_joint 232 = .ok (.iconst 0, 1) := by decide +kernel
theorem d_M_joint_233 : decode c_M_joint 233 = .ok (.ireturn, 1) := by decide +kernel
theorem d_M_joint_234 : decode c_M_joint 234 = .ok (.aload_n 0, 1) := by decide +kernel
theorem d_M_joint_235 : decode c_M_joint 235 = .ok (.iload_n 2, 1) := by decide +kernel
theorem d_M_joint_236 : decode c_M_joint 236 = .ok (.invokevirtual 119, 3) := by decide +kernel
theorem d_M_joint_239 : decode c_M_joint 239 = .ok (.lstore 9, 2) := by decide +kernel
theorem d_M_joint_241 : decode c_M_joint 241 = .ok (.aload_n 0, 1) := by decide +kernel
theorem d_M_joint_242 : decode c_M_joint 242 = .ok (.iload_n 3, 1) := by decide +kernel
theorem d_M_joint_243 : decode c_M_joint 243 = .ok (.invokevirtual 119, 3) := by decide +kernel
theorem d_M_joint_246 : decode c_M_joint 246 = .ok (.lstore 11, 2) := by decide +kernel
theorem d_M_joint_248 : decode c_M_joint 248 = .ok (.aload_n 0, 1) := by decide +kernel
theorem d_M_joint_249 : decode c_M_joint 249 = .ok (.iconst 0, 1) := by decide +kernel
theorem d_M_joint_250 : decode c_M_joint 250 = .ok (.iload_n 2, 1) := by decide +kernel
theorem d_M_joint_251 : decode c_M_joint 251 = .ok (.invokevirtual 96, 3) := by decide +kernel
theorem d_M_joint_254 : decode c_M_joint 254 = .ok (.aload_n 0, 1) := by decide +kernel
theorem d_M_joint_255 : decode c_M_joint 255 = .ok (.iconst 1, 1) := by decide +kernel
theorem d_M_joint_256 : decode c_M_joint 256 = .ok (.iload_n 3, 1) := by decide +kernel
theorem d_M_joint_257 : decode c_M_joint 257 = .ok (.invokevirtual 96, 3) := by decide +kernel
theorem d_M_joint_260 : decode c_M_joint 260 = .ok (.aload_n 0, 1) := by decide +kernel
theorem d_M_joint_261 : decode c_M_joint 261 = .ok (.getfield 34, 3) := by decide +kernel
theorem d_M_joint_264 : decode c_M_joint 264 = .ok (.aload_n 0, 1) := by decide +kernel
theorem d_M_joint_265 : decode c_M_joint 265 = .ok (.getfield 106, 3) := by decide +kernel
theorem d_M_joint_268 : decode c_M_joint 268 = .ok (.iload_n 1, 1) := by decide +kernel
theorem d_M_joint_269 : decode c_M_joint 269 = .ok (.iastore, 1) := by decide +kernel
theorem d_M_joint_270 : decode c_M_joint 270 = .ok (.aload_n 0, 1) := by decide +kernel
theorem d_M_joint_271 : decode c_M_joint 271 = .ok (.getfield 37, 3) := by decide +kernel
theorem d_M_joint_274 : decode c_M_joint 274 = .ok (.aload_n 0, 1) := by decide +kernel
theorem d_M_joint_275 : decode c_M_joint 275 = .ok (.getfield 106, 3) := by decide +kernel
theorem d_M_joint_278 : decode c_M_joint 278 = .ok (.iload_n 2, 1) := by decide +kernel
theorem d_M_joint_279 : decode c_M_joint 279 = .ok (.iastore, 1) := by decide +kernel
theorem d_M_joint_280 : decode c_M_joint 280 = .ok (.aload_n 0, 1) := by decide +kernel
theorem d_M_joint_281 : decode c_M_joint 281 = .ok (.getfield 40, 3) := by decide +kernel
theorem d_M_joint_284 : decode c_M_joint 284 = .ok (.aload_n 0, 1) := by decide +kernel
theorem d_M_joint_285 : decode c_M_joint 285 = .ok (.getfield 106, 3) := by decide +kernel
theorem d_M_joint_288 : decode c_M_joint 288 = .ok (.iload_n 3, 1) := by decide +kernel
theorem d_M_joint_289 : decode c_M_joint 289 = .ok (.iastore, 1) := by decide +kernel
theorem d_M_joint_290 : decode c_M_joint 290 = .ok (.aload_n 0, 1) := by decide +kernel
theorem d_M_joint_291 : decode c_M_joint 291 = .ok (.getfield 43, 3) := by decide +kernel
theorem d_M_joint_294 : decode c_M_joint 294 = .ok (.aload_n 0, 1) := by decide +kernel
theorem d_M_joint_295 : decode c_M_joint 295 = .ok (.getfield 106, 3) := by decide +kernel
theorem d_M_joint_298 : decode c_M_joint 298 = .ok (.iload 4, 2) := by decide +kernel
theorem d_M_joint_300 : decode c_M_joint 300 = .ok (.iastore, 1) := by decide +kernel
theorem d_M_joint_301 : decode c_M_joint 301 = .ok (.aload_n 0, 1) := by decide +kernel
theorem d_M_joint_302 : decode c_M_joint 302 = .ok (.getfield 46, 3) := by decide +kernel
theorem d_M_joint_305 : decode c_M_joint 305 = .ok (.aload_n 0, 1) := by decide +kernel
theorem d_M_joint_306 : decode c_M_joint 306 = .ok (.getfield 106, 3) := by decide +kernel
theorem d_M_joint_309 : decode c_M_joint 309 = .ok (.lload 9, 2) := by decide +kernel
theorem d_M_joint_311 : decode c_M_joint 311 = .ok (.aload_n 0, 1) := by decide +kernel
theorem d_M_joint_312 : decode c_M_joint 312 = .ok (.iload_n 2, 1) := by decide +kernel
theorem d_M_joint_313 : decode c_M_joint 313 = .ok (.invokevirtual 119, 3) := by decide +kernel
theorem d_M_joint_316 : decode c_M_joint 316 = .ok (.lsub, 1) := by decide +kernel
theorem d_M_joint_317 : decode c_M_joint 317 = .ok (.lastore, 1) := by decide +kernel
theorem d_M_joint_318 : decode c_M_joint 318 = .ok (.aload_n 0, 1) := by decide +kernel
theorem d_M_joint_319 : decode c_M_joint 319 = .ok (.getfield 50, 3) := by decide +kernel
theorem d_M_joint_322 : decode c_M_joint 322 = .ok (.aload_n 0, 1) := by decide +kernel
theorem d_M_joint_323 : decode c_M_joint 323 = .ok (.getfield 106, 3) := by decide +kernel
theorem d_M_joint_326 : decode c_M_joint 326 = .ok (.lload 11, 2) := by decide +kernel
theorem d_M_joint_328 : decode c_M_joint 328 = .ok (.aload_n 0, 1) := by decide +kernel
theorem d_M_joint_329 : decode c_M_joint 329 = .ok (.iload_n 3, 1) := by decide +kernel
theorem d_M_joint_330 : decode c_M_joint 330 = .ok (.invokevirtual 119, 3) := by decide +kernel
theorem d_M_joint_333 : decode c_M_joint 333 = .ok (.lsub, 1) := by decide +kernel
theorem d_M_joint_334 : decode c_M_joint 334 = .ok (.lastore, 1) := by decide +kernel
theorem d_M_joint_335 : decode c_M_joint 335 = .ok (.aload_n 0, 1) := by decide +kernel
theorem d_M_joint_336 : decode c_M_joint 336 = .ok (.dup, 1) := by decide +kernel
theorem d_M_joint_337 : decode c_M_joint 337 = .ok (.getfield 106, 3) := by decide +kernel
theorem d_M_joint_340 : decode c_M_joint 340 = .ok (.iconst 1, 1) := by decide +kernel
theorem d_M_joint_341 : decode c_M_joint 341 = .ok (.iadd, 1) := by decide +kernel
theorem d_M_joint_342 : decode c_M_joint 342 = .ok (.putfield 106, 3) := by decide +kernel
theorem d_M_joint_345 : decode c_M_joint 345 = .ok (.aload_n 0, 1) := by decide +kernel
theorem d_M_joint_346 : decode c_M_joint 346 = .ok (.getfield 106, 3) := by decide +kernel
theorem d_M_joint_349 : decode c_M_joint 349 = .ok (.iconst 1, 1) := by decide +kernel
theorem d_M_joint_350 : decode c_M_joint 350 = .ok (.isub, 1) := by decide +kernel
theorem d_M_joint_351 : decode c_M_joint 351 = .ok (.ireturn, 1) := by decide +kernel
theorem d_M_pieces_0 : decode c_M_pieces 0 = .ok (.aload_n 0, 1) := by decide +kernel
theorem d_M_pieces_1 : decode c_M_pieces 1 = .ok (.aload_n 0, 1) := by decide +kernel
theorem d_M_pieces_2 : decode c_M_pieces 2 = .ok (.iload_n 1, 1) := by decide +kernel
theorem d_M_pieces_3 : decode c_M_pieces 3 = .ok (.invokevirtual 85, 3) := by decide +kernel
theorem d_M_pieces_6 : decode c_M_pieces 6 = .ok (.ifCond .eq 7, 3) := by decide +kernel
theorem d_M_pieces_9 : decode c_M_pieces 9 = .ok (.iconst 1, 1) := by decide +kernel
theorem d_M_pieces_10 : decode c_M_pieces 10 = .ok (.goto 4, 3) := by decide +kernel
theorem d_M_pieces_13 : decode c_M_pieces 13 = .ok (.iconst 0, 1) := by decide +kernel
theorem d_M_pieces_14 : decode c_M_pieces 14 = .ok (.putfield 56, 3) := by decide +kernel
theorem d_M_pieces_17 : decode c_M_pieces 17 = .ok (.aload_n 0, 1) := by decide +kernel
theorem d_M_pieces_18 : decode c_M_pieces 18 = .ok (.getfield 56, 3) := by decide +kernel
theorem d_M_pieces_21 : decode c_M_pieces 21 = .ok (.ifCond .le 7, 3) := by decide +kernel
theorem d_M_pieces_24 : decode c_M_pieces 24 = .ok (.iconst 0, 1) := by decide +kernel
theorem d_M_pieces_25 : decode c_M_pieces 25 = .ok (.goto 9, 3) := by decide +kernel
theorem d_M_pieces_28 : decode c_M_pieces 28 = .ok (.aload_n 0, 1) := by decide +kernel
theorem d_M_pieces_29 : decode c_M_pieces 29 = .ok (.getfield 16, 3) := by decide +kernel
theorem d_M_pieces_32 : decode c_M_pieces 32 = .ok (.iload_n 1, 1) := by decide +kernel
theorem d_M_pieces_33 : decode c_M_pieces 33 = .ok (.iaload, 1) := by decide +kernel
theorem d_M_pieces_34 : decode c_M_pieces 34 = .ok (.ireturn, 1) := by decide +kernel
theorem d_M_corner_0 : decode c_M_corner 0 = .ok (.aload_n 0, 1) := by decide +kernel
theorem d_M_corner_1 : decode c_M_corner 1 = .ok (.aload_n 0, 1) := by decide +kernel
theorem d_M_corner_2 : decode c_M_corner 2 = .ok (.iload_n 1, 1) := by decide +kernel
theorem d_M_corner_3 : decode c_M_corner 3 = .ok (.invokevirtual 85, 3) := by decide +kernel
theorem d_M_corner_6 : decode c_M_corner 6 = .ok (.ifCond .ne 26, 3) := by decide +kernel
theorem d_M_corner_9 : decode c_M_corner 9 = .ok (.iload_n 2, 1) := by decide +kernel
theorem d_M_corner_10 : decode c_M_corner 10 = .ok (.ifCond .lt 22, 3) := by decide +kernel
theorem d_M_corner_13 : decode c_M_corner 13 = .ok (.iload_n 2, 1) := by decide +kernel
theorem d_M_corner_14 : decode c_M_corner 14 = .ok (.aload_n 0, 1) := by decide +kernel
theorem d_M_corner_15 : decode c_M_corner 15 = .ok (.getfield 16, 3) := by decide +kernel
theorem d_M_corner_18 : decode c_M_corner 18 = .ok (.iload_n 1, 1) := by decide +kernel
theorem d_M_corner_19 : decode c_M_corner 19 = .ok (.iaload, 1) := by decide +kernel
theorem d_M_corner_20 : decode c_M_corner 20 = .ok (.if_icmp .ge 12, 3) := by decide +kernel
theorem d_M_corner_23 : decode c_M_corner 23 = .ok (.iload_n 3, 1) := by decide +kernel
theorem d_M_corner_24 : decode c_M_corner 24 = .ok (.iconst 0, 1) := by decide +kernel
theorem d_M_corner_25 : decode c_M_corner 25 = .ok (.iconst 5, 1) := by decide +kernel
theorem d_M_corner_26 : decode c_M_corner 26 = .ok (.invokestatic 63, 3) := by decide +kernel
theorem d_M_corner_29 : decode c_M_corner 29 = .ok (.ifCond .ne 7, 3) := by decide +kernel
theorem d_M_corner_32 : decode c_M_corner 32 = .ok (.iconst 1, 1) := by decide +kernel
theorem d_M_corner_33 : decode c_M_corner 33 = .ok (.goto 4, 3) := by decide +kernel
theorem d_M_corner_36 : decode c_M_corner 36 = .ok (.iconst 0, 1) := by decide +kernel
theorem d_M_corner_37 : decode c_M_corner 37 = .ok (.putfield 56, 3) := by decide +kernel
theorem d_M_corner_40 : decode c_M_corner 40 = .ok (.aload_n 0, 1) := by decide +kernel
theorem d_M_corner_41 : decode c_M_corner 41 = .ok (.getfield 56, 3) := by decide +kernel
theorem d_M_corner_44 : decode c_M_corner 44 = .ok (.ifCond .le 7, 3) := by decide +kernel
theorem d_M_corner_47 : decode c_M_corner 47 = .ok (.iconst 0, 1) := by decide +kernel
theorem d_M_corner_48 : decode c_M_corner 48 = .ok (.goto 20, 3) := by decide +kernel
theorem d_M_corner_51 : decode c_M_corner 51 = .ok (.aload_n 0, 1) := by decide +kernel
theorem d_M_corner_52 : decode c_M_corner 52 = .ok (.getfield 13, 3) := by decide +kernel
theorem d_M_corner_55 : decode c_M_corner 55 = .ok (.sipush 144, 3) := by decide +kernel
theorem d_M_corner_58 : decode c_M_corner 58 = .ok (.iload_n 1, 1) := by decide +kernel
theorem d_M_corner_59 : decode c_M_corner 59 = .ok (.imul, 1) := by decide +kernel
theorem d_M_corner_60 : decode c_M_corner 60 = .ok (.bipush 6, 2) := by decide +kernel
theorem d_M_corner_62 : decode c_M_corner 62 = .ok (.iload_n 2, 1) := by decide +kernel
theorem d_M_corner_63 : decode c_M_corner 63 = .ok (.imul, 1) := by decide +kernel
theorem d_M_corner_64 : decode c_M_corner 64 = .ok (.iadd, 1) := by decide +kernel
theorem d_M_corner_65 : decode c_M_corner 65 = .ok (.iload_n 3, 1) := by decide +kernel
theorem d_M_corner_66 : decode c_M_corner 66 = .ok (.iadd, 1) := by decide +kernel
theorem d_M_corner_67 : decode c_M_corner 67 = .ok (.iaload, 1) := by decide +kernel
theorem d_M_corner_68 : decode c_M_corner 68 = .ok (.ireturn, 1) := by decide +kernel
theorem d_M_volumeOf_0 : decode c_M_volumeOf 0 = .ok (.lconst 0, 1) := by decide +kernel
theorem d_M_volumeOf_1 : decode c_M_volumeOf 1 = .ok (.lstore_n 2, 1) := by decide +kernel
theorem d_M_volumeOf_2 : decode c_M_volumeOf 2 = .ok (.iconst 0, 1) := by decide +kernel
theorem d_M_volumeOf_3 : decode c_M_volumeOf 3 = .ok (.istore 4, 2) := by decide +kernel
theorem d_M_volumeOf_5 : decode c_M_volumeOf 5 = .ok (.iload 4, 2) := by decide +kernel
theorem d_M_volumeOf_7 : decode c_M_volumeOf 7 = .ok (.aload_n 0, 1) := by decide +kernel
theorem d_M_volumeOf_8 : decode c_M_volumeOf 8 = .ok (.getfield 16, 3) := by decide +kernel
theorem d_M_volumeOf_11 : decode c_M_volumeOf 11 = .ok (.iload_n 1, 1) := by decide +kernel
theorem d_M_volumeOf_12 : decode c_M_volumeOf 12 = .ok (.iaload, 1) := by decide +kernel
theorem d_M_volumeOf_13 : decode c_M_volumeOf 13 = .ok (.if_icmp .ge 85, 3) := by decide +kernel
theorem d_M_volumeOf_16 : decode c_M_volumeOf 16 = .ok (.sipush 144, 3) := by decide +kernel
theorem d_M_volumeOf_19 : decode c_M_volumeOf 19 = .ok (.iload_n 1, 1) := by decide +kernel
theorem d_M_volumeOf_20 : decode c_M_volumeOf 20 = .ok (.imul, 1) := by decide +kernel
theorem d_M_volumeOf_21 : decode c_M_volumeOf 21 = .ok (.bipush 6, 2) := by decide +kernel
theorem d_M_volumeOf_23 : decode c_M_volumeOf 23 = .ok (.iload 4, 2) := by decide +kernel
theorem d_M_volumeOf_25 : decode c_M_volumeOf 25 = .ok (.imul, 1) := by decide +kernel
theorem d_M_volumeOf_26 : decode c_M_volumeOf 26 = .ok (.iadd, 1) := by decide +kernel
theorem d_M_volumeOf_27 : decode c_M_volumeOf 27 = .ok (.istore 5, 2) := by decide +kernel
theorem d_M_volumeOf_29 : decode c_M_volumeOf 29 = .ok (.lload_n 2, 1) := by decide +kernel
theorem d_M_volumeOf_30 : decode c_M_volumeOf 30 = .ok (.aload_n 0, 1) := by decide +kernel
theorem d_M_volumeOf_31 : decode c_M_volumeOf 31 = .ok (.getfield 13, 3) := by decide +kernel
theorem d_M_volumeOf_34 : decode c_M_volumeOf 34 = .ok (.iload 5, 2) := by decide +kernel
theorem d_M_volumeOf_36 : decode c_M_volumeOf 36 = .ok (.iconst 3, 1) := by decide +kernel
theorem d_M_volumeOf_37 : decode c_M_volumeOf 37 = .ok (.iadd, 1) := by decide +kernel
theorem d_M_volumeOf_38 : decode c_M_volumeOf 38 = .ok (.iaload, 1) := by decide +kernel
theorem d_M_volumeOf_39 : decode c_M_volumeOf 39 = .ok (.aload_n 0, 1) := by decide +kernel
theorem d_M_volumeOf_40 : decode c_M_volumeOf 40 = .ok (.getfield 13, 3) := by decide +kernel
theorem d_M_volumeOf_43 : decode c_M_volumeOf 43 = .ok (.iload 5, 2) := by decide +kernel
theorem d_M_volumeOf_45 : decode c_M_volumeOf 45 = .ok (.iaload, 1) := by decide +kernel
theorem d_M_volumeOf_46 : decode c_M_volumeOf 46 = .ok (.isub, 1) := by decide +kernel
theorem d_M_volumeOf_47 : decode c_M_volumeOf 47 = .ok (.i2l, 1) := by decide +kernel
theorem d_M_volumeOf_48 : decode c_M_volumeOf 48 = .ok (.aload_n 0, 1) := by decide +kernel
theorem d_M_volumeOf_49 : decode c_M_volumeOf 49 = .ok (.getfield 13, 3) := by decide +kernel
theorem d_M_volumeOf_52 : decode c_M_volumeOf 52 = .ok (.iload 5, 2) := by decide +kernel
theorem d_M_volumeOf_54 : decode c_M_volumeOf 54 = .ok (.iconst 4, 1) := by decide +kernel
theorem d_M_volumeOf_55 : decode c_M_volumeOf 55 = .ok (.iadd, 1) := by decide +kernel
theorem d_M_volumeOf_56 : decode c_M_volumeOf 56 = .ok (.iaload, 1) := by decide +kernel
theorem d_M_volumeOf_57 : decode c_M_volumeOf 57 = .ok (.aload_n 0, 1) := by decide +kernel
theorem d_M_volumeOf_58 : decode c_M_volumeOf 58 = .ok (.getfield 13, 3) := by decide +kernel
theorem d_M_volumeOf_61 : decode c_M_volumeOf 61 = .ok (.iload 5, 2) := by decide +kernel
theorem d_M_volumeOf_63 : decode c_M_volumeOf 63 = .ok (.iconst 1, 1) := by decide +kernel
theorem d_M_volumeOf_64 : decode c_M_volumeOf 64 = .ok (.iadd, 1) := by decide +kernel
theorem d_M_volumeOf_65 : decode c_M_volumeOf 65 = .ok (.iaload, 1) := by decide +kernel
theorem d_M_volumeOf_66 : decode c_M_volumeOf 66 = .ok (.isub, 1) := by decide +kernel
theorem d_M_volumeOf_67 : decode c_M_volumeOf 67 = .ok (.i2l, 1) := by decide +kernel
theorem d_M_volumeOf_68 : decode c_M_volumeOf 68 = .ok (.lmul, 1) := by decide +kernel
theorem d_M_volumeOf_69 : decode c_M_volumeOf 69 = .ok (.aload_n 0, 1) := by decide +kernel
theorem d_M_volumeOf_70 : decode c_M_volumeOf 70 = .ok (.getfield 13, 3) := by decide +kernel
theorem d_M_volumeOf_73 : decode c_M_volumeOf 73 = .ok (.iload 5, 2) := by decide +kernel
theorem d_M_volumeOf_75 : decode c_M_volumeOf 75 = .ok (.iconst 5, 1) := by decide +kernel
theorem d_M_volumeOf_76 : decode c_M_volumeOf 76 = .ok (.iadd, 1) := by decide +kernel
theorem d_M_volumeOf_77 : decode c_M_volumeOf 77 = .ok (.iaload, 1) := by decide +kernel
theorem d_M_volumeOf_78 : decode c_M_volumeOf 78 = .ok (.aload_n 0, 1) := by decide +kernel
theorem d_M_volumeOf_79 : decode c_M_volumeOf 79 = .ok (.getfield 13, 3) := by decide +kernel
theorem d_M_volumeOf_82 : decode c_M_volumeOf 82 = .ok (.iload 5, 2) := by decide +kernel
theorem d_M_volumeOf_84 : decode c_M_volumeOf 84 = .ok (.iconst 2, 1) := by decide +kernel
theorem d_M_volumeOf_85 : decode c_M_volumeOf 85 = .ok (.iadd, 1) := by decide +kernel
theorem d_M_volumeOf_86 : decode c_M_volumeOf 86 = .ok (.iaload, 1) := by decide +kernel
theorem d_M_volumeOf_87 : decode c_M_volumeOf 87 = .ok (.isub, 1) := by decide +kernel
theorem d_M_volumeOf_88 : decode c_M_volumeOf 88 = .ok (.i2l, 1) := by decide +kernel
theorem d_M_volumeOf_89 : decode c_M_volumeOf 89 = .ok (.lmul, 1) := by decide +kernel
theorem d_M_volumeOf_90 : decode c_M_volumeOf 90 = .ok (.ladd, 1) := by decide +kernel
theorem d_M_volumeOf_91 : decode c_M_volumeOf 91 = .ok (.lstore_n 2, 1) := by decide +kernel
theorem d_M_volumeOf_92 : decode c_M_volumeOf 92 = .ok (.iinc 4 1, 3) := by decide +kernel
theorem d_M_volumeOf_95 : decode c_M_volumeOf 95 = .ok (.goto (-90), 3) := by decide +kernel
theorem d_M_volumeOf_98 : decode c_M_volumeOf 98 = .ok (.lload_n 2, 1) := by decide +kernel
theorem d_M_volumeOf_99 : decode c_M_volumeOf 99 = .ok (.lreturn, 1) := by decide +kernel
theorem d_M_volume_0 : decode c_M_volume 0 = .ok (.aload_n 0, 1) := by decide +kernel
theorem d_M_volume_1 : decode c_M_volume 1 = .ok (.aload_n 0, 1) := by decide +kernel
theorem d_M_volume_2 : decode c_M_volume 2 = .ok (.iload_n 1, 1) := by decide +kernel
theorem d_M_volume_3 : decode c_M_volume 3 = .ok (.invokevirtual 85, 3) := by decide +kernel
theorem d_M_volume_6 : decode c_M_volume 6 = .ok (.ifCond .eq 7, 3) := by decide +kernel
theorem d_M_volume_9 : decode c_M_volume 9 = .ok (.iconst 1, 1) := by decide +kernel
theorem d_M_volume_10 : decode c_M_volume 10 = .ok (.goto 4, 3) := by decide +kernel
theorem d_M_volume_13 : decode c_M_volume 13 = .ok (.iconst 0, 1) := by decide +kernel
theorem d_M_volume_14 : decode c_M_volume 14 = .ok (.putfield 56, 3) := by decide +kernel
theorem d_M_volume_17 : decode c_M_volume 17 = .ok (.aload_n 0, 1) := by decide +kernel
theorem d_M_volume_18 : decode c_M_volume 18 = .ok (.getfield 56, 3) := by decide +kernel
theorem d_M_volume_21 : decode c_M_volume 21 = .ok (.ifCond .le 7, 3) := by decide +kernel
theorem d_M_volume_24 : decode c_M_volume 24 = .ok (.lconst 0, 1) := by decide +kernel
theorem d_M_volume_25 : decode c_M_volume 25 = .ok (.goto 8, 3) := by decide +kernel
theorem d_M_volume_28 : decode c_M_volume 28 = .ok (.aload_n 0, 1) := by decide +kernel
theorem d_M_volume_29 : decode c_M_volume 29 = .ok (.iload_n 1, 1) := by decide +kernel
theorem d_M_volume_30 : decode c_M_volume 30 = .ok (.invokevirtual 119, 3) := by decide +kernel
theorem d_M_volume_33 : decode c_M_volume 33 = .ok (.lreturn, 1) := by decide +kernel
theorem d_M_span_0 : decode c_M_span 0 = .ok (.aload_n 0, 1) := by decide +kernel
theorem d_M_span_1 : decode c_M_span 1 = .ok (.getfield 13, 3) := by decide +kernel
theorem d_M_span_4 : decode c_M_span 4 = .ok (.iload_n 1, 1) := by decide +kernel
theorem d_M_span_5 : decode c_M_span 5 = .ok (.iconst 3, 1) := by decide +kernel
theorem d_M_span_6 : decode c_M_span 6 = .ok (.iadd, 1) := by decide +kernel
theorem d_M_span_7 : decode c_M_span 7 = .ok (.iload_n 3, 1) := by decide +kernel
theorem d_M_span_8 : decode c_M_span 8 = .ok (.iadd, 1) := by decide +kernel
theorem d_M_span_9 : decode c_M_span 9 = .ok (.iaload, 1) := by decide +kernel
theorem d_M_span_10 : decode c_M_span 10 = .ok (.aload_n 0, 1) := by decide +kernel
theorem d_M_span_11 : decode c_M_span 11 = .ok (.getfield 13, 3) := by decide +kernel
theorem d_M_span_14 : decode c_M_span 14 = .ok (.iload_n 2, 1) := by decide +kernel
theorem d_M_span_15 : decode c_M_span 15 = .ok (.iconst 3, 1) := by decide +kernel
theorem d_M_span_16 : decode c_M_span 16 = .ok (.iadd, 1) := by decide +kernel
theorem d_M_span_17 : decode c_M_span 17 = .ok (.iload_n 3, 1) := by decide +kernel
theorem d_M_span_18 : decode c_M_span 18 = .ok (.iadd, 1) := by decide +kernel
theorem d_M_span_19 : decode c_M_span 19 = .ok (.iaload, 1) := by decide +kernel
theorem d_M_span_20 : decode c_M_span 20 = .ok (.invokestatic 82, 3) := by decide +kernel
theorem d_M_span_23 : decode c_M_span 23 = .ok (.aload_n 0, 1) := by decide +kernel
theorem d_M_span_24 : decode c_M_span 24 = .ok (.getfield 13, 3) := by decide +kernel
theorem d_M_span_27 : decode c_M_span 27 = .ok (.iload_n 1, 1) := by decide +kernel
theorem d_M_span_28 : decode c_M_span 28 = .ok (.iload_n 3, 1) := by decide +kernel
theorem d_M_span_29 : decode c_M_span 29 = .ok (.iadd, 1) := by decide +kernel
theorem d_M_span_30 : decode c_M_span 30 = .ok (.iaload, 1) := by decide +kernel
theorem d_M_span_31 : decode c_M_span 31 = .ok (.aload_n 0, 1) := by decide +kernel
theorem d_M_span_32 : decode c_M_span 32 = .ok (.getfield 13, 3) := by decide +kernel
theorem d_M_span_35 : decode c_M_span 35 = .ok (.iload_n 2, 1) := by decide +kernel
theorem d_M_span_36 : decode c_M_span 36 = .ok (.iload_n 3, 1) := by decide +kernel
theorem d_M_span_37 : decode c_M_span 37 = .ok (.iadd, 1) := by decide +kernel
theorem d_M_span_38 : decode c_M_span 38 = .ok (.iaload, 1) := by decide +kernel
theorem d_M_span_39 : decode c_M_span 39 = .ok (.invokestatic 79, 3) := by decide +kernel
theorem d_M_span_42 : decode c_M_span 42 = .ok (.isub, 1) := by decide +kernel
theorem d_M_span_43 : decode c_M_span 43 = .ok (.istore 4, 2) := by decide +kernel
theorem d_M_span_45 : decode c_M_span 45 = .ok (.iload 4, 2) := by decide +kernel
theorem d_M_span_47 : decode c_M_span 47 = .ok (.ifCond .ge 7, 3) := by decide +kernel
theorem d_M_span_50 : decode c_M_span 50 = .ok (.lconst 0, 1) := by decide +kernel
theorem d_M_span_51 : decode c_M_span 51 = .ok (.goto 6, 3) := by decide +kernel
theorem d_M_span_54 : decode c_M_span 54 = .ok (.iload 4, 2) := by decide +kernel
theorem d_M_span_56 : decode c_M_span 56 = .ok (.i2l, 1) := by decide +kernel
theorem d_M_span_57 : decode c_M_span 57 = .ok (.lreturn, 1) := by decide +kernel
theorem d_M_overlapOf_0 : decode c_M_overlapOf 0 = .ok (.lconst 0, 1) := by decide +kernel
theorem d_M_overlapOf_1 : decode c_M_overlapOf 1 = .ok (.lstore_n 3, 1) := by decide +kernel
theorem d_M_overlapOf_2 : decode c_M_overlapOf 2 = .ok (.iconst 0, 1) := by decide +kernel
theorem d_M_overlapOf_3 : decode c_M_overlapOf 3 = .ok (.istore 5, 2) := by decide +kernel
theorem d_M_overlapOf_5 : decode c_M_overlapOf 5 = .ok (.iload 5, 2) := by decide +kernel
theorem d_M_overlapOf_7 : decode c_M_overlapOf 7 = .ok (.aload_n 0, 1) := by decide +kernel
theorem d_M_overlapOf_8 : decode c_M_overlapOf 8 = .ok (.getfield 16, 3) := by decide +kernel
theorem d_M_overlapOf_11 : decode c_M_overlapOf 11 = .ok (.iload_n 1, 1) := by decide +kernel
theorem d_M_overlapOf_12 : decode c_M_overlapOf 12 = .ok (.iaload, 1) := by decide +kernel
theorem d_M_overlapOf_13 : decode c_M_overlapOf 13 = .ok (.if_icmp .ge 87, 3) := by decide +kernel
theorem d_M_overlapOf_16 : decode c_M_overlapOf 16 = .ok (.iconst 0, 1) := by decide +kernel
theorem d_M_overlapOf_17 : decode c_M_overlapOf 17 = .ok (.istore 6, 2) := by decide +kernel
theorem d_M_overlapOf_19 : decode c_M_overlapOf 19 = .ok (.iload 6, 2) := by decide +kernel
theorem d_M_overlapOf_21 : decode c_M_overlapOf 21 = .ok (.aload_n 0, 1) := by decide +kernel
theorem d_M_overlapOf_22 : decode c_M_overlapOf 22 = .ok (.getfield 16, 3) := by decide +kernel
theorem d_M_overlapOf_25 : decode c_M_overlapOf 25 = .ok (.iload_n 2, 1) := by decide +kernel
theorem d_M_overlapOf_26 : decode c_M_overlapOf 26 = .ok (.iaload, 1) := by decide +kernel
theorem d_M_overlapOf_27 : decode c_M_overlapOf 27 = .ok (.if_icmp .ge 67, 3) := by decide +kernel
theorem d_M_overlapOf_30 : decode c_M_overlapOf 30 = .ok (.sipush 144, 3) := by decide +kernel
theorem d_M_overlapOf_33 : decode c_M_overlapOf 33 = .ok (.iload_n 1, 1) := by decide +kernel
theorem d_M_overlapOf_34 : decode c_M_overlapOf 34 = .ok (.imul, 1) := by decide +kernel
theorem d_M_overlapOf_35 : decode c_M_overlapOf 35 = .ok (.bipush 6, 2) := by decide +kernel
theorem d_M_overlapOf_37 : decode c_M_overlapOf 37 = .ok (.iload 5, 2) := by decide +kernel
theorem d_M_overlapOf_39 : decode c_M_overlapOf 39 = .ok (.imul, 1) := by decide +kernel
theorem d_M_overlapOf_40 : decode c_M_overlapOf 40 = .ok (.iadd, 1) := by decide +kernel
theorem d_M_overlapOf_41 : decode c_M_overlapOf 41 = .ok (.istore 7, 2) := by decide +kernel
theorem d_M_overlapOf_43 : decode c_M_overlapOf 43 = .ok (.sipush 144, 3) := by decide +kernel
theorem d_M_overlapOf_46 : decode c_M_overlapOf 46 = .ok (.iload_n 2, 1) := by decide +kernel
theorem d_M_overlapOf_47 : decode c_M_overlapOf 47 = .ok (.imul, 1) := by decide +kernel
theorem d_M_overlapOf_48 : decode c_M_overlapOf 48 = .ok (.bipush 6, 2) := by decide +kernel
theorem d_M_overlapOf_50 : decode c_M_overlapOf 50 = .ok (.iload 6, 2) := by decide +kernel
theorem d_M_overlapOf_52 : decode c_M_overlapOf 52 = .ok (.imul, 1) := by decide +kernel
theorem d_M_overlapOf_53 : decode c_M_overlapOf 53 = .ok (.iadd, 1) := by decide +kernel
theorem d_M_overlapOf_54 : decode c_M_overlapOf 54 = .ok (.istore 8, 2) := by decide +kernel
theorem d_M_overlapOf_56 : decode c_M_overlapOf 56 = .ok (.lload_n 3, 1) := by decide +kernel
theorem d_M_overlapOf_57 : decode c_M_overlapOf 57 = .ok (.aload_n 0, 1) := by decide +kernel
theorem d_M_overlapOf_58 : decode c_M_overlapOf 58 = .ok (.iload 7, 2) := by decide +kernel
theorem d_M_overlapOf_60 : decode c_M_overlapOf 60 = .ok (.iload 8, 2) := by decide +kernel
theorem d_M_overlapOf_62 : decode c_M_overlapOf 62 = .ok (.iconst 0, 1) := by decide +kernel
theorem d_M_overlapOf_63 : decode c_M_overlapOf 63 = .ok (.invokevirtual 123, 3) := by decide +kernel
theorem d_M_overlapOf_66 : decode c_M_overlapOf 66 = .ok (.aload_n 0, 1) := by decide +kernel
theorem d_M_overlapOf_67 : decode c_M_overlapOf 67 = .ok (.iload 7, 2) := by decide +kernel
theorem d_M_overlapOf_69 : decode c_M_overlapOf 69 = .ok (.iload 8, 2) := by decide +kernel
theorem d_M_overlapOf_71 : decode c_M_overlapOf 71 = .ok (.iconst 1, 1) := by decide +kernel
theorem d_M_overlapOf_72 : decode c_M_overlapOf 72 = .ok (.invokevirtual 123, 3) := by decide +kernel
theorem d_M_overlapOf_75 : decode c_M_overlapOf 75 = .ok (.lmul, 1) := by decide +kernel
theorem d_M_overlapOf_76 : decode c_M_overlapOf 76 = .ok (.aload_n 0, 1) := by decide +kernel
theorem d_M_overlapOf_77 : decode c_M_overlapOf 77 = .ok (.iload 7, 2) := by decide +kernel
theorem d_M_overlapOf_79 : decode c_M_overlapOf 79 = .ok (.iload 8, 2) := by decide +kernel
theorem d_M_overlapOf_81 : decode c_M_overlapOf 81 = .ok (.iconst 2, 1) := by decide +kernel
theorem d_M_overlapOf_82 : decode c_M_overlapOf 82 = .ok (.invokevirtual 123, 3) := by decide +kernel
theorem d_M_overlapOf_85 : decode c_M_overlapOf 85 = .ok (.lmul, 1) := by decide +kernel
theorem d_M_overlapOf_86 : decode c_M_overlapOf 86 = .ok (.ladd, 1) := by decide +kernel
theorem d_M_overlapOf_87 : decode c_M_overlapOf 87 = .ok (.lstore_n 3, 1) := by decide +kernel
theorem d_M_overlapOf_88 : decode c_M_overlapOf 88 = .ok (.iinc 6 1, 3) := by decide +kernel
theorem d_M_overlapOf_91 : decode c_M_overlapOf 91 = .ok (.goto (-72), 3) := by decide +kernel
theorem d_M_overlapOf_94 : decode c_M_overlapOf 94 = .ok (.iinc 5 1, 3) := by decide +kernel
theorem d_M_overlapOf_97 : decode c_M_overlapOf 97 = .ok (.goto (-92), 3) := by decide +kernel
theorem d_M_overlapOf_100 : decode c_M_overlapOf 100 = .ok (.lload_n 3, 1) := by decide +kernel
theorem d_M_overlapOf_101 : decode c_M_overlapOf 101 = .ok (.lreturn, 1) := by decide +kernel
theorem d_M_touchOf_0 : decode c_M_touchOf 0 = .ok (.lconst 0, 1) := by decide +kernel
theorem d_M_touchOf_1 : decode c_M_touchOf 1 = .ok (.lstore_n 3, 1) := by decide +kernel
theorem d_M_touchOf_2 : decode c_M_touchOf 2 = .ok (.iconst 0, 1) := by decide +kernel
theorem d_M_touchOf_3 : decode c_M_touchOf 3 = .ok (.istore 5, 2) := by decide +kernel
theorem d_M_touchOf_5 : decode c_M_touchOf 5 = .ok (.iload 5, 2) := by decide +kernel
theorem d_M_touchOf_7 : decode c_M_touchOf 7 = .ok (.aload_n 0, 1) := by decide +kernel
theorem d_M_touchOf_8 : decode c_M_touchOf 8 = .ok (.getfield 16, 3) := by decide +kernel
theorem d_M_touchOf_11 : decode c_M_touchOf 11 = .ok (.iload_n 1, 1) := by decide +kernel
theorem d_M_touchOf_12 : decode c_M_touchOf 12 = .ok (.iaload, 1) := by decide +kernel
theorem d_M_touchOf_13 : decode c_M_touchOf 13 = .ok (.if_icmp .ge 160, 3) := by decide +kernel
theorem d_M_touchOf_16 : decode c_M_touchOf 16 = .ok (.iconst 0, 1) := by decide +kernel
theorem d_M_touchOf_17 : decode c_M_touchOf 17 = .ok (.istore 6, 2) := by decide +kernel
theorem d_M_touchOf_19 : decode c_M_touchOf 19 = .ok (.iload 6, 2) := by decide +kernel
theorem d_M_touchOf_21 : decode c_M_touchOf 21 = .ok (.aload_n 0, 1) := by decide +kernel
theorem d_M_touchOf_22 : decode c_M_touchOf 22 = .ok (.getfield 16, 3) := by decide +kernel
theorem d_M_touchOf_25 : decode c_M_touchOf 25 = .ok (.iload_n 2, 1) := by decide +kernel
theorem d_M_touchOf_26 : decode c_M_touchOf 26 = .ok (.iaload, 1) := by decide +kernel
theorem d_M_touchOf_27 : decode c_M_touchOf 27 = .ok (.if_icmp .ge 140, 3) := by decide +kernel
theorem d_M_touchOf_30 : decode c_M_touchOf 30 = .ok (.iconst 0, 1) := by decide +kernel
theorem d_M_touchOf_31 : decode c_M_touchOf 31 = .ok (.istore 7, 2) := by decide +kernel
theorem d_M_touchOf_33 : decode c_M_touchOf 33 = .ok (.iload 7, 2) := by decide +kernel
theorem d_M_touchOf_35 : decode c_M_touchOf 35 = .ok (.iconst 3, 1) := by decide +kernel
theorem d_M_touchOf_36 : decode c_M_touchOf 36 = .ok (.if_icmp .ge 125, 3) := by decide +kernel
theorem d_M_touchOf_39 : decode c_M_touchOf 39 = .ok (.sipush 144, 3) := by decide +kernel
theorem d_M_touchOf_42 : decode c_M_touchOf 42 = .ok (.iload_n 1, 1) := by decide +kernel
theorem d_M_touchOf_43 : decode c_M_touchOf 43 = .ok (.imul, 1) := by decide +kernel
theorem d_M_touchOf_44 : decode c_M_touchOf 44 = .ok (.bipush 6, 2) := by decide +kernel
theorem d_M_touchOf_46 : decode c_M_touchOf 46 = .ok (.iload 5, 2) := by decide +kernel
theorem d_M_touchOf_48 : decode c_M_touchOf 48 = .ok (.imul, 1) := by decide +kernel
theorem d_M_touchOf_49 : decode c_M_touchOf 49 = .ok (.iadd, 1) := by decide +kernel
theorem d_M_touchOf_50 : decode c_M_touchOf 50 = .ok (.istore 8, 2) := by decide +kernel
theorem d_M_touchOf_52 : decode c_M_touchOf 52 = .ok (.sipush 144, 3) := by decide +kernel
theorem d_M_touchOf_55 : decode c_M_touchOf 55 = .ok (.iload_n 2, 1) := by decide +kernel
theorem d_M_touchOf_56 : decode c_M_touchOf 56 = .ok (.imul, 1) := by decide +kernel
theorem d_M_touchOf_57 : decode c_M_touchOf 57 = .ok (.bipush 6, 2) := by decide +kernel
theorem d_M_touchOf_59 : decode c_M_touchOf 59 = .ok (.iload 6, 2) := by decide +kernel
theorem d_M_touchOf_61 : decode c_M_touchOf 61 = .ok (.imul, 1) := by decide +kernel
theorem d_M_touchOf_62 : decode c_M_touchOf 62 = .ok (.iadd, 1) := by decide +kernel
theorem d_M_touchOf_63 : decode c_M_touchOf 63 = .ok (.istore 9, 2) := by decide +kernel
theorem d_M_touchOf_65 : decode c_M_touchOf 65 = .ok (.aload_n 0, 1) := by decide +kernel
theorem d_M_touchOf_66 : decode c_M_touchOf 66 = .ok (.iload 8, 2) := by decide +kernel
theorem d_M_touchOf_68 : decode c_M_touchOf 68 = .ok (.iload 9, 2) := by decide +kernel
theorem d_M_touchOf_70 : decode c_M_touchOf 70 = .ok (.iload 7, 2) := by decide +kernel
theorem d_M_touchOf_72 : decode c_M_touchOf 72 = .ok (.iconst 1, 1) := by decide +kernel
theorem d_M_touchOf_73 : decode c_M_touchOf 73 = .ok (.iadd, 1) := by decide +kernel
theorem d_M_touchOf_74 : decode c_M_touchOf 74 = .ok (.iconst 3, 1) := by decide +kernel
theorem d_M_touchOf_75 : decode c_M_touchOf 75 = .ok (.irem, 1) := by decide +kernel
theorem d_M_touchOf_76 : decode c_M_touchOf 76 = .ok (.invokevirtual 123, 3) := by decide +kernel
theorem d_M_touchOf_79 : decode c_M_touchOf 79 = .ok (.aload_n 0, 1) := by decide +kernel
theorem d_M_touchOf_80 : decode c_M_touchOf 80 = .ok (.iload 8, 2) := by decide +kernel
theorem d_M_touchOf_82 : decode c_M_touchOf 82 = .ok (.iload 9, 2) := by decide +kernel
theorem d_M_touchOf_84 : decode c_M_touchOf 84 = .ok (.iload 7, 2) := by decide +kernel
theorem d_M_touchOf_86 : decode c_M_touchOf 86 = .ok (.iconst 2, 1) := by decide +kernel
theorem d_M_touchOf_87 : decode c_M_touchOf 87 = .ok (.iadd, 1) := by decide +kernel
theorem d_M_touchOf_88 : decode c_M_touchOf 88 = .ok (.iconst 3, 1) := by decide +kernel
theorem d_M_touchOf_89 : decode c_M_touchOf 89 = .ok (.irem, 1) := by decide +kernel
theorem d_M_touchOf_90 : decode c_M_touchOf 90 = .ok (.invokevirtual 123, 3) := by decide +kernel
theorem d_M_touchOf_93 : decode c_M_touchOf 93 = .ok (.lmul, 1) := by decide +kernel
theorem d_M_touchOf_94 : decode c_M_touchOf 94 = .ok (.lstore 10, 2) := by decide +kernel
theorem d_M_touchOf_96 : decode c_M_touchOf 96 = .ok (.aload_n 0, 1) := by decide +kernel
theorem d_M_touchOf_97 : decode c_M_touchOf 97 = .ok (.getfield 13, 3) := by decide +kernel
theorem d_M_touchOf_100 : decode c_M_touchOf 100 = .ok (.iload 8, 2) := by decide +kernel
theorem d_M_touchOf_102 : decode c_M_touchOf 102 = .ok (.iconst 3, 1) := by decide +kernel
theorem d_M_touchOf_103 : decode c_M_touchOf 103 = .ok (.iadd, 1) := by decide +kernel
theorem d_M_touchOf_104 : decode c_M_touchOf 104 = .ok (.iload 7, 2) := by decide +kernel
theorem d_M_touchOf_106 : decode c_M_touchOf 106 = .ok (.iadd, 1) := by decide +kernel
theorem d_M_touchOf_107 : decode c_M_touchOf 107 = .ok (.iaload, 1) := by decide +kernel
theorem d_M_touchOf_108 : decode c_M_touchOf 108 = .ok (.aload_n 0, 1) := by decide +kernel
theorem d_M_touchOf_109 : decode c_M_touchOf 109 = .ok (.getfield 13, 3) := by decide +kernel
theorem d_M_touchOf_112 : decode c_M_touchOf 112 = .ok (.iload 9, 2) := by decide +kernel
theorem d_M_touchOf_114 : decode c_M_touchOf 114 = .ok (.iload 7, 2) := by decide +kernel
theorem d_M_touchOf_116 : decode c_M_touchOf 116 = .ok (.iadd, 1) := by decide +kernel
theorem d_M_touchOf_117 : decode c_M_touchOf 117 = .ok (.iaload, 1) := by decide +kernel
theorem d_M_touchOf_118 : decode c_M_touchOf 118 = .ok (.if_icmp .eq 28, 3) := by decide +kernel
theorem d_M_touchOf_121 : decode c_M_touchOf 121 = .ok (.aload_n 0, 1) := by decide +kernel
theorem d_M_touchOf_122 : decode c_M_touchOf 122 = .ok (.getfield 13, 3) := by decide +kernel
theorem d_M_touchOf_125 : decode c_M_touchOf 125 = .ok (.iload 9, 2) := by decide +kernel
theorem d_M_touchOf_127 : decode c_M_touchOf 127 = .ok (.iconst 3, 1) := by decide +kernel
theorem d_M_touchOf_128 : decode c_M_touchOf 128 = .ok (.iadd, 1) := by decide +kernel
theorem d_M_touchOf_129 : decode c_M_touchOf 129 = .ok (.iload 7, 2) := by decide +kernel
theorem d_M_touchOf_131 : decode c_M_touchOf 131 = .ok (.iadd, 1) := by decide +kernel
theorem d_M_touchOf_132 : decode c_M_touchOf 132 = .ok (.iaload, 1) := by decide +kernel
theorem d_M_touchOf_133 : decode c_M_touchOf 133 = .ok (.aload_n 0, 1) := by decide +kernel
theorem d_M_touchOf_134 : decode c_M_touchOf 134 = .ok (.getfield 13, 3) := by decide +kernel
theorem d_M_touchOf_137 : decode c_M_touchOf 137 = .ok (.iload 8, 2) := by decide +kernel
theorem d_M_touchOf_139 : decode c_M_touchOf 139 = .ok (.iload 7, 2) := by decide +kernel
theorem d_M_touchOf_141 : decode c_M_touchOf 141 = .ok (.iadd, 1) := by decide +kernel
theorem d_M_touchOf_142 : decode c_M_touchOf 142 = .ok (.iaload, 1) := by decide +kernel
theorem d_M_touchOf_143 : decode c_M_touchOf 143 = .ok (.if_icmp .ne 10, 3) := by decide +kernel
theorem d_M_touchOf_146 : decode c_M_touchOf 146 = .ok (.lload_n 3, 1) := by decide +kernel
theorem d_M_touchOf_147 : decode c_M_touchOf 147 = .ok (.lload 10, 2) := by decide +kernel
theorem d_M_touchOf_149 : decode c_M_touchOf 149 = .ok (.ladd, 1) := by decide +kernel
theorem d_M_touchOf_150 : decode c_M_touchOf 150 = .ok (.goto 4, 3) := by decide +kernel
theorem d_M_touchOf_153 : decode c_M_touchOf 153 = .ok (.lload_n 3, 1) := by decide +kernel
theorem d_M_touchOf_154 : decode c_M_touchOf 154 = .ok (.lstore_n 3, 1) := by decide +kernel
theorem d_M_touchOf_155 : decode c_M_touchOf 155 = .ok (.iinc 7 1, 3) := by decide +kernel
theorem d_M_touchOf_158 : decode c_M_touchOf 158 = .ok (.goto (-125), 3) := by decide +kernel
theorem d_M_touchOf_161 : decode c_M_touchOf 161 = .ok (.iinc 6 1, 3) := by decide +kernel
theorem d_M_touchOf_164 : decode c_M_touchOf 164 = .ok (.goto (-145), 3) := by decide +kernel
theorem d_M_touchOf_167 : decode c_M_touchOf 167 = .ok (.iinc 5 1, 3) := by decide +kernel
theorem d_M_touchOf_170 : decode c_M_touchOf 170 = .ok (.goto (-165), 3) := by decide +kernel
theorem d_M_touchOf_173 : decode c_M_touchOf 173 = .ok (.lload_n 3, 1) := by decide +kernel
theorem d_M_touchOf_174 : decode c_M_touchOf 174 = .ok (.lreturn, 1) := by decide +kernel
theorem d_M_pair_0 : decode c_M_pair 0 = .ok (.aload_n 0, 1) := by decide +kernel
theorem d_M_pair_1 : decode c_M_pair 1 = .ok (.iload_n 1, 1) := by decide +kernel
theorem d_M_pair_2 : decode c_M_pair 2 = .ok (.invokevirtual 85, 3) := by decide +kernel
theorem d_M_pair_5 : decode c_M_pair 5 = .ok (.ifCond .ne 11, 3) := by decide +kernel
theorem d_M_pair_8 : decode c_M_pair 8 = .ok (.aload_n 0, 1) := by decide +kernel
theorem d_M_pair_9 : decode c_M_pair 9 = .ok (.iload_n 2, 1) := by decide +kernel
theorem d_M_pair_10 : decode c_M_pair 10 = .ok (.invokevirtual 85, 3) := by decide +kernel
theorem d_M_pair_13 : decode c_M_pair 13 = .ok (.ifCond .eq 7, 3) := by decide +kernel
theorem d_M_pair_16 : decode c_M_pair 16 = .ok (.iconst 1, 1) := by decide +kernel
theorem d_M_pair_17 : decode c_M_pair 17 = .ok (.goto 13, 3) := by decide +kernel
theorem d_M_pair_20 : decode c_M_pair 20 = .ok (.iload_n 1, 1) := by decide +kernel
theorem d_M_pair_21 : decode c_M_pair 21 = .ok (.iload_n 2, 1) := by decide +kernel
theorem d_M_pair_22 : decode c_M_pair 22 = .ok (.if_icmp .ne 7, 3) := by decide +kernel
theorem d_M_pair_25 : decode c_M_pair 25 = .ok (.iconst 2, 1) := by decide +kernel
theorem d_M_pair_26 : decode c_M_pair 26 = .ok (.goto 4, 3) := by decide +kernel
theorem d_M_pair_29 : decode c_M_pair 29 = .ok (.iconst 0, 1) := by decide +kernel
theorem d_M_pair_30 : decode c_M_pair 30 = .ok (.ireturn, 1) := by decide +kernel
theorem d_M_overlap_0 : decode c_M_overlap 0 = .ok (.aload_n 0, 1) := by decide +kernel
theorem d_M_overlap_1 : decode c_M_overlap 1 = .ok (.aload_n 0, 1) := by decide +kernel
theorem d_M_overlap_2 : decode c_M_overlap 2 = .ok (.iload_n 1, 1) := by decide +kernel
theorem d_M_overlap_3 : decode c_M_overlap 3 = .ok (.iload_n 2, 1) := by decide +kernel
theorem d_M_overlap_4 : decode c_M_overlap 4 = .ok (.invokevirtual 127, 3) := by decide +kernel
theorem d_M_overlap_7 : decode c_M_overlap 7 = .ok (.putfield 56, 3) := by decide +kernel
theorem d_M_overlap_10 : decode c_M_overlap 10 = .ok (.aload_n 0, 1) := by decide +kernel
theorem d_M_overlap_11 : decode c_M_overlap 11 = .ok (.getfield 56, 3) := by decide +kernel
theorem d_M_overlap_14 : decode c_M_overlap 14 = .ok (.ifCond .le 7, 3) := by decide +kernel
theorem d_M_overlap_17 : decode c_M_overlap 17 = .ok (.lconst 0, 1) := by decide +kernel
theorem d_M_overlap_18 : decode c_M_overlap 18 = .ok (.goto 9, 3) := by decide +kernel
theorem d_M_overlap_21 : decode c_M_overlap 21 = .ok (.aload_n 0, 1) := by decide +kernel
theorem d_M_overlap_22 : decode c_M_overlap 22 = .ok (.iload_n 1, 1) := by decide +kernel
theorem d_M_overlap_23 : decode c_M_overlap 23 = .ok (.iload_n 2, 1) := by decide +kernel
theorem d_M_overlap_24 : decode c_M_overlap 24 = .ok (.invokevirtual 130, 3) := by decide +kernel
theorem d_M_overlap_27 : decode c_M_overlap 27 = .ok (.lreturn, 1) := by decide +kernel
theorem d_M_touch_0 : decode c_M_touch 0 = .ok (.aload_n 0, 1) := by decide +kernel
theorem d_M_touch_1 : decode c_M_touch 1 = .ok (.aload_n 0, 1) := by decide +kernel
theorem d_M_touch_2 : decode c_M_touch 2 = .ok (.iload_n 1, 1) := by decide +kernel
theorem d_M_touch_3 : decode c_M_touch 3 = .ok (.iload_n 2, 1) := by decide +kernel
theorem d_M_touch_4 : decode c_M_touch 4 = .ok (.invokevirtual 127, 3) := by decide +kernel
theorem d_M_touch_7 : decode c_M_touch 7 = .ok (.putfield 56, 3) := by decide +kernel
theorem d_M_touch_10 : decode c_M_touch 10 = .ok (.aload_n 0, 1) := by decide +kernel
theorem d_M_touch_11 : decode c_M_touch 11 = .ok (.getfield 56, 3) := by decide +kernel
theorem d_M_touch_14 : decode c_M_touch 14 = .ok (.ifCond .le 7, 3) := by decide +kernel
theorem d_M_touch_17 : decode c_M_touch 17 = .ok (.lconst 0, 1) := by decide +kernel
theorem d_M_touch_18 : decode c_M_touch 18 = .ok (.goto 9, 3) := by decide +kernel
theorem d_M_touch_21 : decode c_M_touch 21 = .ok (.aload_n 0, 1) := by decide +kernel
theorem d_M_touch_22 : decode c_M_touch 22 = .ok (.iload_n 1, 1) := by decide +kernel
theorem d_M_touch_23 : decode c_M_touch 23 = .ok (.iload_n 2, 1) := by decide +kernel
theorem d_M_touch_24 : decode c_M_touch 24 = .ok (.invokevirtual 134, 3) := by decide +kernel
theorem d_M_touch_27 : decode c_M_touch 27 = .ok (.lreturn, 1) := by decide +kernel
theorem d_M_has_0 : decode c_M_has 0 = .ok (.aload_n 0, 1) := by decide +kernel
theorem d_M_has_1 : decode c_M_has 1 = .ok (.aload_n 0, 1) := by decide +kernel
theorem d_M_has_2 : decode c_M_has 2 = .ok (.iload_n 1, 1) := by decide +kernel
theorem d_M_has_3 : decode c_M_has 3 = .ok (.invokevirtual 85, 3) := by decide +kernel
theorem d_M_has_6 : decode c_M_has 6 = .ok (.ifCond .eq 7, 3) := by decide +kernel
theorem d_M_has_9 : decode c_M_has 9 = .ok (.iconst 1, 1) := by decide +kernel
theorem d_M_has_10 : decode c_M_has 10 = .ok (.goto 4, 3) := by decide +kernel
theorem d_M_has_13 : decode c_M_has 13 = .ok (.iconst 0, 1) := by decide +kernel
theorem d_M_has_14 : decode c_M_has 14 = .ok (.putfield 56, 3) := by decide +kernel
theorem d_M_has_17 : decode c_M_has 17 = .ok (.iconst 0, 1) := by decide +kernel
theorem d_M_has_18 : decode c_M_has 18 = .ok (.istore 5, 2) := by decide +kernel
theorem d_M_has_20 : decode c_M_has 20 = .ok (.iconst 0, 1) := by decide +kernel
theorem d_M_has_21 : decode c_M_has 21 = .ok (.istore 6, 2) := by decide +kernel
theorem d_M_has_23 : decode c_M_has 23 = .ok (.aload_n 0, 1) := by decide +kernel
theorem d_M_has_24 : decode c_M_has 24 = .ok (.getfield 56, 3) := by decide +kernel
theorem d_M_has_27 : decode c_M_has 27 = .ok (.ifCond .ne 119, 3) := by decide +kernel
theorem d_M_has_30 : decode c_M_has 30 = .ok (.iload 6, 2) := by decide +kernel
theorem d_M_has_32 : decode c_M_has 32 = .ok (.aload_n 0, 1) := by decide +kernel
theorem d_M_has_33 : decode c_M_has 33 = .ok (.getfield 16, 3) := by decide +kernel
theorem d_M_has_36 : decode c_M_has 36 = .ok (.iload_n 1, 1) := by decide +kernel
theorem d_M_has_37 : decode c_M_has 37 = .ok (.iaload, 1) := by decide +kernel
theorem d_M_has_38 : decode c_M_has 38 = .ok (.if_icmp .ge 108, 3) := by decide +kernel
theorem d_M_has_41 : decode c_M_has 41 = .ok (.sipush 144, 3) := by decide +kernel
theorem d_M_has_44 : decode c_M_has 44 = .ok (.iload_n 1, 1) := by decide +kernel
theorem d_M_has_45 : decode c_M_has 45 = .ok (.imul, 1) := by decide +kernel
theorem d_M_has_46 : decode c_M_has 46 = .ok (.bipush 6, 2) := by decide +kernel
theorem d_M_has_48 : decode c_M_has 48 = .ok (.iload 6, 2) := by decide +kernel
theorem d_M_has_50 : decode c_M_has 50 = .ok (.imul, 1) := by decide +kernel
theorem d_M_has_51 : decode c_M_has 51 = .ok (.iadd, 1) := by decide +kernel
theorem d_M_has_52 : decode c_M_has 52 = .ok (.istore 7, 2) := by decide +kernel
theorem d_M_has_54 : decode c_M_has 54 = .ok (.iload 5, 2) := by decide +kernel
theorem d_M_has_56 : decode c_M_has 56 = .ok (.ifCond .ne 77, 3) := by decide +kernel
theorem d_M_has_59 : decode c_M_has 59 = .ok (.iload_n 2, 1) := by decide +kernel
theorem d_M_has_60 : decode c_M_has 60 = .ok (.aload_n 0, 1) := by decide +kernel
theorem d_M_has_61 : decode c_M_has 61 = .ok (.getfield 13, 3) := by decide +kernel
theorem d_M_has_64 : decode c_M_has 64 = .ok (.iload 7, 2) := by decide +kernel
theorem d_M_has_66 : decode c_M_has 66 = .ok (.iaload, 1) := by decide +kernel
theorem d_M_has_67 : decode c_M_has 67 = .ok (.aload_n 0, 1) := by decide +kernel
theorem d_M_has_68 : decode c_M_has 68 = .ok (.getfield 13, 3) := by decide +kernel
theorem d_M_has_71 : decode c_M_has 71 = .ok (.iload 7, 2) := by decide +kernel
theorem d_M_has_73 : decode c_M_has 73 = .ok (.iconst 3, 1) := by decide +kernel
theorem d_M_has_74 : decode c_M_has 74 = .ok (.iadd, 1) := by decide +kernel
theorem d_M_has_75 : decode c_M_has 75 = .ok (.iaload, 1) := by decide +kernel
theorem d_M_has_76 : decode c_M_has 76 = .ok (.invokestatic 63, 3) := by decide +kernel
theorem d_M_has_79 : decode c_M_has 79 = .ok (.ifCond .eq 58, 3) := by decide +kernel
theorem d_M_has_82 : decode c_M_has 82 = .ok (.iload_n 3, 1) := by decide +kernel
theorem d_M_has_83 : decode c_M_has 83 = .ok (.aload_n 0, 1) := by decide +kernel
theorem d_M_has_84 : decode c_M_has 84 = .ok (.getfield 13, 3) := by decide +kernel
theorem d_M_has_87 : decode c_M_has 87 = .ok (.iload 7, 2) := by decide +kernel
theorem d_M_has_89 : decode c_M_has 89 = .ok (.iconst 1, 1) := by decide +kernel
theorem d_M_has_90 : decode c_M_has 90 = .ok (.iadd, 1) := by decide +kernel
theorem d_M_has_91 : decode c_M_has 91 = .ok (.iaload, 1) := by decide +kernel
theorem d_M_has_92 : decode c_M_has 92 = .ok (.aload_n 0, 1) := by decide +kernel
theorem d_M_has_93 : decode c_M_has 93 = .ok (.getfield 13, 3) := by decide +kernel
theorem d_M_has_96 : decode c_M_has 96 = .ok (.iload 7, 2) := by decide +kernel
theorem d_M_has_98 : decode c_M_has 98 = .ok (.iconst 4, 1) := by decide +kernel
theorem d_M_has_99 : decode c_M_has 99 = .ok (.iadd, 1) := by decide +kernel
theorem d_M_has_100 : decode c_M_has 100 = .ok (.iaload, 1) := by decide +kernel
theorem d_M_has_101 : decode c_M_has 101 = .ok (.invokestatic 63, 3) := by decide +kernel
theorem d_M_has_104 : decode c_M_has 104 = .ok (.ifCond .eq 33, 3) := by decide +kernel
theorem d_M_has_107 : decode c_M_has 107 = .ok (.iload 4, 2) := by decide +kernel
theorem d_M_has_109 : decode c_M_has 109 = .ok (.aload_n 0, 1) := by decide +kernel
theorem d_M_has_110 : decode c_M_has 110 = .ok (.getfield 13, 3) := by decide +kernel
theorem d_M_has_113 : decode c_M_has 113 = .ok (.iload 7, 2) := by decide +kernel
theorem d_M_has_115 : decode c_M_has 115 = .ok (.iconst 2, 1) := by decide +kernel
theorem d_M_has_116 : decode c_M_has 116 = .ok (.iadd, 1) := by decide +kernel
theorem d_M_has_117 : decode c_M_has 117 = .ok (.iaload, 1) := by decide +kernel
theorem d_M_has_118 : decode c_M_has 118 = .ok (.aload_n 0, 1) := by decide +kernel
theorem d_M_has_119 : decode c_M_has 119 = .ok (.getfield 13, 3) := by decide +kernel
theorem d_M_has_122 : decode c_M_has 122 = .ok (.iload 7, 2) := by decide +kernel
theorem d_M_has_124 : decode c_M_has 124 = .ok (.iconst 5, 1) := by decide +kernel
theorem d_M_has_125 : decode c_M_has 125 = .ok (.iadd, 1) := by decide +kernel
theorem d_M_has_126 : decode c_M_has 126 = .ok (.iaload, 1) := by decide +kernel
theorem d_M_has_127 : decode c_M_has 127 = .ok (.invokestatic 63, 3) := by decide +kernel
theorem d_M_has_130 : decode c_M_has 130 = .ok (.ifCond .eq 7, 3) := by decide +kernel
theorem d_M_has_133 : decode c_M_has 133 = .ok (.iconst 1, 1) := by decide +kernel
theorem d_M_has_134 : decode c_M_has 134 = .ok (.goto 4, 3) := by decide +kernel
theorem d_M_has_137 : decode c_M_has 137 = .ok (.iconst 0, 1) := by decide +kernel
theorem d_M_has_138 : decode c_M_has 138 = .ok (.istore 5, 2) := by decide +kernel
theorem d_M_has_140 : decode c_M_has 140 = .ok (.iinc 6 1, 3) := by decide +kernel
theorem d_M_has_143 : decode c_M_has 143 = .ok (.goto (-120), 3) := by decide +kernel
theorem d_M_has_146 : decode c_M_has 146 = .ok (.iload 5, 2) := by decide +kernel
theorem d_M_has_148 : decode c_M_has 148 = .ok (.ireturn, 1) := by decide +kernel
theorem d_M_row_0 : decode c_M_row 0 = .ok (.aload_n 0, 1) := by decide +kernel
theorem d_M_row_1 : decode c_M_row 1 = .ok (.iload_n 1, 1) := by decide +kernel
theorem d_M_row_2 : decode c_M_row 2 = .ok (.iconst 0, 1) := by decide +kernel
theorem d_M_row_3 : decode c_M_row 3 = .ok (.iconst 4, 1) := by decide +kernel
theorem d_M_row_4 : decode c_M_row 4 = .ok (.invokestatic 63, 3) := by decide +kernel
theorem d_M_row_7 : decode c_M_row 7 = .ok (.ifCond .ne 7, 3) := by decide +kernel
theorem d_M_row_10 : decode c_M_row 10 = .ok (.iconst 1, 1) := by decide +kernel
theorem d_M_row_11 : decode c_M_row 11 = .ok (.goto 19, 3) := by decide +kernel
theorem d_M_row_14 : decode c_M_row 14 = .ok (.iload_n 2, 1) := by decide +kernel
theorem d_M_row_15 : decode c_M_row 15 = .ok (.iconst 0, 1) := by decide +kernel
theorem d_M_row_16 : decode c_M_row 16 = .ok (.sipush 10000, 3) := by decide +kernel
theorem d_M_row_19 : decode c_M_row 19 = .ok (.invokestatic 63, 3) := by decide +kernel
theorem d_M_row_22 : decode c_M_row 22 = .ok (.ifCond .eq 7, 3) := by decide +kernel
theorem d_M_row_25 : decode c_M_row 25 = .ok (.iconst 0, 1) := by decide +kernel
theorem d_M_row_26 : decode c_M_row 26 = .ok (.goto 4, 3) := by decide +kernel
theorem d_M_row_29 : decode c_M_row 29 = .ok (.iconst 2, 1) := by decide +kernel
theorem d_M_row_30 : decode c_M_row 30 = .ok (.putfield 56, 3) := by decide +kernel
theorem d_M_row_33 : decode c_M_row 33 = .ok (.aload_n 0, 1) := by decide +kernel
theorem d_M_row_34 : decode c_M_row 34 = .ok (.getfield 56, 3) := by decide +kernel
theorem d_M_row_37 : decode c_M_row 37 = .ok (.ifCond .ne 10, 3) := by decide +kernel
theorem d_M_row_40 : decode c_M_row 40 = .ok (.aload_n 0, 1) := by decide +kernel
theorem d_M_row_41 : decode c_M_row 41 = .ok (.getfield 53, 3) := by decide +kernel
theorem d_M_row_44 : decode c_M_row 44 = .ok (.iload_n 1, 1) := by decide +kernel
theorem d_M_row_45 : decode c_M_row 45 = .ok (.iload_n 2, 1) := by decide +kernel
theorem d_M_row_46 : decode c_M_row 46 = .ok (.iastore, 1) := by decide +kernel
theorem d_M_row_47 : decode c_M_row 47 = .ok (.return_, 1) := by decide +kernel
theorem d_M_noJoint_0 : decode c_M_noJoint 0 = .ok (.iload_n 1, 1) := by decide +kernel
theorem d_M_noJoint_1 : decode c_M_noJoint 1 = .ok (.ifCond .lt 11, 3) := by decide +kernel
theorem d_M_noJoint_4 : decode c_M_noJoint 4 = .ok (.iload_n 1, 1) := by decide +kernel
theorem d_M_noJoint_5 : decode c_M_noJoint 5 = .ok (.aload_n 0, 1) := by decide +kernel
theorem d_M_noJoint_6 : decode c_M_noJoint 6 = .ok (.getfield 106, 3) := by decide +kernel
theorem d_M_noJoint_9 : decode c_M_noJoint 9 = .ok (.if_icmp .lt 7, 3) := by decide +kernel
theorem d_M_noJoint_12 : decode c_M_noJoint 12 = .ok (.iconst 1, 1) := by decide +kernel
theorem d_M_noJoint_13 : decode c_M_noJoint 13 = .ok (.goto 4, 3) := by decide +kernel
theorem d_M_noJoint_16 : decode c_M_noJoint 16 = .ok (.iconst 0, 1) := by decide +kernel
theorem d_M_noJoint_17 : decode c_M_noJoint 17 = .ok (.ireturn, 1) := by decide +kernel
theorem d_M_strength_0 : decode c_M_strength 0 = .ok (.aload_n 0, 1) := by decide +kernel
theorem d_M_strength_1 : decode c_M_strength 1 = .ok (.aload_n 0, 1) := by decide +kernel
theorem d_M_strength_2 : decode c_M_strength 2 = .ok (.iload_n 1, 1) := by decide +kernel
theorem d_M_strength_3 : decode c_M_strength 3 = .ok (.invokevirtual 137, 3) := by decide +kernel
theorem d_M_strength_6 : decode c_M_strength 6 = .ok (.ifCond .eq 7, 3) := by decide +kernel
theorem d_M_strength_9 : decode c_M_strength 9 = .ok (.iconst 1, 1) := by decide +kernel
theorem d_M_strength_10 : decode c_M_strength 10 = .ok (.goto 4, 3) := by decide +kernel
theorem d_M_strength_13 : decode c_M_strength 13 = .ok (.iconst 0, 1) := by decide +kernel
theorem d_M_strength_14 : decode c_M_strength 14 = .ok (.putfield 56, 3) := by decide +kernel
theorem d_M_strength_17 : decode c_M_strength 17 = .ok (.aload_n 0, 1) := by decide +kernel
theorem d_M_strength_18 : decode c_M_strength 18 = .ok (.getfield 56, 3) := by decide +kernel
theorem d_M_strength_21 : decode c_M_strength 21 = .ok (.ifCond .le 7, 3) := by decide +kernel
theorem d_M_strength_24 : decode c_M_strength 24 = .ok (.lconst 0, 1) := by decide +kernel
theorem d_M_strength_25 : decode c_M_strength 25 = .ok (.goto 36, 3) := by decide +kernel
theorem d_M_strength_28 : decode c_M_strength 28 = .ok (.aload_n 0, 1) := by decide +kernel
theorem d_M_strength_29 : decode c_M_strength 29 = .ok (.aload_n 0, 1) := by decide +kernel
theorem d_M_strength_30 : decode c_M_strength 30 = .ok (.getfield 37, 3) := by decide +kernel
theorem d_M_strength_33 : decode c_M_strength 33 = .ok (.iload_n 1, 1) := by decide +kernel
theorem d_M_strength_34 : decode c_M_strength 34 = .ok (.iaload, 1) := by decide +kernel
theorem d_M_strength_35 : decode c_M_strength 35 = .ok (.aload_n 0, 1) := by decide +kernel
theorem d_M_strength_36 : decode c_M_strength 36 = .ok (.getfield 40, 3) := by decide +kernel
theorem d_M_strength_39 : decode c_M_strength 39 = .ok (.iload_n 1, 1) := by decide +kernel
theorem d_M_strength_40 : decode c_M_strength 40 = .ok (.iaload, 1) := by decide +kernel
theorem d_M_strength_41 : decode c_M_strength 41 = .ok (.invokevirtual 134, 3) := by decide +kernel
theorem d_M_strength_44 : decode c_M_strength 44 = .ok (.aload_n 0, 1) := by decide +kernel
theorem d_M_strength_45 : decode c_M_strength 45 = .ok (.getfield 53, 3) := by decide +kernel
theorem d_M_strength_48 : decode c_M_strength 48 = .ok (.aload_n 0, 1) := by decide +kernel
theorem d_M_strength_49 : decode c_M_strength 49 = .ok (.getfield 34, 3) := by decide +kernel
theorem d_M_strength_52 : decode c_M_strength 52 = .ok (.iload_n 1, 1) := by decide +kernel
theorem d_M_strength_53 : decode c_M_strength 53 = .ok (.iaload, 1) := by decide +kernel
theorem d_M_strength_54 : decode c_M_strength 54 = .ok (.iaload, 1) := by decide +kernel
theorem d_M_strength_55 : decode c_M_strength 55 = .ok (.i2l, 1) := by decide +kernel
theorem d_M_strength_56 : decode c_M_strength 56 = .ok (.lmul, 1) := by decide +kernel
theorem d_M_strength_57 : decode c_M_strength 57 = .ok (.ldc2_w 140, 3) := by decide +kernel
theorem d_M_strength_60 : decode c_M_strength 60 = .ok (.ldiv, 1) := by decide +kernel
theorem d_M_strength_61 : decode c_M_strength 61 = .ok (.lreturn, 1) := by decide +kernel
theorem d_M_about_0 : decode c_M_about 0 = .ok (.aload_n 0, 1) := by decide +kernel
theorem d_M_about_1 : decode c_M_about 1 = .ok (.aload_n 0, 1) := by decide +kernel
theorem d_M_about_2 : decode c_M_about 2 = .ok (.iload_n 1, 1) := by decide +kernel
theorem d_M_about_3 : decode c_M_about 3 = .ok (.invokevirtual 137, 3) := by decide +kernel
theorem d_M_about_6 : decode c_M_about 6 = .ok (.ifCond .ne 12, 3) := by decide +kernel
theorem d_M_about_9 : decode c_M_about 9 = .ok (.iload_n 2, 1) := by decide +kernel
theorem d_M_about_10 : decode c_M_about 10 = .ok (.iconst 0, 1) := by decide +kernel
theorem d_M_about_11 : decode c_M_about 11 = .ok (.iconst 5, 1) := by decide +kernel
theorem d_M_about_12 : decode c_M_about 12 = .ok (.invokestatic 63, 3) := by decide +kernel
theorem d_M_about_15 : decode c_M_about 15 = .ok (.ifCond .ne 7, 3) := by decide +kernel
theorem d_M_about_18 : decode c_M_about 18 = .ok (.iconst 1, 1) := by decide +kernel
theorem d_M_about_19 : decode c_M_about 19 = .ok (.goto 4, 3) := by decide +kernel
theorem d_M_about_22 : decode c_M_about 22 = .ok (.iconst 0, 1) := by decide +kernel
theorem d_M_about_23 : decode c_M_about 23 = .ok (.putfield 56, 3) := by decide +kernel
theorem d_M_about_26 : decode c_M_about 26 = .ok (.aload_n 0, 1) := by decide +kernel
theorem d_M_about_27 : decode c_M_about 27 = .ok (.getfield 56, 3) := by decide +kernel
theorem d_M_about_30 : decode c_M_about 30 = .ok (.ifCond .le 5, 3) := by decide +kernel
theorem d_M_about_33 : decode c_M_about 33 = .ok (.lconst 0, 1) := by decide +kernel
theorem d_M_about_34 : decode c_M_about 34 = .ok (.lreturn, 1) := by decide +kernel
theorem d_M_about_35 : decode c_M_about 35 = .ok (.iload_n 2, 1) := by decide +kernel
theorem d_M_about_36 : decode c_M_about 36 = .ok (.iconst 3, 1) := by decide +kernel
theorem d_M_about_37 : decode c_M_about 37 = .ok (.if_icmp .ge 40, 3) := by decide +kernel
theorem d_M_about_40 : decode c_M_about 40 = .ok (.iload_n 2, 1) := by decide +kernel
theorem d_M_about_41 : decode c_M_about 41 = .ok (.ifCond .ne 13, 3) := by decide +kernel
theorem d_M_about_44 : decode c_M_about 44 = .ok (.aload_n 0, 1) := by decide +kernel
theorem d_M_about_45 : decode c_M_about 45 = .ok (.getfield 34, 3) := by decide +kernel
theorem d_M_about_48 : decode c_M_about 48 = .ok (.iload_n 1, 1) := by decide +kernel
theorem d_M_about_49 : decode c_M_about 49 = .ok (.iaload, 1) := by decide +kernel
theorem d_M_about_50 : decode c_M_about 50 = .ok (.i2l, 1) := by decide +kernel
theorem d_M_about_51 : decode c_M_about 51 = .ok (.goto 25, 3) := by decide +kernel
theorem d_M_about_54 : decode c_M_about 54 = .ok (.iload_n 2, 1) := by decide +kernel
theorem d_M_about_55 : decode c_M_about 55 = .ok (.iconst 1, 1) := by decide +kernel
theorem d_M_about_56 : decode c_M_about 56 = .ok (.if_icmp .ne 13, 3) := by decide +kernel
theorem d_M_about_59 : decode c_M_about 59 = .ok (.aload_n 0, 1) := by decide +kernel
theorem d_M_about_60 : decode c_M_about 60 = .ok (.getfield 37, 3) := by decide +kernel
theorem d_M_about_63 : decode c_M_about 63 = .ok (.iload_n 1, 1) := by decide +kernel
theorem d_M_about_64 : decode c_M_about 64 = .ok (.iaload, 1) := by decide +kernel
theorem d_M_about_65 : decode c_M_about 65 = .ok (.i2l, 1) := by decide +kernel
theorem d_M_about_66 : decode c_M_about 66 = .ok (.goto 10, 3) := by decide +kernel
theorem d_M_about_69 : decode c_M_about 69 = .ok (.aload_n 0, 1) := by decide +kernel
theorem d_M_about_70 : decode c_M_about 70 = .ok (.getfield 40, 3) := by decide +kernel
theorem d_M_about_73 : decode c_M_about 73 = .ok (.iload_n 1, 1) := by decide +kernel
theorem d_M_about_74 : decode c_M_about 74 = .ok (.iaload, 1) := by decide +kernel
theorem d_M_about_75 : decode c_M_about 75 = .ok (.i2l, 1) := by decide +kernel
theorem d_M_about_76 : decode c_M_about 76 = .ok (.lreturn, 1) := by decide +kernel
theorem d_M_about_77 : decode c_M_about 77 = .ok (.iload_n 2, 1) := by decide +kernel
theorem d_M_about_78 : decode c_M_about 78 = .ok (.iconst 3, 1) := by decide +kernel
theorem d_M_about_79 : decode c_M_about 79 = .ok (.if_icmp .ne 13, 3) := by decide +kernel
theorem d_M_about_82 : decode c_M_about 82 = .ok (.aload_n 0, 1) := by decide +kernel
theorem d_M_about_83 : decode c_M_about 83 = .ok (.getfield 43, 3) := by decide +kernel
theorem d_M_about_86 : decode c_M_about 86 = .ok (.iload_n 1, 1) := by decide +kernel
theorem d_M_about_87 : decode c_M_about 87 = .ok (.iaload, 1) := by decide +kernel
theorem d_M_about_88 : decode c_M_about 88 = .ok (.i2l, 1) := by decide +kernel
theorem d_M_about_89 : decode c_M_about 89 = .ok (.goto 23, 3) := by decide +kernel
theorem d_M_about_92 : decode c_M_about 92 = .ok (.iload_n 2, 1) := by decide +kernel
theorem d_M_about_93 : decode c_M_about 93 = .ok (.iconst 4, 1) := by decide +kernel
theorem d_M_about_94 : decode c_M_about 94 = .ok (.if_icmp .ne 12, 3) := by decide +kernel
theorem d_M_about_97 : decode c_M_about 97 = .ok (.aload_n 0, 1) := by decide +kernel
theorem d_M_about_98 : decode c_M_about 98 = .ok (.getfield 46, 3) := by decide +kernel
theorem d_M_about_101 : decode c_M_about 101 = .ok (.iload_n 1, 1) := by decide +kernel
theorem d_M_about_102 : decode c_M_about 102 = .ok (.laload, 1) := by decide +kernel
theorem d_M_about_103 : decode c_M_about 103 = .ok (.goto 9, 3) := by decide +kernel
theorem d_M_about_106 : decode c_M_about 106 = .ok (.aload_n 0, 1) := by decide +kernel
theorem d_M_about_107 : decode c_M_about 107 = .ok (.getfield 50, 3) := by decide +kernel
theorem d_M_about_110 : decode c_M_about 110 = .ok (.iload_n 1, 1) := by decide +kernel
theorem d_M_about_111 : decode c_M_about 111 = .ok (.laload, 1) := by decide +kernel
theorem d_M_about_112 : decode c_M_about 112 = .ok (.lreturn, 1) := by decide +kernel
theorem d_M_first_0 : decode c_M_first 0 = .ok (.aload_n 0, 1) := by decide +kernel
theorem d_M_first_1 : decode c_M_first 1 = .ok (.iconst 0, 1) := by decide +kernel
theorem d_M_first_2 : decode c_M_first 2 = .ok (.putfield 56, 3) := by decide +kernel
theorem d_M_first_5 : decode c_M_first 5 = .ok (.iconst 0, 1) := by decide +kernel
theorem d_M_first_6 : decode c_M_first 6 = .ok (.istore_n 1, 1) := by decide +kernel
theorem d_M_first_7 : decode c_M_first 7 = .ok (.iload_n 1, 1) := by decide +kernel
theorem d_M_first_8 : decode c_M_first 8 = .ok (.aload_n 0, 1) := by decide +kernel
theorem d_M_first_9 : decode c_M_first 9 = .ok (.getfield 60, 3) := by decide +kernel
theorem d_M_first_12 : decode c_M_first 12 = .ok (.if_icmp .ge 45, 3) := by decide +kernel
theorem d_M_first_15 : decode c_M_first 15 = .ok (.iload_n 1, 1) := by decide +kernel
theorem d_M_first_16 : decode c_M_first 16 = .ok (.iconst 1, 1) := by decide +kernel
theorem d_M_first_17 : decode c_M_first 17 = .ok (.iadd, 1) := by decide +kernel
theorem d_M_first_18 : decode c_M_first 18 = .ok (.istore_n 2, 1) := by decide +kernel
theorem d_M_first_19 : decode c_M_first 19 = .ok (.iload_n 2, 1) := by decide +kernel
theorem d_M_first_20 : decode c_M_first 20 = .ok (.aload_n 0, 1) := by decide +kernel
theorem d_M_first_21 : decode c_M_first 21 = .ok (.getfield 60, 3) := by decide +kernel
theorem d_M_first_24 : decode c_M_first 24 = .ok (.if_icmp .ge 27, 3) := by decide +kernel
theorem d_M_first_27 : decode c_M_first 27 = .ok (.aload_n 0, 1) := by decide +kernel
theorem d_M_first_28 : decode c_M_first 28 = .ok (.iload_n 1, 1) := by decide +kernel
theorem d_M_first_29 : decode c_M_first 29 = .ok (.iload_n 2, 1) := by decide +kernel
theorem d_M_first_30 : decode c_M_first 30 = .ok (.invokevirtual 130, 3) := by decide +kernel
theorem d_M_first_33 : decode c_M_first 33 = .ok (.lconst 0, 1) := by decide +kernel
theorem d_M_first_34 : decode c_M_first 34 = .ok (.lcmp, 1) := by decide +kernel
theorem d_M_first_35 : decode c_M_first 35 = .ok (.ifCond .le 10, 3) := by decide +kernel
theorem d_M_first_38 : decode c_M_first 38 = .ok (.bipush 8, 2) := by decide +kernel
theorem d_M_first_40 : decode c_M_first 40 = .ok (.iload_n 1, 1) := by decide +kernel
theorem d_M_first_41 : decode c_M_first 41 = .ok (.imul, 1) := by decide +kernel
theorem d_M_first_42 : decode c_M_first 42 = .ok (.iload_n 2, 1) := by decide +kernel
theorem d_M_first_43 : decode c_M_first 43 = .ok (.iadd, 1) := by decide +kernel
theorem d_M_first_44 : decode c_M_first 44 = .ok (.ireturn, 1) := by decide +kernel
theorem d_M_first_45 : decode c_M_first 45 = .ok (.iinc 2 1, 3) := by decide +kernel
theorem d_M_first_48 : decode c_M_first 48 = .ok (.goto (-29), 3) := by decide +kernel
theorem d_M_first_51 : decode c_M_first 51 = .ok (.iinc 1 1, 3) := by decide +kernel
theorem d_M_first_54 : decode c_M_first 54 = .ok (.goto (-47), 3) := by decide +kernel
theorem d_M_first_57 : decode c_M_first 57 = .ok (.iconst (-1), 1) := by decide +kernel
theorem d_M_first_58 : decode c_M_first 58 = .ok (.ireturn, 1) := by decide +kernel
