theorem dX8_normal_0 : decode cX8_normal 0 = .ok (.aload_n 0, 1) := by decide +kernel
theorem dX8_normal_1 : decode cX8_normal 1 = .ok (.iconst 0, 1) := by decide +kernel
theorem dX8_normal_2 : decode cX8_normal 2 = .ok (.putfield 143, 3) := by decide +kernel
theorem dX8_normal_5 : decode cX8_normal 5 = .ok (.aload_n 0, 1) := by decide +kernel
theorem dX8_normal_6 : decode cX8_normal 6 = .ok (.invokevirtual 308, 3) := by decide +kernel
theorem dX8_normal_9 : decode cX8_normal 9 = .ok (.aload_n 0, 1) := by decide +kernel
theorem dX8_normal_10 : decode cX8_normal 10 = .ok (.getfield 302, 3) := by decide +kernel
theorem dX8_normal_13 : decode cX8_normal 13 = .ok (.ireturn, 1) := by decide +kernel
theorem dX8_normalSort_0 : decode cX8_normalSort 0 = .ok (.aload_n 0, 1) := by decide +kernel
theorem dX8_normalSort_1 : decode cX8_normalSort 1 = .ok (.invokevirtual 308, 3) := by decide +kernel
theorem dX8_normalSort_4 : decode cX8_normalSort 4 = .ok (.aload_n 0, 1) := by decide +kernel
theorem dX8_normalSort_5 : decode cX8_normalSort 5 = .ok (.iload_n 1, 1) := by decide +kernel
theorem dX8_normalSort_6 : decode cX8_normalSort 6 = .ok (.iconst 0, 1) := by decide +kernel
theorem dX8_normalSort_7 : decode cX8_normalSort 7 = .ok (.aload_n 0, 1) := by decide +kernel
theorem dX8_normalSort_8 : decode cX8_normalSort 8 = .ok (.getfield 302, 3) := by decide +kernel
theorem dX8_normalSort_11 : decode cX8_normalSort 11 = .ok (.iconst 1, 1) := by decide +kernel
theorem dX8_normalSort_12 : decode cX8_normalSort 12 = .ok (.isub, 1) := by decide +kernel
theorem dX8_normalSort_13 : decode cX8_normalSort 13 = .ok (.invokestatic 159, 3) := by decide +kernel
theorem dX8_normalSort_16 : decode cX8_normalSort 16 = .ok (.iconst 1, 1) := by decide +kernel
theorem dX8_normalSort_17 : decode cX8_normalSort 17 = .ok (.iconst 1, 1) := by decide +kernel
theorem dX8_normalSort_18 : decode cX8_normalSort 18 = .ok (.invokevirtual 163, 3) := by decide +kernel
theorem dX8_normalSort_21 : decode cX8_normalSort 21 = .ok (.ifCond .eq 12, 3) := by decide +kernel
theorem dX8_normalSort_24 : decode cX8_normalSort 24 = .ok (.aload_n 0, 1) := by decide +kernel
theorem dX8_normalSort_25 : decode cX8_normalSort 25 = .ok (.getfield 125, 3) := by decide +kernel
theorem dX8_normalSort_28 : decode cX8_normalSort 28 = .ok (.iload_n 1, 1) := by decide +kernel
theorem dX8_normalSort_29 : decode cX8_normalSort 29 = .ok (.iaload, 1) := by decide +kernel
theorem dX8_normalSort_30 : decode cX8_normalSort 30 = .ok (.goto 4, 3) := by decide +kernel
theorem dX8_normalSort_33 : decode cX8_normalSort 33 = .ok (.iconst 0, 1) := by decide +kernel
theorem dX8_normalSort_34 : decode cX8_normalSort 34 = .ok (.ireturn, 1) := by decide +kernel
theorem dX8_normalValue_0 : decode cX8_normalValue 0 = .ok (.aload_n 0, 1) := by decide +kernel
theorem dX8_normalValue_1 : decode cX8_normalValue 1 = .ok (.invokevirtual 308, 3) := by decide +kernel
theorem dX8_normalValue_4 : decode cX8_normalValue 4 = .ok (.aload_n 0, 1) := by decide +kernel
theorem dX8_normalValue_5 : decode cX8_normalValue 5 = .ok (.iload_n 1, 1) := by decide +kernel
theorem dX8_normalValue_6 : decode cX8_normalValue 6 = .ok (.iconst 0, 1) := by decide +kernel
theorem dX8_normalValue_7 : decode cX8_normalValue 7 = .ok (.aload_n 0, 1) := by decide +kernel
theorem dX8_normalValue_8 : decode cX8_normalValue 8 = .ok (.getfield 302, 3) := by decide +kernel
theorem dX8_normalValue_11 : decode cX8_normalValue 11 = .ok (.iconst 1, 1) := by decide +kernel
theorem dX8_normalValue_12 : decode cX8_normalValue 12 = .ok (.isub, 1) := by decide +kernel
theorem dX8_normalValue_13 : decode cX8_normalValue 13 = .ok (.invokestatic 159, 3) := by decide +kernel
theorem dX8_normalValue_16 : decode cX8_normalValue 16 = .ok (.iconst 1, 1) := by decide +kernel
theorem dX8_normalValue_17 : decode cX8_normalValue 17 = .ok (.iconst 1, 1) := by decide +kernel
theorem dX8_normalValue_18 : decode cX8_normalValue 18 = .ok (.invokevirtual 163, 3) := by decide +kernel
theorem dX8_normalValue_21 : decode cX8_normalValue 21 = .ok (.ifCond .eq 12, 3) := by decide +kernel
theorem dX8_normalValue_24 : decode cX8_normalValue 24 = .ok (.aload_n 0, 1) := by decide +kernel
theorem dX8_normalValue_25 : decode cX8_normalValue 25 = .ok (.getfield 128, 3) := by decide +kernel
theorem dX8_normalValue_28 : decode cX8_normalValue 28 = .ok (.iload_n 1, 1) := by decide +kernel
theorem dX8_normalValue_29 : decode cX8_normalValue 29 = .ok (.iaload, 1) := by decide +kernel
theorem dX8_normalValue_30 : decode cX8_normalValue 30 = .ok (.goto 4, 3) := by decide +kernel
theorem dX8_normalValue_33 : decode cX8_normalValue 33 = .ok (.iconst 0, 1) := by decide +kernel
theorem dX8_normalValue_34 : decode cX8_normalValue 34 = .ok (.ireturn, 1) := by decide +kernel
theorem dX8_isClean_0 : decode cX8_isClean 0 = .ok (.aload_n 0, 1) := by decide +kernel
theorem dX8_isClean_1 : decode cX8_isClean 1 = .ok (.getfield 184, 3) := by decide +kernel
theorem dX8_isClean_4 : decode cX8_isClean 4 = .ok (.ifCond .ne 21, 3) := by decide +kernel
theorem dX8_isClean_7 : decode cX8_isClean 7 = .ok (.aload_n 0, 1) := by decide +kernel
theorem dX8_isClean_8 : decode cX8_isClean 8 = .ok (.getfield 197, 3) := by decide +kernel
theorem dX8_isClean_11 : decode cX8_isClean 11 = .ok (.ifCond .ne 14, 3) := by decide +kernel
theorem dX8_isClean_14 : decode cX8_isClean 14 = .ok (.aload_n 0, 1) := by decide +kernel
theorem dX8_isClean_15 : decode cX8_isClean 15 = .ok (.getfield 240, 3) := by decide +kernel
theorem dX8_isClean_18 : decode cX8_isClean 18 = .ok (.ifCond .ne 7, 3) := by decide +kernel
theorem dX8_isClean_21 : decode cX8_isClean 21 = .ok (.iconst 1, 1) := by decide +kernel
theorem dX8_isClean_22 : decode cX8_isClean 22 = .ok (.goto 4, 3) := by decide +kernel
theorem dX8_isClean_25 : decode cX8_isClean 25 = .ok (.iconst 0, 1) := by decide +kernel
theorem dX8_isClean_26 : decode cX8_isClean 26 = .ok (.ireturn, 1) := by decide +kernel
theorem dX8_isSame_0 : decode cX8_isSame 0 = .ok (.aload_n 0, 1) := by decide +kernel
theorem dX8_isSame_1 : decode cX8_isSame 1 = .ok (.iconst 0, 1) := by decide +kernel
theorem dX8_isSame_2 : decode cX8_isSame 2 = .ok (.putfield 143, 3) := by decide +kernel
theorem dX8_isSame_5 : decode cX8_isSame 5 = .ok (.aload_n 0, 1) := by decide +kernel
theorem dX8_isSame_6 : decode cX8_isSame 6 = .ok (.invokevirtual 308, 3) := by decide +kernel
theorem dX8_isSame_9 : decode cX8_isSame 9 = .ok (.aload_n 0, 1) := by decide +kernel
theorem dX8_isSame_10 : decode cX8_isSame 10 = .ok (.getfield 187, 3) := by decide +kernel
theorem dX8_isSame_13 : decode cX8_isSame 13 = .ok (.istore_n 1, 1) := by decide +kernel
theorem dX8_isSame_14 : decode cX8_isSame 14 = .ok (.iconst 0, 1) := by decide +kernel
theorem dX8_isSame_15 : decode cX8_isSame 15 = .ok (.istore_n 2, 1) := by decide +kernel
theorem dX8_isSame_16 : decode cX8_isSame 16 = .ok (.iload_n 2, 1) := by decide +kernel
theorem dX8_isSame_17 : decode cX8_isSame 17 = .ok (.iload_n 1, 1) := by decide +kernel
theorem dX8_isSame_18 : decode cX8_isSame 18 = .ok (.if_icmp .ge 45, 3) := by decide +kernel
theorem dX8_isSame_21 : decode cX8_isSame 21 = .ok (.aload_n 0, 1) := by decide +kernel
theorem dX8_isSame_22 : decode cX8_isSame 22 = .ok (.getfield 131, 3) := by decide +kernel
theorem dX8_isSame_25 : decode cX8_isSame 25 = .ok (.iload_n 2, 1) := by decide +kernel
theorem dX8_isSame_26 : decode cX8_isSame 26 = .ok (.aload_n 0, 1) := by decide +kernel
theorem dX8_isSame_27 : decode cX8_isSame 27 = .ok (.getfield 68, 3) := by decide +kernel
theorem dX8_isSame_30 : decode cX8_isSame 30 = .ok (.iload_n 2, 1) := by decide +kernel
theorem dX8_isSame_31 : decode cX8_isSame 31 = .ok (.iaload, 1) := by decide +kernel
theorem dX8_isSame_32 : decode cX8_isSame 32 = .ok (.iastore, 1) := by decide +kernel
theorem dX8_isSame_33 : decode cX8_isSame 33 = .ok (.aload_n 0, 1) := by decide +kernel
theorem dX8_isSame_34 : decode cX8_isSame 34 = .ok (.getfield 134, 3) := by decide +kernel
theorem dX8_isSame_37 : decode cX8_isSame 37 = .ok (.iload_n 2, 1) := by decide +kernel
theorem dX8_isSame_38 : decode cX8_isSame 38 = .ok (.aload_n 0, 1) := by decide +kernel
theorem dX8_isSame_39 : decode cX8_isSame 39 = .ok (.getfield 71, 3) := by decide +kernel
theorem dX8_isSame_42 : decode cX8_isSame 42 = .ok (.iload_n 2, 1) := by decide +kernel
theorem dX8_isSame_43 : decode cX8_isSame 43 = .ok (.iaload, 1) := by decide +kernel
theorem dX8_isSame_44 : decode cX8_isSame 44 = .ok (.iastore, 1) := by decide +kernel
theorem dX8_isSame_45 : decode cX8_isSame 45 = .ok (.aload_n 0, 1) := by decide +kernel
theorem dX8_isSame_46 : decode cX8_isSame 46 = .ok (.getfield 137, 3) := by decide +kernel
theorem dX8_isSame_49 : decode cX8_isSame 49 = .ok (.iload_n 2, 1) := by decide +kernel
theorem dX8_isSame_50 : decode cX8_isSame 50 = .ok (.aload_n 0, 1) := by decide +kernel
theorem dX8_isSame_51 : decode cX8_isSame 51 = .ok (.getfield 74, 3) := by decide +kernel
theorem dX8_isSame_54 : decode cX8_isSame 54 = .ok (.iload_n 2, 1) := by decide +kernel
theorem dX8_isSame_55 : decode cX8_isSame 55 = .ok (.iaload, 1) := by decide +kernel
theorem dX8_isSame_56 : decode cX8_isSame 56 = .ok (.iastore, 1) := by decide +kernel
theorem dX8_isSame_57 : decode cX8_isSame 57 = .ok (.iinc 2 1, 3) := by decide +kernel
theorem dX8_isSame_60 : decode cX8_isSame 60 = .ok (.goto (-44), 3) := by decide +kernel
theorem dX8_isSame_63 : decode cX8_isSame 63 = .ok (.aload_n 0, 1) := by decide +kernel
theorem dX8_isSame_64 : decode cX8_isSame 64 = .ok (.aload_n 0, 1) := by decide +kernel
theorem dX8_isSame_65 : decode cX8_isSame 65 = .ok (.getfield 302, 3) := by decide +kernel
theorem dX8_isSame_68 : decode cX8_isSame 68 = .ok (.putfield 243, 3) := by decide +kernel
theorem dX8_isSame_71 : decode cX8_isSame 71 = .ok (.iconst 0, 1) := by decide +kernel
theorem dX8_isSame_72 : decode cX8_isSame 72 = .ok (.istore_n 2, 1) := by decide +kernel
theorem dX8_isSame_73 : decode cX8_isSame 73 = .ok (.iload_n 2, 1) := by decide +kernel
theorem dX8_isSame_74 : decode cX8_isSame 74 = .ok (.aload_n 0, 1) := by decide +kernel
theorem dX8_isSame_75 : decode cX8_isSame 75 = .ok (.getfield 302, 3) := by decide +kernel
theorem dX8_isSame_78 : decode cX8_isSame 78 = .ok (.if_icmp .ge 33, 3) := by decide +kernel
theorem dX8_isSame_81 : decode cX8_isSame 81 = .ok (.aload_n 0, 1) := by decide +kernel
theorem dX8_isSame_82 : decode cX8_isSame 82 = .ok (.getfield 50, 3) := by decide +kernel
theorem dX8_isSame_85 : decode cX8_isSame 85 = .ok (.iload_n 2, 1) := by decide +kernel
theorem dX8_isSame_86 : decode cX8_isSame 86 = .ok (.aload_n 0, 1) := by decide +kernel
theorem dX8_isSame_87 : decode cX8_isSame 87 = .ok (.getfield 125, 3) := by decide +kernel
theorem dX8_isSame_90 : decode cX8_isSame 90 = .ok (.iload_n 2, 1) := by decide +kernel
theorem dX8_isSame_91 : decode cX8_isSame 91 = .ok (.iaload, 1) := by decide +kernel
theorem dX8_isSame_92 : decode cX8_isSame 92 = .ok (.iastore, 1) := by decide +kernel
theorem dX8_isSame_93 : decode cX8_isSame 93 = .ok (.aload_n 0, 1) := by decide +kernel
theorem dX8_isSame_94 : decode cX8_isSame 94 = .ok (.getfield 53, 3) := by decide +kernel
theorem dX8_isSame_97 : decode cX8_isSame 97 = .ok (.iload_n 2, 1) := by decide +kernel
theorem dX8_isSame_98 : decode cX8_isSame 98 = .ok (.aload_n 0, 1) := by decide +kernel
theorem dX8_isSame_99 : decode cX8_isSame 99 = .ok (.getfield 128, 3) := by decide +kernel
theorem dX8_isSame_102 : decode cX8_isSame 102 = .ok (.iload_n 2, 1) := by decide +kernel
theorem dX8_isSame_103 : decode cX8_isSame 103 = .ok (.iaload, 1) := by decide +kernel
theorem dX8_isSame_104 : decode cX8_isSame 104 = .ok (.iastore, 1) := by decide +kernel
theorem dX8_isSame_105 : decode cX8_isSame 105 = .ok (.iinc 2 1, 3) := by decide +kernel
theorem dX8_isSame_108 : decode cX8_isSame 108 = .ok (.goto (-35), 3) := by decide +kernel
theorem dX8_isSame_111 : decode cX8_isSame 111 = .ok (.aload_n 0, 1) := by decide +kernel
theorem dX8_isSame_112 : decode cX8_isSame 112 = .ok (.invokevirtual 290, 3) := by decide +kernel
theorem dX8_isSame_115 : decode cX8_isSame 115 = .ok (.aload_n 0, 1) := by decide +kernel
theorem dX8_isSame_116 : decode cX8_isSame 116 = .ok (.invokevirtual 317, 3) := by decide +kernel
theorem dX8_isSame_119 : decode cX8_isSame 119 = .ok (.ifCond .eq 15, 3) := by decide +kernel
theorem dX8_isSame_122 : decode cX8_isSame 122 = .ok (.aload_n 0, 1) := by decide +kernel
theorem dX8_isSame_123 : decode cX8_isSame 123 = .ok (.getfield 187, 3) := by decide +kernel
theorem dX8_isSame_126 : decode cX8_isSame 126 = .ok (.iload_n 1, 1) := by decide +kernel
theorem dX8_isSame_127 : decode cX8_isSame 127 = .ok (.if_icmp .ne 7, 3) := by decide +kernel
theorem dX8_isSame_130 : decode cX8_isSame 130 = .ok (.iconst 1, 1) := by decide +kernel
theorem dX8_isSame_131 : decode cX8_isSame 131 = .ok (.goto 4, 3) := by decide +kernel
theorem dX8_isSame_134 : decode cX8_isSame 134 = .ok (.iconst 0, 1) := by decide +kernel
theorem dX8_isSame_135 : decode cX8_isSame 135 = .ok (.istore_n 2, 1) := by decide +kernel
theorem dX8_isSame_136 : decode cX8_isSame 136 = .ok (.iconst 0, 1) := by decide +kernel
theorem dX8_isSame_137 : decode cX8_isSame 137 = .ok (.istore_n 3, 1) := by decide +kernel
theorem dX8_isSame_138 : decode cX8_isSame 138 = .ok (.iload_n 2, 1) := by decide +kernel
theorem dX8_isSame_139 : decode cX8_isSame 139 = .ok (.ifCond .eq 65, 3) := by decide +kernel
theorem dX8_isSame_142 : decode cX8_isSame 142 = .ok (.iload_n 3, 1) := by decide +kernel
theorem dX8_isSame_143 : decode cX8_isSame 143 = .ok (.iload_n 1, 1) := by decide +kernel
theorem dX8_isSame_144 : decode cX8_isSame 144 = .ok (.if_icmp .ge 60, 3) := by decide +kernel
theorem dX8_isSame_147 : decode cX8_isSame 147 = .ok (.aload_n 0, 1) := by decide +kernel
theorem dX8_isSame_148 : decode cX8_isSame 148 = .ok (.getfield 68, 3) := by decide +kernel
theorem dX8_isSame_151 : decode cX8_isSame 151 = .ok (.iload_n 3, 1) := by decide +kernel
theorem dX8_isSame_152 : decode cX8_isSame 152 = .ok (.iaload, 1) := by decide +kernel
theorem dX8_isSame_153 : decode cX8_isSame 153 = .ok (.aload_n 0, 1) := by decide +kernel
theorem dX8_isSame_154 : decode cX8_isSame 154 = .ok (.getfield 131, 3) := by decide +kernel
theorem dX8_isSame_157 : decode cX8_isSame 157 = .ok (.iload_n 3, 1) := by decide +kernel
theorem dX8_isSame_158 : decode cX8_isSame 158 = .ok (.iaload, 1) := by decide +kernel
theorem dX8_isSame_159 : decode cX8_isSame 159 = .ok (.if_icmp .ne 37, 3) := by decide +kernel
theorem dX8_isSame_162 : decode cX8_isSame 162 = .ok (.aload_n 0, 1) := by decide +kernel
theorem dX8_isSame_163 : decode cX8_isSame 163 = .ok (.getfield 71, 3) := by decide +kernel
theorem dX8_isSame_166 : decode cX8_isSame 166 = .ok (.iload_n 3, 1) := by decide +kernel
theorem dX8_isSame_167 : decode cX8_isSame 167 = .ok (.iaload, 1) := by decide +kernel
theorem dX8_isSame_168 : decode cX8_isSame 168 = .ok (.aload_n 0, 1) := by decide +kernel
theorem dX8_isSame_169 : decode cX8_isSame 169 = .ok (.getfield 134, 3) := by decide +kernel
theorem dX8_isSame_172 : decode cX8_isSame 172 = .ok (.iload_n 3, 1) := by decide +kernel
theorem dX8_isSame_173 : decode cX8_isSame 173 = .ok (.iaload, 1) := by decide +kernel
theorem dX8_isSame_174 : decode cX8_isSame 174 = .ok (.if_icmp .ne 22, 3) := by decide +kernel
theorem dX8_isSame_177 : decode cX8_isSame 177 = .ok (.aload_n 0, 1) := by decide +kernel
theorem dX8_isSame_178 : decode cX8_isSame 178 = .ok (.getfield 74, 3) := by decide +kernel
theorem dX8_isSame_181 : decode cX8_isSame 181 = .ok (.iload_n 3, 1) := by decide +kernel
theorem dX8_isSame_182 : decode cX8_isSame 182 = .ok (.iaload, 1) := by decide +kernel
theorem dX8_isSame_183 : decode cX8_isSame 183 = .ok (.aload_n 0, 1) := by decide +kernel
theorem dX8_isSame_184 : decode cX8_isSame 184 = .ok (.getfield 137, 3) := by decide +kernel
theorem dX8_isSame_187 : decode cX8_isSame 187 = .ok (.iload_n 3, 1) := by decide +kernel
theorem dX8_isSame_188 : decode cX8_isSame 188 = .ok (.iaload, 1) := by decide +kernel
theorem dX8_isSame_189 : decode cX8_isSame 189 = .ok (.if_icmp .ne 7, 3) := by decide +kernel
theorem dX8_isSame_192 : decode cX8_isSame 192 = .ok (.iconst 1, 1) := by decide +kernel
theorem dX8_isSame_193 : decode cX8_isSame 193 = .ok (.goto 4, 3) := by decide +kernel
theorem dX8_isSame_196 : decode cX8_isSame 196 = .ok (.iconst 0, 1) := by decide +kernel
theorem dX8_isSame_197 : decode cX8_isSame 197 = .ok (.istore_n 2, 1) := by decide +kernel
theorem dX8_isSame_198 : decode cX8_isSame 198 = .ok (.iinc 3 1, 3) := by decide +kernel
theorem dX8_isSame_201 : decode cX8_isSame 201 = .ok (.goto (-63), 3) := by decide +kernel
theorem dX8_isSame_204 : decode cX8_isSame 204 = .ok (.aload_n 0, 1) := by decide +kernel
theorem dX8_isSame_205 : decode cX8_isSame 205 = .ok (.invokevirtual 140, 3) := by decide +kernel
theorem dX8_isSame_208 : decode cX8_isSame 208 = .ok (.iload_n 2, 1) := by decide +kernel
theorem dX8_isSame_209 : decode cX8_isSame 209 = .ok (.ireturn, 1) := by decide +kernel
theorem dX8_isTag_0 : decode cX8_isTag 0 = .ok (.iload_n 1, 1) := by decide +kernel
theorem dX8_isTag_1 : decode cX8_isTag 1 = .ok (.bipush 10, 2) := by decide +kernel
theorem dX8_isTag_3 : decode cX8_isTag 3 = .ok (.if_icmp .ge 12, 3) := by decide +kernel
theorem dX8_isTag_6 : decode cX8_isTag 6 = .ok (.aload_n 0, 1) := by decide +kernel
theorem dX8_isTag_7 : decode cX8_isTag 7 = .ok (.getfield 25, 3) := by decide +kernel
theorem dX8_isTag_10 : decode cX8_isTag 10 = .ok (.iload_n 1, 1) := by decide +kernel
theorem dX8_isTag_11 : decode cX8_isTag 11 = .ok (.baload, 1) := by decide +kernel
theorem dX8_isTag_12 : decode cX8_isTag 12 = .ok (.goto 12, 3) := by decide +kernel
theorem dX8_isTag_15 : decode cX8_isTag 15 = .ok (.aload_n 0, 1) := by decide +kernel
theorem dX8_isTag_16 : decode cX8_isTag 16 = .ok (.getfield 29, 3) := by decide +kernel
theorem dX8_isTag_19 : decode cX8_isTag 19 = .ok (.iload_n 1, 1) := by decide +kernel
theorem dX8_isTag_20 : decode cX8_isTag 20 = .ok (.bipush 10, 2) := by decide +kernel
theorem dX8_isTag_22 : decode cX8_isTag 22 = .ok (.isub, 1) := by decide +kernel
theorem dX8_isTag_23 : decode cX8_isTag 23 = .ok (.baload, 1) := by decide +kernel
theorem dX8_isTag_24 : decode cX8_isTag 24 = .ok (.ireturn, 1) := by decide +kernel
theorem dX8_adds_0 : decode cX8_adds 0 = .ok (.aload_n 0, 1) := by decide +kernel
theorem dX8_adds_1 : decode cX8_adds 1 = .ok (.getfield 50, 3) := by decide +kernel
theorem dX8_adds_4 : decode cX8_adds 4 = .ok (.aload_n 0, 1) := by decide +kernel
theorem dX8_adds_5 : decode cX8_adds 5 = .ok (.getfield 243, 3) := by decide +kernel
theorem dX8_adds_8 : decode cX8_adds 8 = .ok (.iload_n 1, 1) := by decide +kernel
theorem dX8_adds_9 : decode cX8_adds 9 = .ok (.iastore, 1) := by decide +kernel
theorem dX8_adds_10 : decode cX8_adds 10 = .ok (.aload_n 0, 1) := by decide +kernel
theorem dX8_adds_11 : decode cX8_adds 11 = .ok (.getfield 53, 3) := by decide +kernel
theorem dX8_adds_14 : decode cX8_adds 14 = .ok (.aload_n 0, 1) := by decide +kernel
theorem dX8_adds_15 : decode cX8_adds 15 = .ok (.getfield 243, 3) := by decide +kernel
theorem dX8_adds_18 : decode cX8_adds 18 = .ok (.iload_n 2, 1) := by decide +kernel
theorem dX8_adds_19 : decode cX8_adds 19 = .ok (.iastore, 1) := by decide +kernel
theorem dX8_adds_20 : decode cX8_adds 20 = .ok (.aload_n 0, 1) := by decide +kernel
theorem dX8_adds_21 : decode cX8_adds 21 = .ok (.dup, 1) := by decide +kernel
theorem dX8_adds_22 : decode cX8_adds 22 = .ok (.getfield 243, 3) := by decide +kernel
theorem dX8_adds_25 : decode cX8_adds 25 = .ok (.iconst 1, 1) := by decide +kernel
theorem dX8_adds_26 : decode cX8_adds 26 = .ok (.iadd, 1) := by decide +kernel
theorem dX8_adds_27 : decode cX8_adds 27 = .ok (.putfield 243, 3) := by decide +kernel
theorem dX8_adds_30 : decode cX8_adds 30 = .ok (.return_, 1) := by decide +kernel
theorem dX8_isWay_0 : decode cX8_isWay 0 = .ok (.aload_n 0, 1) := by decide +kernel
theorem dX8_isWay_1 : decode cX8_isWay 1 = .ok (.iconst 0, 1) := by decide +kernel
theorem dX8_isWay_2 : decode cX8_isWay 2 = .ok (.putfield 243, 3) := by decide +kernel
theorem dX8_isWay_5 : decode cX8_isWay 5 = .ok (.iconst 0, 1) := by decide +kernel
theorem dX8_isWay_6 : decode cX8_isWay 6 = .ok (.istore 5, 2) := by decide +kernel
theorem dX8_isWay_8 : decode cX8_isWay 8 = .ok (.iload 5, 2) := by decide +kernel
theorem dX8_isWay_10 : decode cX8_isWay 10 = .ok (.aload_n 0, 1) := by decide +kernel
theorem dX8_isWay_11 : decode cX8_isWay 11 = .ok (.getfield 174, 3) := by decide +kernel
theorem dX8_isWay_14 : decode cX8_isWay 14 = .ok (.if_icmp .gt 85, 3) := by decide +kernel
theorem dX8_isWay_17 : decode cX8_isWay 17 = .ok (.iload_n 2, 1) := by decide +kernel
theorem dX8_isWay_18 : decode cX8_isWay 18 = .ok (.iconst (-1), 1) := by decide +kernel
theorem dX8_isWay_19 : decode cX8_isWay 19 = .ok (.if_icmp .eq 21, 3) := by decide +kernel
theorem dX8_isWay_22 : decode cX8_isWay 22 = .ok (.iload_n 1, 1) := by decide +kernel
theorem dX8_isWay_23 : decode cX8_isWay 23 = .ok (.iload 5, 2) := by decide +kernel
theorem dX8_isWay_25 : decode cX8_isWay 25 = .ok (.if_icmp .ne 15, 3) := by decide +kernel
theorem dX8_isWay_28 : decode cX8_isWay 28 = .ok (.aload_n 0, 1) := by decide +kernel
theorem dX8_isWay_29 : decode cX8_isWay 29 = .ok (.iload_n 2, 1) := by decide +kernel
theorem dX8_isWay_30 : decode cX8_isWay 30 = .ok (.bipush 10, 2) := by decide +kernel
theorem dX8_isWay_32 : decode cX8_isWay 32 = .ok (.idiv, 1) := by decide +kernel
theorem dX8_isWay_33 : decode cX8_isWay 33 = .ok (.iload_n 2, 1) := by decide +kernel
theorem dX8_isWay_34 : decode cX8_isWay 34 = .ok (.bipush 10, 2) := by decide +kernel
theorem dX8_isWay_36 : decode cX8_isWay 36 = .ok (.irem, 1) := by decide +kernel
theorem dX8_isWay_37 : decode cX8_isWay 37 = .ok (.invokevirtual 320, 3) := by decide +kernel
theorem dX8_isWay_40 : decode cX8_isWay 40 = .ok (.iload 4, 2) := by decide +kernel
theorem dX8_isWay_42 : decode cX8_isWay 42 = .ok (.iconst (-1), 1) := by decide +kernel
theorem dX8_isWay_43 : decode cX8_isWay 43 = .ok (.if_icmp .eq 23, 3) := by decide +kernel
theorem dX8_isWay_46 : decode cX8_isWay 46 = .ok (.iload_n 3, 1) := by decide +kernel
theorem dX8_isWay_47 : decode cX8_isWay 47 = .ok (.iload 5, 2) := by decide +kernel
theorem dX8_isWay_49 : decode cX8_isWay 49 = .ok (.if_icmp .ne 17, 3) := by decide +kernel
theorem dX8_isWay_52 : decode cX8_isWay 52 = .ok (.aload_n 0, 1) := by decide +kernel
theorem dX8_isWay_53 : decode cX8_isWay 53 = .ok (.iload 4, 2) := by decide +kernel
theorem dX8_isWay_55 : decode cX8_isWay 55 = .ok (.bipush 10, 2) := by decide +kernel
theorem dX8_isWay_57 : decode cX8_isWay 57 = .ok (.idiv, 1) := by decide +kernel
theorem dX8_isWay_58 : decode cX8_isWay 58 = .ok (.iload 4, 2) := by decide +kernel
theorem dX8_isWay_60 : decode cX8_isWay 60 = .ok (.bipush 10, 2) := by decide +kernel
theorem dX8_isWay_62 : decode cX8_isWay 62 = .ok (.irem, 1) := by decide +kernel
theorem dX8_isWay_63 : decode cX8_isWay 63 = .ok (.invokevirtual 320, 3) := by decide +kernel
theorem dX8_isWay_66 : decode cX8_isWay 66 = .ok (.iload 5, 2) := by decide +kernel
theorem dX8_isWay_68 : decode cX8_isWay 68 = .ok (.aload_n 0, 1) := by decide +kernel
theorem dX8_isWay_69 : decode cX8_isWay 69 = .ok (.getfield 174, 3) := by decide +kernel
theorem dX8_isWay_72 : decode cX8_isWay 72 = .ok (.if_icmp .ge 21, 3) := by decide +kernel
theorem dX8_isWay_75 : decode cX8_isWay 75 = .ok (.aload_n 0, 1) := by decide +kernel
theorem dX8_isWay_76 : decode cX8_isWay 76 = .ok (.aload_n 0, 1) := by decide +kernel
theorem dX8_isWay_77 : decode cX8_isWay 77 = .ok (.getfield 44, 3) := by decide +kernel
theorem dX8_isWay_80 : decode cX8_isWay 80 = .ok (.iload 5, 2) := by decide +kernel
theorem dX8_isWay_82 : decode cX8_isWay 82 = .ok (.iaload, 1) := by decide +kernel
theorem dX8_isWay_83 : decode cX8_isWay 83 = .ok (.aload_n 0, 1) := by decide +kernel
theorem dX8_isWay_84 : decode cX8_isWay 84 = .ok (.getfield 47, 3) := by decide +kernel
theorem dX8_isWay_87 : decode cX8_isWay 87 = .ok (.iload 5, 2) := by decide +kernel
theorem dX8_isWay_89 : decode cX8_isWay 89 = .ok (.iaload, 1) := by decide +kernel
theorem dX8_isWay_90 : decode cX8_isWay 90 = .ok (.invokevirtual 320, 3) := by decide +kernel
theorem dX8_isWay_93 : decode cX8_isWay 93 = .ok (.iinc 5 1, 3) := by decide +kernel
theorem dX8_isWay_96 : decode cX8_isWay 96 = .ok (.goto (-88), 3) := by decide +kernel
theorem dX8_isWay_99 : decode cX8_isWay 99 = .ok (.aload_n 0, 1) := by decide +kernel
theorem dX8_isWay_100 : decode cX8_isWay 100 = .ok (.invokevirtual 290, 3) := by decide +kernel
theorem dX8_isWay_103 : decode cX8_isWay 103 = .ok (.aload_n 0, 1) := by decide +kernel
theorem dX8_isWay_104 : decode cX8_isWay 104 = .ok (.invokevirtual 317, 3) := by decide +kernel
theorem dX8_isWay_107 : decode cX8_isWay 107 = .ok (.ireturn, 1) := by decide +kernel
theorem dX8_countWays_0 : decode cX8_countWays 0 = .ok (.aload_n 0, 1) := by decide +kernel
theorem dX8_countWays_1 : decode cX8_countWays 1 = .ok (.iconst 0, 1) := by decide +kernel
theorem dX8_countWays_2 : decode cX8_countWays 2 = .ok (.iconst (-1), 1) := by decide +kernel
theorem dX8_countWays_3 : decode cX8_countWays 3 = .ok (.iconst 0, 1) := by decide +kernel
theorem dX8_countWays_4 : decode cX8_countWays 4 = .ok (.iconst (-1), 1) := by decide +kernel
theorem dX8_countWays_5 : decode cX8_countWays 5 = .ok (.invokevirtual 323, 3) := by decide +kernel
theorem dX8_countWays_8 : decode cX8_countWays 8 = .ok (.ifCond .eq 7, 3) := by decide +kernel
theorem dX8_countWays_11 : decode cX8_countWays 11 = .ok (.iconst 1, 1) := by decide +kernel
theorem dX8_countWays_12 : decode cX8_countWays 12 = .ok (.goto 4, 3) := by decide +kernel
theorem dX8_countWays_15 : decode cX8_countWays 15 = .ok (.iconst 0, 1) := by decide +kernel
theorem dX8_countWays_16 : decode cX8_countWays 16 = .ok (.istore_n 1, 1) := by decide +kernel
theorem dX8_countWays_17 : decode cX8_countWays 17 = .ok (.iconst 0, 1) := by decide +kernel
theorem dX8_countWays_18 : decode cX8_countWays 18 = .ok (.istore_n 2, 1) := by decide +kernel
theorem dX8_countWays_19 : decode cX8_countWays 19 = .ok (.iload_n 2, 1) := by decide +kernel
theorem dX8_countWays_20 : decode cX8_countWays 20 = .ok (.aload_n 0, 1) := by decide +kernel
theorem dX8_countWays_21 : decode cX8_countWays 21 = .ok (.getfield 174, 3) := by decide +kernel
theorem dX8_countWays_24 : decode cX8_countWays 24 = .ok (.if_icmp .gt 138, 3) := by decide +kernel
theorem dX8_countWays_27 : decode cX8_countWays 27 = .ok (.iconst 0, 1) := by decide +kernel
theorem dX8_countWays_28 : decode cX8_countWays 28 = .ok (.istore_n 3, 1) := by decide +kernel
theorem dX8_countWays_29 : decode cX8_countWays 29 = .ok (.iload_n 3, 1) := by decide +kernel
theorem dX8_countWays_30 : decode cX8_countWays 30 = .ok (.bipush 20, 2) := by decide +kernel
theorem dX8_countWays_32 : decode cX8_countWays 32 = .ok (.if_icmp .ge 124, 3) := by decide +kernel
theorem dX8_countWays_35 : decode cX8_countWays 35 = .ok (.iload_n 1, 1) := by decide +kernel
theorem dX8_countWays_36 : decode cX8_countWays 36 = .ok (.sipush 1000, 3) := by decide +kernel
theorem dX8_countWays_39 : decode cX8_countWays 39 = .ok (.if_icmp .ge 117, 3) := by decide +kernel
theorem dX8_countWays_42 : decode cX8_countWays 42 = .ok (.iload_n 1, 1) := by decide +kernel
theorem dX8_countWays_43 : decode cX8_countWays 43 = .ok (.aload_n 0, 1) := by decide +kernel
theorem dX8_countWays_44 : decode cX8_countWays 44 = .ok (.iload_n 3, 1) := by decide +kernel
theorem dX8_countWays_45 : decode cX8_countWays 45 = .ok (.invokevirtual 327, 3) := by decide +kernel
theorem dX8_countWays_48 : decode cX8_countWays 48 = .ok (.ifCond .eq 18, 3) := by decide +kernel
theorem dX8_countWays_51 : decode cX8_countWays 51 = .ok (.aload_n 0, 1) := by decide +kernel
theorem dX8_countWays_52 : decode cX8_countWays 52 = .ok (.iload_n 2, 1) := by decide +kernel
theorem dX8_countWays_53 : decode cX8_countWays 53 = .ok (.iload_n 3, 1) := by decide +kernel
theorem dX8_countWays_54 : decode cX8_countWays 54 = .ok (.iconst 0, 1) := by decide +kernel
theorem dX8_countWays_55 : decode cX8_countWays 55 = .ok (.iconst (-1), 1) := by decide +kernel
theorem dX8_countWays_56 : decode cX8_countWays 56 = .ok (.invokevirtual 323, 3) := by decide +kernel
theorem dX8_countWays_59 : decode cX8_countWays 59 = .ok (.ifCond .eq 7, 3) := by decide +kernel
theorem dX8_countWays_62 : decode cX8_countWays 62 = .ok (.iconst 1, 1) := by decide +kernel
theorem dX8_countWays_63 : decode cX8_countWays 63 = .ok (.goto 4, 3) := by decide +kernel
theorem dX8_countWays_66 : decode cX8_countWays 66 = .ok (.iconst 0, 1) := by decide +kernel
theorem dX8_countWays_67 : decode cX8_countWays 67 = .ok (.iadd, 1) := by decide +kernel
theorem dX8_countWays_68 : decode cX8_countWays 68 = .ok (.istore_n 1, 1) := by decide +kernel
theorem dX8_countWays_69 : decode cX8_countWays 69 = .ok (.bipush 20, 2) := by decide +kernel
theorem dX8_countWays_71 : decode cX8_countWays 71 = .ok (.iload_n 2, 1) := by decide +kernel
theorem dX8_countWays_72 : decode cX8_countWays 72 = .ok (.imul, 1) := by decide +kernel
theorem dX8_countWays_73 : decode cX8_countWays 73 = .ok (.istore 4, 2) := by decide +kernel
theorem dX8_countWays_75 : decode cX8_countWays 75 = .ok (.iload 4, 2) := by decide +kernel
theorem dX8_countWays_77 : decode cX8_countWays 77 = .ok (.bipush 20, 2) := by decide +kernel
theorem dX8_countWays_79 : decode cX8_countWays 79 = .ok (.aload_n 0, 1) := by decide +kernel
theorem dX8_countWays_80 : decode cX8_countWays 80 = .ok (.getfield 174, 3) := by decide +kernel
theorem dX8_countWays_83 : decode cX8_countWays 83 = .ok (.imul, 1) := by decide +kernel
theorem dX8_countWays_84 : decode cX8_countWays 84 = .ok (.bipush 20, 2) := by decide +kernel
theorem dX8_countWays_86 : decode cX8_countWays 86 = .ok (.iadd, 1) := by decide +kernel
theorem dX8_countWays_87 : decode cX8_countWays 87 = .ok (.if_icmp .ge 63, 3) := by decide +kernel
theorem dX8_countWays_90 : decode cX8_countWays 90 = .ok (.aload_n 0, 1) := by decide +kernel
theorem dX8_countWays_91 : decode cX8_countWays 91 = .ok (.iload_n 3, 1) := by decide +kernel
theorem dX8_countWays_92 : decode cX8_countWays 92 = .ok (.invokevirtual 327, 3) := by decide +kernel
theorem dX8_countWays_95 : decode cX8_countWays 95 = .ok (.ifCond .eq 55, 3) := by decide +kernel
theorem dX8_countWays_98 : decode cX8_countWays 98 = .ok (.iload_n 1, 1) := by decide +kernel
theorem dX8_countWays_99 : decode cX8_countWays 99 = .ok (.sipush 1000, 3) := by decide +kernel
theorem dX8_countWays_102 : decode cX8_countWays 102 = .ok (.if_icmp .ge 48, 3) := by decide +kernel
theorem dX8_countWays_105 : decode cX8_countWays 105 = .ok (.iload_n 1, 1) := by decide +kernel
theorem dX8_countWays_106 : decode cX8_countWays 106 = .ok (.aload_n 0, 1) := by decide +kernel
theorem dX8_countWays_107 : decode cX8_countWays 107 = .ok (.iload 4, 2) := by decide +kernel
theorem dX8_countWays_109 : decode cX8_countWays 109 = .ok (.bipush 20, 2) := by decide +kernel
theorem dX8_countWays_111 : decode cX8_countWays 111 = .ok (.irem, 1) := by decide +kernel
theorem dX8_countWays_112 : decode cX8_countWays 112 = .ok (.invokevirtual 327, 3) := by decide +kernel
theorem dX8_countWays_115 : decode cX8_countWays 115 = .ok (.ifCond .eq 26, 3) := by decide +kernel
theorem dX8_countWays_118 : decode cX8_countWays 118 = .ok (.aload_n 0, 1) := by decide +kernel
theorem dX8_countWays_119 : decode cX8_countWays 119 = .ok (.iload_n 2, 1) := by decide +kernel
theorem dX8_countWays_120 : decode cX8_countWays 120 = .ok (.iload_n 3, 1) := by decide +kernel
theorem dX8_countWays_121 : decode cX8_countWays 121 = .ok (.iload 4, 2) := by decide +kernel
theorem dX8_countWays_123 : decode cX8_countWays 123 = .ok (.bipush 20, 2) := by decide +kernel
theorem dX8_countWays_125 : decode cX8_countWays 125 = .ok (.idiv, 1) := by decide +kernel
theorem dX8_countWays_126 : decode cX8_countWays 126 = .ok (.iload 4, 2) := by decide +kernel
theorem dX8_countWays_128 : decode cX8_countWays 128 = .ok (.bipush 20, 2) := by decide +kernel
theorem dX8_countWays_130 : decode cX8_countWays 130 = .ok (.irem, 1) := by decide +kernel
theorem dX8_countWays_131 : decode cX8_countWays 131 = .ok (.invokevirtual 323, 3) := by decide +kernel
theorem dX8_countWays_134 : decode cX8_countWays 134 = .ok (.ifCond .eq 7, 3) := by decide +kernel
theorem dX8_countWays_137 : decode cX8_countWays 137 = .ok (.iconst 1, 1) := by decide +kernel
theorem dX8_countWays_138 : decode cX8_countWays 138 = .ok (.goto 4, 3) := by decide +kernel
theorem dX8_countWays_141 : decode cX8_countWays 141 = .ok (.iconst 0, 1) := by decide +kernel
theorem dX8_countWays_142 : decode cX8_countWays 142 = .ok (.iadd, 1) := by decide +kernel
theorem dX8_countWays_143 : decode cX8_countWays 143 = .ok (.istore_n 1, 1) := by decide +kernel
theorem dX8_countWays_144 : decode cX8_countWays 144 = .ok (.iinc 4 1, 3) := by decide +kernel
theorem dX8_countWays_147 : decode cX8_countWays 147 = .ok (.goto (-72), 3) := by decide +kernel
theorem dX8_countWays_150 : decode cX8_countWays 150 = .ok (.iinc 3 1, 3) := by decide +kernel
theorem dX8_countWays_153 : decode cX8_countWays 153 = .ok (.goto (-124), 3) := by decide +kernel
theorem dX8_countWays_156 : decode cX8_countWays 156 = .ok (.iinc 2 1, 3) := by decide +kernel
theorem dX8_countWays_159 : decode cX8_countWays 159 = .ok (.goto (-140), 3) := by decide +kernel
theorem dX8_countWays_162 : decode cX8_countWays 162 = .ok (.iload_n 1, 1) := by decide +kernel
theorem dX8_countWays_163 : decode cX8_countWays 163 = .ok (.ireturn, 1) := by decide +kernel
theorem dX8_ways_0 : decode cX8_ways 0 = .ok (.aload_n 0, 1) := by decide +kernel
theorem dX8_ways_1 : decode cX8_ways 1 = .ok (.getfield 174, 3) := by decide +kernel
theorem dX8_ways_4 : decode cX8_ways 4 = .ok (.bipush 6, 2) := by decide +kernel
theorem dX8_ways_6 : decode cX8_ways 6 = .ok (.if_icmp .gt 7, 3) := by decide +kernel
theorem dX8_ways_9 : decode cX8_ways 9 = .ok (.iconst 1, 1) := by decide +kernel
theorem dX8_ways_10 : decode cX8_ways 10 = .ok (.goto 4, 3) := by decide +kernel
theorem dX8_ways_13 : decode cX8_ways 13 = .ok (.iconst 0, 1) := by decide +kernel
theorem dX8_ways_14 : decode cX8_ways 14 = .ok (.istore_n 1, 1) := by decide +kernel
theorem dX8_ways_15 : decode cX8_ways 15 = .ok (.iconst 0, 1) := by decide +kernel
theorem dX8_ways_16 : decode cX8_ways 16 = .ok (.istore_n 2, 1) := by decide +kernel
theorem dX8_ways_17 : decode cX8_ways 17 = .ok (.iload_n 2, 1) := by decide +kernel
theorem dX8_ways_18 : decode cX8_ways 18 = .ok (.aload_n 0, 1) := by decide +kernel
theorem dX8_ways_19 : decode cX8_ways 19 = .ok (.getfield 174, 3) := by decide +kernel
theorem dX8_ways_22 : decode cX8_ways 22 = .ok (.if_icmp .ge 48, 3) := by decide +kernel
theorem dX8_ways_25 : decode cX8_ways 25 = .ok (.iload_n 1, 1) := by decide +kernel
theorem dX8_ways_26 : decode cX8_ways 26 = .ok (.ifCond .eq 36, 3) := by decide +kernel
theorem dX8_ways_29 : decode cX8_ways 29 = .ok (.aload_n 0, 1) := by decide +kernel
theorem dX8_ways_30 : decode cX8_ways 30 = .ok (.getfield 44, 3) := by decide +kernel
theorem dX8_ways_33 : decode cX8_ways 33 = .ok (.iload_n 2, 1) := by decide +kernel
theorem dX8_ways_34 : decode cX8_ways 34 = .ok (.iaload, 1) := by decide +kernel
theorem dX8_ways_35 : decode cX8_ways 35 = .ok (.ifCond .eq 23, 3) := by decide +kernel
theorem dX8_ways_38 : decode cX8_ways 38 = .ok (.aload_n 0, 1) := by decide +kernel
theorem dX8_ways_39 : decode cX8_ways 39 = .ok (.getfield 44, 3) := by decide +kernel
theorem dX8_ways_42 : decode cX8_ways 42 = .ok (.iload_n 2, 1) := by decide +kernel
theorem dX8_ways_43 : decode cX8_ways 43 = .ok (.iaload, 1) := by decide +kernel
theorem dX8_ways_44 : decode cX8_ways 44 = .ok (.iconst 1, 1) := by decide +kernel
theorem dX8_ways_45 : decode cX8_ways 45 = .ok (.if_icmp .eq 13, 3) := by decide +kernel
theorem dX8_ways_48 : decode cX8_ways 48 = .ok (.aload_n 0, 1) := by decide +kernel
theorem dX8_ways_49 : decode cX8_ways 49 = .ok (.getfield 44, 3) := by decide +kernel
theorem dX8_ways_52 : decode cX8_ways 52 = .ok (.iload_n 2, 1) := by decide +kernel
theorem dX8_ways_53 : decode cX8_ways 53 = .ok (.iaload, 1) := by decide +kernel
theorem dX8_ways_54 : decode cX8_ways 54 = .ok (.iconst 4, 1) := by decide +kernel
theorem dX8_ways_55 : decode cX8_ways 55 = .ok (.if_icmp .ne 7, 3) := by decide +kernel
theorem dX8_ways_58 : decode cX8_ways 58 = .ok (.iconst 1, 1) := by decide +kernel
theorem dX8_ways_59 : decode cX8_ways 59 = .ok (.goto 4, 3) := by decide +kernel
theorem dX8_ways_62 : decode cX8_ways 62 = .ok (.iconst 0, 1) := by decide +kernel
theorem dX8_ways_63 : decode cX8_ways 63 = .ok (.istore_n 1, 1) := by decide +kernel
theorem dX8_ways_64 : decode cX8_ways 64 = .ok (.iinc 2 1, 3) := by decide +kernel
theorem dX8_ways_67 : decode cX8_ways 67 = .ok (.goto (-50), 3) := by decide +kernel
theorem dX8_ways_70 : decode cX8_ways 70 = .ok (.aload_n 0, 1) := by decide +kernel
theorem dX8_ways_71 : decode cX8_ways 71 = .ok (.iload_n 1, 1) := by decide +kernel
theorem dX8_ways_72 : decode cX8_ways 72 = .ok (.iconst 1, 1) := by decide +kernel
theorem dX8_ways_73 : decode cX8_ways 73 = .ok (.iconst 1, 1) := by decide +kernel
theorem dX8_ways_74 : decode cX8_ways 74 = .ok (.invokevirtual 163, 3) := by decide +kernel
theorem dX8_ways_77 : decode cX8_ways 77 = .ok (.ifCond .ne 5, 3) := by decide +kernel
theorem dX8_ways_80 : decode cX8_ways 80 = .ok (.iconst 0, 1) := by decide +kernel
theorem dX8_ways_81 : decode cX8_ways 81 = .ok (.ireturn, 1) := by decide +kernel
theorem dX8_ways_82 : decode cX8_ways 82 = .ok (.aload_n 0, 1) := by decide +kernel
theorem dX8_ways_83 : decode cX8_ways 83 = .ok (.invokevirtual 330, 3) := by decide +kernel
theorem dX8_ways_86 : decode cX8_ways 86 = .ok (.istore_n 2, 1) := by decide +kernel
theorem dX8_ways_87 : decode cX8_ways 87 = .ok (.aload_n 0, 1) := by decide +kernel
theorem dX8_ways_88 : decode cX8_ways 88 = .ok (.invokevirtual 140, 3) := by decide +kernel
theorem dX8_ways_91 : decode cX8_ways 91 = .ok (.iload_n 2, 1) := by decide +kernel
theorem dX8_ways_92 : decode cX8_ways 92 = .ok (.ireturn, 1) := by decide +kernel
theorem dJ6_bitCount_0f7a4_0 : decode cJ6_bitCount_0f7a4 0 = .ok (.iload_n 0, 1) := by decide +kernel
theorem dJ6_bitCount_0f7a4_1 : decode cJ6_bitCount_0f7a4 1 = .ok (.iload_n 0, 1) := by decide +kernel
theorem dJ6_bitCount_0f7a4_2 : decode cJ6_bitCount_0f7a4 2 = .ok (.iconst 1, 1) := by decide +kernel
theorem dJ6_bitCount_0f7a4_3 : decode cJ6_bitCount_0f7a4 3 = .ok (.iushr, 1) := by decide +kernel
theorem dJ6_bitCount_0f7a4_4 : decode cJ6_bitCount_0f7a4 4 = .ok (.ldc_w 265, 3) := by decide +kernel
theorem dJ6_bitCount_0f7a4_7 : decode cJ6_bitCount_0f7a4 7 = .ok (.iand, 1) := by decide +kernel
theorem dJ6_bitCount_0f7a4_8 : decode cJ6_bitCount_0f7a4 8 = .ok (.isub, 1) := by decide +kernel
theorem dJ6_bitCount_0f7a4_9 : decode cJ6_bitCount_0f7a4 9 = .ok (.istore_n 0, 1) := by decide +kernel
theorem dJ6_bitCount_0f7a4_10 : decode cJ6_bitCount_0f7a4 10 = .ok (.iload_n 0, 1) := by decide +kernel
theorem dJ6_bitCount_0f7a4_11 : decode cJ6_bitCount_0f7a4 11 = .ok (.ldc_w 266, 3) := by decide +kernel
theorem dJ6_bitCount_0f7a4_14 : decode cJ6_bitCount_0f7a4 14 = .ok (.iand, 1) := by decide +kernel
theorem dJ6_bitCount_0f7a4_15 : decode cJ6_bitCount_0f7a4 15 = .ok (.iload_n 0, 1) := by decide +kernel
theorem dJ6_bitCount_0f7a4_16 : decode cJ6_bitCount_0f7a4 16 = .ok (.iconst 2, 1) := by decide +kernel
theorem dJ6_bitCount_0f7a4_17 : decode cJ6_bitCount_0f7a4 17 = .ok (.iushr, 1) := by decide +kernel
theorem dJ6_bitCount_0f7a4_18 : decode cJ6_bitCount_0f7a4 18 = .ok (.ldc_w 266, 3) := by decide +kernel
theorem dJ6_bitCount_0f7a4_21 : decode cJ6_bitCount_0f7a4 21 = .ok (.iand, 1) := by decide +kernel
theorem dJ6_bitCount_0f7a4_22 : decode cJ6_bitCount_0f7a4 22 = .ok (.iadd, 1) := by decide +kernel
theorem dJ6_bitCount_0f7a4_23 : decode cJ6_bitCount_0f7a4 23 = .ok (.istore_n 0, 1) := by decide +kernel
theorem dJ6_bitCount_0f7a4_24 : decode cJ6_bitCount_0f7a4 24 = .ok (.iload_n 0, 1) := by decide +kernel
theorem dJ6_bitCount_0f7a4_25 : decode cJ6_bitCount_0f7a4 25 = .ok (.iload_n 0, 1) := by decide +kernel
theorem dJ6_bitCount_0f7a4_26 : decode cJ6_bitCount_0f7a4 26 = .ok (.iconst 4, 1) := by decide +kernel
theorem dJ6_bitCount_0f7a4_27 : decode cJ6_bitCount_0f7a4 27 = .ok (.iushr, 1) := by decide +kernel
theorem dJ6_bitCount_0f7a4_28 : decode cJ6_bitCount_0f7a4 28 = .ok (.iadd, 1) := by decide +kernel
theorem dJ6_bitCount_0f7a4_29 : decode cJ6_bitCount_0f7a4 29 = .ok (.ldc_w 267, 3) := by decide +kernel
theorem dJ6_bitCount_0f7a4_32 : decode cJ6_bitCount_0f7a4 32 = .ok (.iand, 1) := by decide +kernel
theorem dJ6_bitCount_0f7a4_33 : decode cJ6_bitCount_0f7a4 33 = .ok (.istore_n 0, 1) := by decide +kernel
theorem dJ6_bitCount_0f7a4_34 : decode cJ6_bitCount_0f7a4 34 = .ok (.iload_n 0, 1) := by decide +kernel
theorem dJ6_bitCount_0f7a4_35 : decode cJ6_bitCount_0f7a4 35 = .ok (.iload_n 0, 1) := by decide +kernel
theorem dJ6_bitCount_0f7a4_36 : decode cJ6_bitCount_0f7a4 36 = .ok (.bipush 8, 2) := by decide +kernel
theorem dJ6_bitCount_0f7a4_38 : decode cJ6_bitCount_0f7a4 38 = .ok (.iushr, 1) := by decide +kernel
theorem dJ6_bitCount_0f7a4_39 : decode cJ6_bitCount_0f7a4 39 = .ok (.iadd, 1) := by decide +kernel
theorem dJ6_bitCount_0f7a4_40 : decode cJ6_bitCount_0f7a4 40 = .ok (.istore_n 0, 1) := by decide +kernel
theorem dJ6_bitCount_0f7a4_41 : decode cJ6_bitCount_0f7a4 41 = .ok (.iload_n 0, 1) := by decide +kernel
theorem dJ6_bitCount_0f7a4_42 : decode cJ6_bitCount_0f7a4 42 = .ok (.iload_n 0, 1) := by decide +kernel
theorem dJ6_bitCount_0f7a4_43 : decode cJ6_bitCount_0f7a4 43 = .ok (.bipush 16, 2) := by decide +kernel
theorem dJ6_bitCount_0f7a4_45 : decode cJ6_bitCount_0f7a4 45 = .ok (.iushr, 1) := by decide +kernel
theorem dJ6_bitCount_0f7a4_46 : decode cJ6_bitCount_0f7a4 46 = .ok (.iadd, 1) := by decide +kernel
theorem dJ6_bitCount_0f7a4_47 : decode cJ6_bitCount_0f7a4 47 = .ok (.istore_n 0, 1) := by decide +kernel
theorem dJ6_bitCount_0f7a4_48 : decode cJ6_bitCount_0f7a4 48 = .ok (.iload_n 0, 1) := by decide +kernel
theorem dJ6_bitCount_0f7a4_49 : decode cJ6_bitCount_0f7a4 49 = .ok (.bipush 63, 2) := by decide +kernel
theorem dJ6_bitCount_0f7a4_51 : decode cJ6_bitCount_0f7a4 51 = .ok (.iand, 1) := by decide +kernel
theorem dJ6_bitCount_0f7a4_52 : decode cJ6_bitCount_0f7a4 52 = .ok (.ireturn, 1) := by decide +kernel
theorem dL_slot_0 : decode cL_slot 0 = .ok (.aload 5, 2) := by decide +kernel
theorem dL_slot_2 : decode cL_slot 2 = .ok (.iconst 0, 1) := by decide +kernel
theorem dL_slot_3 : decode cL_slot 3 = .ok (.aload_n 0, 1) := by decide +kernel
theorem dL_slot_4 : decode cL_slot 4 = .ok (.iload_n 1, 1) := by decide +kernel
theorem dL_slot_5 : decode cL_slot 5 = .ok (.iload_n 2, 1) := by decide +kernel
theorem dL_slot_6 : decode cL_slot 6 = .ok (.iload_n 3, 1) := by decide +kernel
theorem dL_slot_7 : decode cL_slot 7 = .ok (.iload 4, 2) := by decide +kernel
theorem dL_slot_9 : decode cL_slot 9 = .ok (.invokevirtual 7, 3) := by decide +kernel
theorem dL_slot_12 : decode cL_slot 12 = .ok (.i2l, 1) := by decide +kernel
theorem dL_slot_13 : decode cL_slot 13 = .ok (.lastore, 1) := by decide +kernel
theorem dL_slot_14 : decode cL_slot 14 = .ok (.goto 15, 3) := by decide +kernel
theorem dL_slot_17 : decode cL_slot 17 = .ok (.astore 6, 2) := by decide +kernel
theorem dL_slot_19 : decode cL_slot 19 = .ok (.iconst 1, 1) := by decide +kernel
theorem dL_slot_20 : decode cL_slot 20 = .ok (.ireturn, 1) := by decide +kernel
theorem dL_slot_21 : decode cL_slot 21 = .ok (.astore 6, 2) := by decide +kernel
theorem dL_slot_23 : decode cL_slot 23 = .ok (.iconst 2, 1) := by decide +kernel
theorem dL_slot_24 : decode cL_slot 24 = .ok (.ireturn, 1) := by decide +kernel
theorem dL_slot_25 : decode cL_slot 25 = .ok (.astore 6, 2) := by decide +kernel
theorem dL_slot_27 : decode cL_slot 27 = .ok (.iconst 3, 1) := by decide +kernel
theorem dL_slot_28 : decode cL_slot 28 = .ok (.ireturn, 1) := by decide +kernel
theorem dL_slot_29 : decode cL_slot 29 = .ok (.iconst 0, 1) := by decide +kernel
theorem dL_slot_30 : decode cL_slot 30 = .ok (.ireturn, 1) := by decide +kernel
theorem dL_empty_0 : decode cL_empty 0 = .ok (.aload_n 2, 1) := by decide +kernel
theorem dL_empty_1 : decode cL_empty 1 = .ok (.iconst 0, 1) := by decide +kernel
theorem dL_empty_2 : decode cL_empty 2 = .ok (.aload_n 0, 1) := by decide +kernel
theorem dL_empty_3 : decode cL_empty 3 = .ok (.iload_n 1, 1) := by decide +kernel
theorem dL_empty_4 : decode cL_empty 4 = .ok (.invokevirtual 19, 3) := by decide +kernel
theorem dL_empty_7 : decode cL_empty 7 = .ok (.i2l, 1) := by decide +kernel
theorem dL_empty_8 : decode cL_empty 8 = .ok (.lastore, 1) := by decide +kernel
theorem dL_empty_9 : decode cL_empty 9 = .ok (.goto 6, 3) := by decide +kernel
theorem dL_empty_12 : decode cL_empty 12 = .ok (.astore_n 3, 1) := by decide +kernel
theorem dL_empty_13 : decode cL_empty 13 = .ok (.iconst 1, 1) := by decide +kernel
theorem dL_empty_14 : decode cL_empty 14 = .ok (.ireturn, 1) := by decide +kernel
theorem dL_empty_15 : decode cL_empty 15 = .ok (.iconst 0, 1) := by decide +kernel
theorem dL_empty_16 : decode cL_empty 16 = .ok (.ireturn, 1) := by decide +kernel
theorem dL_except_0 : decode cL_except 0 = .ok (.aload_n 0, 1) := by decide +kernel
theorem dL_except_1 : decode cL_except 1 = .ok (.iload_n 1, 1) := by decide +kernel
theorem dL_except_2 : decode cL_except 2 = .ok (.iload_n 2, 1) := by decide +kernel
theorem dL_except_3 : decode cL_except 3 = .ok (.iload_n 3, 1) := by decide +kernel
theorem dL_except_4 : decode cL_except 4 = .ok (.invokevirtual 23, 3) := by decide +kernel
theorem dL_except_7 : decode cL_except 7 = .ok (.goto 11, 3) := by decide +kernel
theorem dL_except_10 : decode cL_except 10 = .ok (.astore 4, 2) := by decide +kernel
theorem dL_except_12 : decode cL_except 12 = .ok (.iconst 1, 1) := by decide +kernel
theorem dL_except_13 : decode cL_except 13 = .ok (.ireturn, 1) := by decide +kernel
theorem dL_except_14 : decode cL_except 14 = .ok (.astore 4, 2) := by decide +kernel
theorem dL_except_16 : decode cL_except 16 = .ok (.iconst 2, 1) := by decide +kernel
theorem dL_except_17 : decode cL_except 17 = .ok (.ireturn, 1) := by decide +kernel
theorem dL_except_18 : decode cL_except 18 = .ok (.iconst 0, 1) := by decide +kernel
theorem dL_except_19 : decode cL_except 19 = .ok (.ireturn, 1) := by decide +kernel
theorem dL_omit_0 : decode cL_omit 0 = .ok (.aload_n 0, 1) := by decide +kernel
theorem dL_omit_1 : decode cL_omit 1 = .ok (.iload_n 1, 1) := by decide +kernel
theorem dL_omit_2 : decode cL_omit 2 = .ok (.iload_n 2, 1) := by decide +kernel
theorem dL_omit_3 : decode cL_omit 3 = .ok (.iload_n 3, 1) := by decide +kernel
theorem dL_omit_4 : decode cL_omit 4 = .ok (.invokevirtual 27, 3) := by decide +kernel
theorem dL_omit_7 : decode cL_omit 7 = .ok (.goto 7, 3) := by decide +kernel
theorem dL_omit_10 : decode cL_omit 10 = .ok (.astore 4, 2) := by decide +kernel
theorem dL_omit_12 : decode cL_omit 12 = .ok (.iconst 1, 1) := by decide +kernel
theorem dL_omit_13 : decode cL_omit 13 = .ok (.ireturn, 1) := by decide +kernel
theorem dL_omit_14 : decode cL_omit 14 = .ok (.iconst 0, 1) := by decide +kernel
theorem dL_omit_15 : decode cL_omit 15 = .ok (.ireturn, 1) := by decide +kernel
theorem dL_entity_0 : decode cL_entity 0 = .ok (.aload 4, 2) := by decide +kernel
theorem dL_entity_2 : decode cL_entity 2 = .ok (.iconst 0, 1) := by decide +kernel
theorem dL_entity_3 : decode cL_entity 3 = .ok (.aload_n 0, 1) := by decide +kernel
theorem dL_entity_4 : decode cL_entity 4 = .ok (.iload_n 1, 1) := by decide +kernel
theorem dL_entity_5 : decode cL_entity 5 = .ok (.iload_n 2, 1) := by decide +kernel
theorem dL_entity_6 : decode cL_entity 6 = .ok (.iload_n 3, 1) := by decide +kernel
theorem dL_entity_7 : decode cL_entity 7 = .ok (.invokevirtual 31, 3) := by decide +kernel
theorem dL_entity_10 : decode cL_entity 10 = .ok (.i2l, 1) := by decide +kernel
theorem dL_entity_11 : decode cL_entity 11 = .ok (.lastore, 1) := by decide +kernel
theorem dL_entity_12 : decode cL_entity 12 = .ok (.goto 15, 3) := by decide +kernel
theorem dL_entity_15 : decode cL_entity 15 = .ok (.astore 5, 2) := by decide +kernel
theorem dL_entity_17 : decode cL_entity 17 = .ok (.iconst 1, 1) := by decide +kernel
theorem dL_entity_18 : decode cL_entity 18 = .ok (.ireturn, 1) := by decide +kernel
theorem dL_entity_19 : decode cL_entity 19 = .ok (.astore 5, 2) := by decide +kernel
theorem dL_entity_21 : decode cL_entity 21 = .ok (.iconst 2, 1) := by decide +kernel
theorem dL_entity_22 : decode cL_entity 22 = .ok (.ireturn, 1) := by decide +kernel
theorem dL_entity_23 : decode cL_entity 23 = .ok (.astore 5, 2) := by decide +kernel
theorem dL_entity_25 : decode cL_entity 25 = .ok (.iconst 3, 1) := by decide +kernel
theorem dL_entity_26 : decode cL_entity 26 = .ok (.ireturn, 1) := by decide +kernel
theorem dL_entity_27 : decode cL_entity 27 = .ok (.iconst 0, 1) := by decide +kernel
theorem dL_entity_28 : decode cL_entity 28 = .ok (.ireturn, 1) := by decide +kernel
theorem dL_clear_0 : decode cL_clear 0 = .ok (.aload_n 2, 1) := by decide +kernel
theorem dL_clear_1 : decode cL_clear 1 = .ok (.iconst 0, 1) := by decide +kernel
theorem dL_clear_2 : decode cL_clear 2 = .ok (.aload_n 0, 1) := by decide +kernel
theorem dL_clear_3 : decode cL_clear 3 = .ok (.iload_n 1, 1) := by decide +kernel
theorem dL_clear_4 : decode cL_clear 4 = .ok (.invokevirtual 35, 3) := by decide +kernel
theorem dL_clear_7 : decode cL_clear 7 = .ok (.i2l, 1) := by decide +kernel
theorem dL_clear_8 : decode cL_clear 8 = .ok (.lastore, 1) := by decide +kernel
theorem dL_clear_9 : decode cL_clear 9 = .ok (.goto 6, 3) := by decide +kernel
theorem dL_clear_12 : decode cL_clear 12 = .ok (.astore_n 3, 1) := by decide +kernel
theorem dL_clear_13 : decode cL_clear 13 = .ok (.iconst 1, 1) := by decide +kernel
theorem dL_clear_14 : decode cL_clear 14 = .ok (.ireturn, 1) := by decide +kernel
theorem dL_clear_15 : decode cL_clear 15 = .ok (.iconst 0, 1) := by decide +kernel
theorem dL_clear_16 : decode cL_clear 16 = .ok (.ireturn, 1) := by decide +kernel
theorem dL_flip_0 : decode cL_flip 0 = .ok (.aload_n 3, 1) := by decide +kernel
theorem dL_flip_1 : decode cL_flip 1 = .ok (.iconst 0, 1) := by decide +kernel
theorem dL_flip_2 : decode cL_flip 2 = .ok (.aload_n 0, 1) := by decide +kernel
theorem dL_flip_3 : decode cL_flip 3 = .ok (.iload_n 1, 1) := by decide +kernel
theorem dL_flip_4 : decode cL_flip 4 = .ok (.iload_n 2, 1) := by decide +kernel
theorem dL_flip_5 : decode cL_flip 5 = .ok (.invokevirtual 38, 3) := by decide +kernel
theorem dL_flip_8 : decode cL_flip 8 = .ok (.i2l, 1) := by decide +kernel
theorem dL_flip_9 : decode cL_flip 9 = .ok (.lastore, 1) := by decide +kernel
theorem dL_flip_10 : decode cL_flip 10 = .ok (.goto 11, 3) := by decide +kernel
theorem dL_flip_13 : decode cL_flip 13 = .ok (.astore 4, 2) := by decide +kernel
theorem dL_flip_15 : decode cL_flip 15 = .ok (.iconst 1, 1) := by decide +kernel
theorem dL_flip_16 : decode cL_flip 16 = .ok (.ireturn, 1) := by decide +kernel
theorem dL_flip_17 : decode cL_flip 17 = .ok (.astore 4, 2) := by decide +kernel
theorem dL_flip_19 : decode cL_flip 19 = .ok (.iconst 2, 1) := by decide +kernel
theorem dL_flip_20 : decode cL_flip 20 = .ok (.ireturn, 1) := by decide +kernel
theorem dL_flip_21 : decode cL_flip 21 = .ok (.iconst 0, 1) := by decide +kernel
theorem dL_flip_22 : decode cL_flip 22 = .ok (.ireturn, 1) := by decide +kernel
theorem dL_insert_0 : decode cL_insert 0 = .ok (.aload 4, 2) := by decide +kernel
theorem dL_insert_2 : decode cL_insert 2 = .ok (.iconst 0, 1) := by decide +kernel
theorem dL_insert_3 : decode cL_insert 3 = .ok (.aload_n 0, 1) := by decide +kernel
theorem dL_insert_4 : decode cL_insert 4 = .ok (.iload_n 1, 1) := by decide +kernel
theorem dL_insert_5 : decode cL_insert 5 = .ok (.iload_n 2, 1) := by decide +kernel
theorem dL_insert_6 : decode cL_insert 6 = .ok (.iload_n 3, 1) := by decide +kernel
theorem dL_insert_7 : decode cL_insert 7 = .ok (.invokevirtual 42, 3) := by decide +kernel
theorem dL_insert_10 : decode cL_insert 10 = .ok (.i2l, 1) := by decide +kernel
theorem dL_insert_11 : decode cL_insert 11 = .ok (.lastore, 1) := by decide +kernel
theorem dL_insert_12 : decode cL_insert 12 = .ok (.goto 15, 3) := by decide +kernel
theorem dL_insert_15 : decode cL_insert 15 = .ok (.astore 5, 2) := by decide +kernel
theorem dL_insert_17 : decode cL_insert 17 = .ok (.iconst 1, 1) := by decide +kernel
theorem dL_insert_18 : decode cL_insert 18 = .ok (.ireturn, 1) := by decide +kernel
theorem dL_insert_19 : decode cL_insert 19 = .ok (.astore 5, 2) := by decide +kernel
theorem dL_insert_21 : decode cL_insert 21 = .ok (.iconst 2, 1) := by decide +kernel
theorem dL_insert_22 : decode cL_insert 22 = .ok (.ireturn, 1) := by decide +kernel
theorem dL_insert_23 : decode cL_insert 23 = .ok (.astore 5, 2) := by decide +kernel
theorem dL_insert_25 : decode cL_insert 25 = .ok (.iconst 3, 1) := by decide +kernel
theorem dL_insert_26 : decode cL_insert 26 = .ok (.ireturn, 1) := by decide +kernel
theorem dL_insert_27 : decode cL_insert 27 = .ok (.iconst 0, 1) := by decide +kernel
theorem dL_insert_28 : decode cL_insert 28 = .ok (.ireturn, 1) := by decide +kernel
theorem dL_erase_0 : decode cL_erase 0 = .ok (.aload_n 2, 1) := by decide +kernel
theorem dL_erase_1 : decode cL_erase 1 = .ok (.iconst 0, 1) := by decide +kernel
theorem dL_erase_2 : decode cL_erase 2 = .ok (.aload_n 0, 1) := by decide +kernel
theorem dL_erase_3 : decode cL_erase 3 = .ok (.iload_n 1, 1) := by decide +kernel
theorem dL_erase_4 : decode cL_erase 4 = .ok (.invokevirtual 45, 3) := by decide +kernel
theorem dL_erase_7 : decode cL_erase 7 = .ok (.i2l, 1) := by decide +kernel
theorem dL_erase_8 : decode cL_erase 8 = .ok (.lastore, 1) := by decide +kernel
theorem dL_erase_9 : decode cL_erase 9 = .ok (.goto 6, 3) := by decide +kernel
theorem dL_erase_12 : decode cL_erase 12 = .ok (.astore_n 3, 1) := by decide +kernel
theorem dL_erase_13 : decode cL_erase 13 = .ok (.iconst 1, 1) := by decide +kernel
theorem dL_erase_14 : decode cL_erase 14 = .ok (.ireturn, 1) := by decide +kernel
theorem dL_erase_15 : decode cL_erase 15 = .ok (.iconst 0, 1) := by decide +kernel
theorem dL_erase_16 : decode cL_erase 16 = .ok (.ireturn, 1) := by decide +kernel
theorem dL_normalize_0 : decode cL_normalize 0 = .ok (.aload_n 1, 1) := by decide +kernel
theorem dL_normalize_1 : decode cL_normalize 1 = .ok (.iconst 0, 1) := by decide +kernel
theorem dL_normalize_2 : decode cL_normalize 2 = .ok (.aload_n 0, 1) := by decide +kernel
theorem dL_normalize_3 : decode cL_normalize 3 = .ok (.invokevirtual 48, 3) := by decide +kernel
theorem dL_normalize_6 : decode cL_normalize 6 = .ok (.i2l, 1) := by decide +kernel
theorem dL_normalize_7 : decode cL_normalize 7 = .ok (.lastore, 1) := by decide +kernel
theorem dL_normalize_8 : decode cL_normalize 8 = .ok (.goto 6, 3) := by decide +kernel
theorem dL_normalize_11 : decode cL_normalize 11 = .ok (.astore_n 2, 1) := by decide +kernel
theorem dL_normalize_12 : decode cL_normalize 12 = .ok (.iconst 1, 1) := by decide +kernel
theorem dL_normalize_13 : decode cL_normalize 13 = .ok (.ireturn, 1) := by decide +kernel
theorem dL_normalize_14 : decode cL_normalize 14 = .ok (.iconst 0, 1) := by decide +kernel
theorem dL_normalize_15 : decode cL_normalize 15 = .ok (.ireturn, 1) := by decide +kernel
theorem dL_open_0 : decode cL_open 0 = .ok (.aload_n 2, 1) := by decide +kernel
theorem dL_open_1 : decode cL_open 1 = .ok (.iconst 0, 1) := by decide +kernel
theorem dL_open_2 : decode cL_open 2 = .ok (.aload_n 0, 1) := by decide +kernel
theorem dL_open_3 : decode cL_open 3 = .ok (.iload_n 1, 1) := by decide +kernel
theorem dL_open_4 : decode cL_open 4 = .ok (.invokevirtual 52, 3) := by decide +kernel
theorem dL_open_7 : decode cL_open 7 = .ok (.i2l, 1) := by decide +kernel
theorem dL_open_8 : decode cL_open 8 = .ok (.lastore, 1) := by decide +kernel
theorem dL_open_9 : decode cL_open 9 = .ok (.goto 6, 3) := by decide +kernel
theorem dL_open_12 : decode cL_open 12 = .ok (.astore_n 3, 1) := by decide +kernel
theorem dL_open_13 : decode cL_open 13 = .ok (.iconst 1, 1) := by decide +kernel
theorem dL_open_14 : decode cL_open 14 = .ok (.ireturn, 1) := by decide +kernel
theorem dL_open_15 : decode cL_open 15 = .ok (.iconst 0, 1) := by decide +kernel
theorem dL_open_16 : decode cL_open 16 = .ok (.ireturn, 1) := by decide +kernel
theorem dL_current_0 : decode cL_current 0 = .ok (.aload_n 2, 1) := by decide +kernel
theorem dL_current_1 : decode cL_current 1 = .ok (.iconst 0, 1) := by decide +kernel
theorem dL_current_2 : decode cL_current 2 = .ok (.aload_n 0, 1) := by decide +kernel
theorem dL_current_3 : decode cL_current 3 = .ok (.iload_n 1, 1) := by decide +kernel
theorem dL_current_4 : decode cL_current 4 = .ok (.invokevirtual 55, 3) := by decide +kernel
theorem dL_current_7 : decode cL_current 7 = .ok (.i2l, 1) := by decide +kernel
theorem dL_current_8 : decode cL_current 8 = .ok (.lastore, 1) := by decide +kernel
theorem dL_current_9 : decode cL_current 9 = .ok (.goto 6, 3) := by decide +kernel
theorem dL_current_12 : decode cL_current 12 = .ok (.astore_n 3, 1) := by decide +kernel
theorem dL_current_13 : decode cL_current 13 = .ok (.iconst 1, 1) := by decide +kernel
theorem dL_current_14 : decode cL_current 14 = .ok (.ireturn, 1) := by decide +kernel
theorem dL_current_15 : decode cL_current 15 = .ok (.iconst 0, 1) := by decide +kernel
theorem dL_current_16 : decode cL_current 16 = .ok (.ireturn, 1) := by decide +kernel
theorem dL_next_0 : decode cL_next 0 = .ok (.aload_n 2, 1) := by decide +kernel
theorem dL_next_1 : decode cL_next 1 = .ok (.iconst 0, 1) := by decide +kernel
theorem dL_next_2 : decode cL_next 2 = .ok (.aload_n 0, 1) := by decide +kernel
theorem dL_next_3 : decode cL_next 3 = .ok (.iload_n 1, 1) := by decide +kernel
theorem dL_next_4 : decode cL_next 4 = .ok (.invokevirtual 58, 3) := by decide +kernel
theorem dL_next_7 : decode cL_next 7 = .ok (.i2l, 1) := by decide +kernel
theorem dL_next_8 : decode cL_next 8 = .ok (.lastore, 1) := by decide +kernel
theorem dL_next_9 : decode cL_next 9 = .ok (.goto 6, 3) := by decide +kernel
theorem dL_next_12 : decode cL_next 12 = .ok (.astore_n 3, 1) := by decide +kernel
theorem dL_next_13 : decode cL_next 13 = .ok (.iconst 1, 1) := by decide +kernel
theorem dL_next_14 : decode cL_next 14 = .ok (.ireturn, 1) := by decide +kernel
theorem dL_next_15 : decode cL_next 15 = .ok (.iconst 0, 1) := by decide +kernel
theorem dL_next_16 : decode cL_next 16 = .ok (.ireturn, 1) := by decide +kernel
theorem dL_kind_0 : decode cL_kind 0 = .ok (.aload_n 2, 1) := by decide +kernel
theorem dL_kind_1 : decode cL_kind 1 = .ok (.iconst 0, 1) := by decide +kernel
theorem dL_kind_2 : decode cL_kind 2 = .ok (.aload_n 0, 1) := by decide +kernel
theorem dL_kind_3 : decode cL_kind 3 = .ok (.iload_n 1, 1) := by decide +kernel
theorem dL_kind_4 : decode cL_kind 4 = .ok (.invokevirtual 61, 3) := by decide +kernel
theorem dL_kind_7 : decode cL_kind 7 = .ok (.i2l, 1) := by decide +kernel
theorem dL_kind_8 : decode cL_kind 8 = .ok (.lastore, 1) := by decide +kernel
theorem dL_kind_9 : decode cL_kind 9 = .ok (.goto 6, 3) := by decide +kernel
theorem dL_kind_12 : decode cL_kind 12 = .ok (.astore_n 3, 1) := by decide +kernel
theorem dL_kind_13 : decode cL_kind 13 = .ok (.iconst 1, 1) := by decide +kernel
theorem dL_kind_14 : decode cL_kind 14 = .ok (.ireturn, 1) := by decide +kernel
theorem dL_kind_15 : decode cL_kind 15 = .ok (.iconst 0, 1) := by decide +kernel
theorem dL_kind_16 : decode cL_kind 16 = .ok (.ireturn, 1) := by decide +kernel
theorem dL_parent_0 : decode cL_parent 0 = .ok (.aload_n 2, 1) := by decide +kernel
theorem dL_parent_1 : decode cL_parent 1 = .ok (.iconst 0, 1) := by decide +kernel
theorem dL_parent_2 : decode cL_parent 2 = .ok (.aload_n 0, 1) := by decide +kernel
theorem dL_parent_3 : decode cL_parent 3 = .ok (.iload_n 1, 1) := by decide +kernel
theorem dL_parent_4 : decode cL_parent 4 = .ok (.invokevirtual 64, 3) := by decide +kernel
theorem dL_parent_7 : decode cL_parent 7 = .ok (.i2l, 1) := by decide +kernel
theorem dL_parent_8 : decode cL_parent 8 = .ok (.lastore, 1) := by decide +kernel
theorem dL_parent_9 : decode cL_parent 9 = .ok (.goto 6, 3) := by decide +kernel
theorem dL_parent_12 : decode cL_parent 12 = .ok (.astore_n 3, 1) := by decide +kernel
theorem dL_parent_13 : decode cL_parent 13 = .ok (.iconst 1, 1) := by decide +kernel
theorem dL_parent_14 : decode cL_parent 14 = .ok (.ireturn, 1) := by decide +kernel
theorem dL_parent_15 : decode cL_parent 15 = .ok (.iconst 0, 1) := by decide +kernel
theorem dL_parent_16 : decode cL_parent 16 = .ok (.ireturn, 1) := by decide +kernel
theorem dL_letter_0 : decode cL_letter 0 = .ok (.aload_n 2, 1) := by decide +kernel
theorem dL_letter_1 : decode cL_letter 1 = .ok (.iconst 0, 1) := by decide +kernel
theorem dL_letter_2 : decode cL_letter 2 = .ok (.aload_n 0, 1) := by decide +kernel
theorem dL_letter_3 : decode cL_letter 3 = .ok (.iload_n 1, 1) := by decide +kernel
theorem dL_letter_4 : decode cL_letter 4 = .ok (.invokevirtual 67, 3) := by decide +kernel
theorem dL_letter_7 : decode cL_letter 7 = .ok (.i2l, 1) := by decide +kernel
theorem dL_letter_8 : decode cL_letter 8 = .ok (.lastore, 1) := by decide +kernel
theorem dL_letter_9 : decode cL_letter 9 = .ok (.goto 6, 3) := by decide +kernel
theorem dL_letter_12 : decode cL_letter 12 = .ok (.astore_n 3, 1) := by decide +kernel
theorem dL_letter_13 : decode cL_letter 13 = .ok (.iconst 1, 1) := by decide +kernel
theorem dL_letter_14 : decode cL_letter 14 = .ok (.ireturn, 1) := by decide +kernel
theorem dL_letter_15 : decode cL_letter 15 = .ok (.iconst 0, 1) := by decide +kernel
theorem dL_letter_16 : decode cL_letter 16 = .ok (.ireturn, 1) := by decide +kernel
theorem dL_placeOf_0 : decode cL_placeOf 0 = .ok (.aload_n 2, 1) := by decide +kernel
theorem dL_placeOf_1 : decode cL_placeOf 1 = .ok (.iconst 0, 1) := by decide +kernel
theorem dL_placeOf_2 : decode cL_placeOf 2 = .ok (.aload_n 0, 1) := by decide +kernel
theorem dL_placeOf_3 : decode cL_placeOf 3 = .ok (.iload_n 1, 1) := by decide +kernel
theorem dL_placeOf_4 : decode cL_placeOf 4 = .ok (.invokevirtual 71, 3) := by decide +kernel
theorem dL_placeOf_7 : decode cL_placeOf 7 = .ok (.i2l, 1) := by decide +kernel
theorem dL_placeOf_8 : decode cL_placeOf 8 = .ok (.lastore, 1) := by decide +kernel
theorem dL_placeOf_9 : decode cL_placeOf 9 = .ok (.goto 6, 3) := by decide +kernel
theorem dL_placeOf_12 : decode cL_placeOf 12 = .ok (.astore_n 3, 1) := by decide +kernel
theorem dL_placeOf_13 : decode cL_placeOf 13 = .ok (.iconst 1, 1) := by decide +kernel
theorem dL_placeOf_14 : decode cL_placeOf 14 = .ok (.ireturn, 1) := by decide +kernel
theorem dL_placeOf_15 : decode cL_placeOf 15 = .ok (.iconst 0, 1) := by decide +kernel
theorem dL_placeOf_16 : decode cL_placeOf 16 = .ok (.ireturn, 1) := by decide +kernel
theorem dL_isPutIn_0 : decode cL_isPutIn 0 = .ok (.aload_n 2, 1) := by decide +kernel
theorem dL_isPutIn_1 : decode cL_isPutIn 1 = .ok (.iconst 0, 1) := by decide +kernel
theorem dL_isPutIn_2 : decode cL_isPutIn 2 = .ok (.aload_n 0, 1) := by decide +kernel
theorem dL_isPutIn_3 : decode cL_isPutIn 3 = .ok (.iload_n 1, 1) := by decide +kernel
theorem dL_isPutIn_4 : decode cL_isPutIn 4 = .ok (.invokevirtual 74, 3) := by decide +kernel
theorem dL_isPutIn_7 : decode cL_isPutIn 7 = .ok (.ifCond .eq 7, 3) := by decide +kernel
theorem dL_isPutIn_10 : decode cL_isPutIn 10 = .ok (.lconst 1, 1) := by decide +kernel
theorem dL_isPutIn_11 : decode cL_isPutIn 11 = .ok (.goto 4, 3) := by decide +kernel
theorem dL_isPutIn_14 : decode cL_isPutIn 14 = .ok (.lconst 0, 1) := by decide +kernel
theorem dL_isPutIn_15 : decode cL_isPutIn 15 = .ok (.lastore, 1) := by decide +kernel
theorem dL_isPutIn_16 : decode cL_isPutIn 16 = .ok (.goto 6, 3) := by decide +kernel
theorem dL_isPutIn_19 : decode cL_isPutIn 19 = .ok (.astore_n 3, 1) := by decide +kernel
theorem dL_isPutIn_20 : decode cL_isPutIn 20 = .ok (.iconst 1, 1) := by decide +kernel
theorem dL_isPutIn_21 : decode cL_isPutIn 21 = .ok (.ireturn, 1) := by decide +kernel
theorem dL_isPutIn_22 : decode cL_isPutIn 22 = .ok (.iconst 0, 1) := by decide +kernel
theorem dL_isPutIn_23 : decode cL_isPutIn 23 = .ok (.ireturn, 1) := by decide +kernel
theorem dL_errorKind_0 : decode cL_errorKind 0 = .ok (.aload_n 2, 1) := by decide +kernel
theorem dL_errorKind_1 : decode cL_errorKind 1 = .ok (.iconst 0, 1) := by decide +kernel
theorem dL_errorKind_2 : decode cL_errorKind 2 = .ok (.aload_n 0, 1) := by decide +kernel
theorem dL_errorKind_3 : decode cL_errorKind 3 = .ok (.iload_n 1, 1) := by decide +kernel
theorem dL_errorKind_4 : decode cL_errorKind 4 = .ok (.invokevirtual 78, 3) := by decide +kernel
theorem dL_errorKind_7 : decode cL_errorKind 7 = .ok (.i2l, 1) := by decide +kernel
theorem dL_errorKind_8 : decode cL_errorKind 8 = .ok (.lastore, 1) := by decide +kernel
theorem dL_errorKind_9 : decode cL_errorKind 9 = .ok (.goto 6, 3) := by decide +kernel
theorem dL_errorKind_12 : decode cL_errorKind 12 = .ok (.astore_n 3, 1) := by decide +kernel
theorem dL_errorKind_13 : decode cL_errorKind 13 = .ok (.iconst 1, 1) := by decide +kernel
theorem dL_errorKind_14 : decode cL_errorKind 14 = .ok (.ireturn, 1) := by decide +kernel
theorem dL_errorKind_15 : decode cL_errorKind 15 = .ok (.iconst 0, 1) := by decide +kernel
theorem dL_errorKind_16 : decode cL_errorKind 16 = .ok (.ireturn, 1) := by decide +kernel
theorem dL_errorAt_0 : decode cL_errorAt 0 = .ok (.aload_n 2, 1) := by decide +kernel
theorem dL_errorAt_1 : decode cL_errorAt 1 = .ok (.iconst 0, 1) := by decide +kernel
theorem dL_errorAt_2 : decode cL_errorAt 2 = .ok (.aload_n 0, 1) := by decide +kernel
theorem dL_errorAt_3 : decode cL_errorAt 3 = .ok (.iload_n 1, 1) := by decide +kernel
theorem dL_errorAt_4 : decode cL_errorAt 4 = .ok (.invokevirtual 81, 3) := by decide +kernel
theorem dL_errorAt_7 : decode cL_errorAt 7 = .ok (.i2l, 1) := by decide +kernel
theorem dL_errorAt_8 : decode cL_errorAt 8 = .ok (.lastore, 1) := by decide +kernel
theorem dL_errorAt_9 : decode cL_errorAt 9 = .ok (.goto 6, 3) := by decide +kernel
theorem dL_errorAt_12 : decode cL_errorAt 12 = .ok (.astore_n 3, 1) := by decide +kernel
theorem dL_errorAt_13 : decode cL_errorAt 13 = .ok (.iconst 1, 1) := by decide +kernel
theorem dL_errorAt_14 : decode cL_errorAt 14 = .ok (.ireturn, 1) := by decide +kernel
theorem dL_errorAt_15 : decode cL_errorAt 15 = .ok (.iconst 0, 1) := by decide +kernel
theorem dL_errorAt_16 : decode cL_errorAt 16 = .ok (.ireturn, 1) := by decide +kernel
theorem dL_normalSort_0 : decode cL_normalSort 0 = .ok (.aload_n 2, 1) := by decide +kernel
theorem dL_normalSort_1 : decode cL_normalSort 1 = .ok (.iconst 0, 1) := by decide +kernel
theorem dL_normalSort_2 : decode cL_normalSort 2 = .ok (.aload_n 0, 1) := by decide +kernel
theorem dL_normalSort_3 : decode cL_normalSort 3 = .ok (.iload_n 1, 1) := by decide +kernel
theorem dL_normalSort_4 : decode cL_normalSort 4 = .ok (.invokevirtual 84, 3) := by decide +kernel
theorem dL_normalSort_7 : decode cL_normalSort 7 = .ok (.i2l, 1) := by decide +kernel
theorem dL_normalSort_8 : decode cL_normalSort 8 = .ok (.lastore, 1) := by decide +kernel
theorem dL_normalSort_9 : decode cL_normalSort 9 = .ok (.goto 6, 3) := by decide +kernel
theorem dL_normalSort_12 : decode cL_normalSort 12 = .ok (.astore_n 3, 1) := by decide +kernel
theorem dL_normalSort_13 : decode cL_normalSort 13 = .ok (.iconst 1, 1) := by decide +kernel
theorem dL_normalSort_14 : decode cL_normalSort 14 = .ok (.ireturn, 1) := by decide +kernel
theorem dL_normalSort_15 : decode cL_normalSort 15 = .ok (.iconst 0, 1) := by decide +kernel
theorem dL_normalSort_16 : decode cL_normalSort 16 = .ok (.ireturn, 1) := by decide +kernel
theorem dL_normalValue_0 : decode cL_normalValue 0 = .ok (.aload_n 2, 1) := by decide +kernel
theorem dL_normalValue_1 : decode cL_normalValue 1 = .ok (.iconst 0, 1) := by decide +kernel
theorem dL_normalValue_2 : decode cL_normalValue 2 = .ok (.aload_n 0, 1) := by decide +kernel
theorem dL_normalValue_3 : decode cL_normalValue 3 = .ok (.iload_n 1, 1) := by decide +kernel
theorem dL_normalValue_4 : decode cL_normalValue 4 = .ok (.invokevirtual 87, 3) := by decide +kernel
theorem dL_normalValue_7 : decode cL_normalValue 7 = .ok (.i2l, 1) := by decide +kernel
theorem dL_normalValue_8 : decode cL_normalValue 8 = .ok (.lastore, 1) := by decide +kernel
theorem dL_normalValue_9 : decode cL_normalValue 9 = .ok (.goto 6, 3) := by decide +kernel
theorem dL_normalValue_12 : decode cL_normalValue 12 = .ok (.astore_n 3, 1) := by decide +kernel
theorem dL_normalValue_13 : decode cL_normalValue 13 = .ok (.iconst 1, 1) := by decide +kernel
theorem dL_normalValue_14 : decode cL_normalValue 14 = .ok (.ireturn, 1) := by decide +kernel
theorem dL_normalValue_15 : decode cL_normalValue 15 = .ok (.iconst 0, 1) := by decide +kernel
theorem dL_normalValue_16 : decode cL_normalValue 16 = .ok (.ireturn, 1) := by decide +kernel
theorem dL_ways_0 : decode cL_ways 0 = .ok (.aload_n 1, 1) := by decide +kernel
theorem dL_ways_1 : decode cL_ways 1 = .ok (.iconst 0, 1) := by decide +kernel
theorem dL_ways_2 : decode cL_ways 2 = .ok (.aload_n 0, 1) := by decide +kernel
theorem dL_ways_3 : decode cL_ways 3 = .ok (.invokevirtual 90, 3) := by decide +kernel
theorem dL_ways_6 : decode cL_ways 6 = .ok (.i2l, 1) := by decide +kernel
theorem dL_ways_7 : decode cL_ways 7 = .ok (.lastore, 1) := by decide +kernel
theorem dL_ways_8 : decode cL_ways 8 = .ok (.goto 6, 3) := by decide +kernel
theorem dL_ways_11 : decode cL_ways 11 = .ok (.astore_n 2, 1) := by decide +kernel
theorem dL_ways_12 : decode cL_ways 12 = .ok (.iconst 1, 1) := by decide +kernel
theorem dL_ways_13 : decode cL_ways 13 = .ok (.ireturn, 1) := by decide +kernel
theorem dL_ways_14 : decode cL_ways 14 = .ok (.iconst 0, 1) := by decide +kernel
theorem dL_ways_15 : decode cL_ways 15 = .ok (.ireturn, 1) := by decide +kernel
theorem dL_law_0 : decode cL_law 0 = .ok (.new 8, 3) := by decide +kernel
theorem dL_law_3 : decode cL_law 3 = .ok (.dup, 1) := by decide +kernel
theorem dL_law_4 : decode cL_law 4 = .ok (.invokespecial 93, 3) := by decide +kernel
theorem dL_law_7 : decode cL_law 7 = .ok (.astore_n 1, 1) := by decide +kernel
theorem dL_law_8 : decode cL_law 8 = .ok (.new 94, 3) := by decide +kernel
theorem dL_law_11 : decode cL_law 11 = .ok (.dup, 1) := by decide +kernel
theorem dL_law_12 : decode cL_law 12 = .ok (.invokespecial 96, 3) := by decide +kernel
theorem dL_law_15 : decode cL_law 15 = .ok (.astore_n 2, 1) := by decide +kernel
theorem dL_law_16 : decode cL_law 16 = .ok (.iconst 1, 1) := by decide +kernel
theorem dL_law_17 : decode cL_law 17 = .ok (.newarray .long, 2) := by decide +kernel
theorem dL_law_19 : decode cL_law 19 = .ok (.astore_n 3, 1) := by decide +kernel
theorem dL_law_20 : decode cL_law 20 = .ok (.iconst 0, 1) := by decide +kernel
theorem dL_law_21 : decode cL_law 21 = .ok (.istore 4, 2) := by decide +kernel
theorem dL_law_23 : decode cL_law 23 = .ok (.iload 4, 2) := by decide +kernel
theorem dL_law_25 : decode cL_law 25 = .ok (.aload_n 0, 1) := by decide +kernel
theorem dL_law_26 : decode cL_law 26 = .ok (.arraylength, 1) := by decide +kernel
theorem dL_law_27 : decode cL_law 27 = .ok (.iconst 5, 1) := by decide +kernel
theorem dL_law_28 : decode cL_law 28 = .ok (.isub, 1) := by decide +kernel
theorem dL_law_29 : decode cL_law 29 = .ok (.if_icmp .gt 1663, 3) := by decide +kernel
theorem dL_law_32 : decode cL_law 32 = .ok (.aload_n 0, 1) := by decide +kernel
theorem dL_law_33 : decode cL_law 33 = .ok (.iload 4, 2) := by decide +kernel
theorem dL_law_35 : decode cL_law 35 = .ok (.iaload, 1) := by decide +kernel
theorem dL_law_36 : decode cL_law 36 = .ok (.bipush 31, 2) := by decide +kernel
theorem dL_law_38 : decode cL_law 38 = .ok (.iand, 1) := by decide +kernel
theorem dL_law_39 : decode cL_law 39 = .ok (.tableswitch 1647 0 29 #[133, 241, 297, 357, 449, 529, 585, 653, 733, 789, 833, 846, 859, 915, 971, 1027, 1040, 1096, 1152, 1208, 1264, 1327, 1340, 1353, 1409, 1465, 1478, 1534, 1590, 1603], 133) := by decide +kernel
theorem dL_law_172 : decode cL_law 172 = .ok (.aload_n 1, 1) := by decide +kernel
theorem dL_law_173 : decode cL_law 173 = .ok (.aload_n 0, 1) := by decide +kernel
theorem dL_law_174 : decode cL_law 174 = .ok (.iload 4, 2) := by decide +kernel
theorem dL_law_176 : decode cL_law 176 = .ok (.iconst 1, 1) := by decide +kernel
theorem dL_law_177 : decode cL_law 177 = .ok (.iadd, 1) := by decide +kernel
theorem dL_law_178 : decode cL_law 178 = .ok (.iaload, 1) := by decide +kernel
theorem dL_law_179 : decode cL_law 179 = .ok (.aload_n 0, 1) := by decide +kernel
theorem dL_law_180 : decode cL_law 180 = .ok (.iload 4, 2) := by decide +kernel
theorem dL_law_182 : decode cL_law 182 = .ok (.iconst 2, 1) := by decide +kernel
theorem dL_law_183 : decode cL_law 183 = .ok (.iadd, 1) := by decide +kernel
theorem dL_law_184 : decode cL_law 184 = .ok (.iaload, 1) := by decide +kernel
theorem dL_law_185 : decode cL_law 185 = .ok (.aload_n 0, 1) := by decide +kernel
theorem dL_law_186 : decode cL_law 186 = .ok (.iload 4, 2) := by decide +kernel
theorem dL_law_188 : decode cL_law 188 = .ok (.iconst 3, 1) := by decide +kernel
theorem dL_law_189 : decode cL_law 189 = .ok (.iadd, 1) := by decide +kernel
theorem dL_law_190 : decode cL_law 190 = .ok (.iaload, 1) := by decide +kernel
theorem dL_law_191 : decode cL_law 191 = .ok (.ifCond .eq 7, 3) := by decide +kernel
theorem dL_law_194 : decode cL_law 194 = .ok (.iconst 1, 1) := by decide +kernel
theorem dL_law_195 : decode cL_law 195 = .ok (.goto 4, 3) := by decide +kernel
theorem dL_law_198 : decode cL_law 198 = .ok (.iconst 0, 1) := by decide +kernel
theorem dL_law_199 : decode cL_law 199 = .ok (.aload_n 0, 1) := by decide +kernel
theorem dL_law_200 : decode cL_law 200 = .ok (.iload 4, 2) := by decide +kernel
theorem dL_law_202 : decode cL_law 202 = .ok (.iconst 4, 1) := by decide +kernel
theorem dL_law_203 : decode cL_law 203 = .ok (.iadd, 1) := by decide +kernel
theorem dL_law_204 : decode cL_law 204 = .ok (.iaload, 1) := by decide +kernel
theorem dL_law_205 : decode cL_law 205 = .ok (.aload_n 3, 1) := by decide +kernel
theorem dL_law_206 : decode cL_law 206 = .ok (.invokestatic 97, 3) := by decide +kernel
theorem dL_law_209 : decode cL_law 209 = .ok (.istore 5, 2) := by decide +kernel
theorem dL_law_211 : decode cL_law 211 = .ok (.aload_n 2, 1) := by decide +kernel
theorem dL_law_212 : decode cL_law 212 = .ok (.aload_n 0, 1) := by decide +kernel
theorem dL_law_213 : decode cL_law 213 = .ok (.iload 4, 2) := by decide +kernel
theorem dL_law_215 : decode cL_law 215 = .ok (.iconst 1, 1) := by decide +kernel
theorem dL_law_216 : decode cL_law 216 = .ok (.iadd, 1) := by decide +kernel
theorem dL_law_217 : decode cL_law 217 = .ok (.iaload, 1) := by decide +kernel
theorem dL_law_218 : decode cL_law 218 = .ok (.aload_n 0, 1) := by decide +kernel
theorem dL_law_219 : decode cL_law 219 = .ok (.iload 4, 2) := by decide +kernel
theorem dL_law_221 : decode cL_law 221 = .ok (.iconst 2, 1) := by decide +kernel
theorem dL_law_222 : decode cL_law 222 = .ok (.iadd, 1) := by decide +kernel
theorem dL_law_223 : decode cL_law 223 = .ok (.iaload, 1) := by decide +kernel
theorem dL_law_224 : decode cL_law 224 = .ok (.aload_n 0, 1) := by decide +kernel
theorem dL_law_225 : decode cL_law 225 = .ok (.iload 4, 2) := by decide +kernel
theorem dL_law_227 : decode cL_law 227 = .ok (.iconst 3, 1) := by decide +kernel
theorem dL_law_228 : decode cL_law 228 = .ok (.iadd, 1) := by decide +kernel
theorem dL_law_229 : decode cL_law 229 = .ok (.iaload, 1) := by decide +kernel
theorem dL_law_230 : decode cL_law 230 = .ok (.ifCond .eq 7, 3) := by decide +kernel
theorem dL_law_233 : decode cL_law 233 = .ok (.iconst 1, 1) := by decide +kernel
theorem dL_law_234 : decode cL_law 234 = .ok (.goto 4, 3) := by decide +kernel
theorem dL_law_237 : decode cL_law 237 = .ok (.iconst 0, 1) := by decide +kernel
theorem dL_law_238 : decode cL_law 238 = .ok (.aload_n 0, 1) := by decide +kernel
theorem dL_law_239 : decode cL_law 239 = .ok (.iload 4, 2) := by decide +kernel
theorem dL_law_241 : decode cL_law 241 = .ok (.iconst 4, 1) := by decide +kernel
theorem dL_law_242 : decode cL_law 242 = .ok (.iadd, 1) := by decide +kernel
theorem dL_law_243 : decode cL_law 243 = .ok (.iaload, 1) := by decide +kernel
theorem dL_law_244 : decode cL_law 244 = .ok (.invokevirtual 102, 3) := by decide +kernel
theorem dL_law_247 : decode cL_law 247 = .ok (.istore 6, 2) := by decide +kernel
theorem dL_law_249 : decode cL_law 249 = .ok (.aload_n 2, 1) := by decide +kernel
theorem dL_law_250 : decode cL_law 250 = .ok (.invokevirtual 103, 3) := by decide +kernel
theorem dL_law_253 : decode cL_law 253 = .ok (.iload 5, 2) := by decide +kernel
theorem dL_law_255 : decode cL_law 255 = .ok (.if_icmp .eq 5, 3) := by decide +kernel
theorem dL_law_258 : decode cL_law 258 = .ok (.iconst 0, 1) := by decide +kernel
theorem dL_law_259 : decode cL_law 259 = .ok (.ireturn, 1) := by decide +kernel
theorem dL_law_260 : decode cL_law 260 = .ok (.iload 5, 2) := by decide +kernel
theorem dL_law_262 : decode cL_law 262 = .ok (.ifCond .ne 15, 3) := by decide +kernel
theorem dL_law_265 : decode cL_law 265 = .ok (.aload_n 3, 1) := by decide +kernel
theorem dL_law_266 : decode cL_law 266 = .ok (.iconst 0, 1) := by decide +kernel
theorem dL_law_267 : decode cL_law 267 = .ok (.laload, 1) := by decide +kernel
theorem dL_law_268 : decode cL_law 268 = .ok (.iload 6, 2) := by decide +kernel
theorem dL_law_270 : decode cL_law 270 = .ok (.i2l, 1) := by decide +kernel
theorem dL_law_271 : decode cL_law 271 = .ok (.lcmp, 1) := by decide +kernel
theorem dL_law_272 : decode cL_law 272 = .ok (.ifCond .eq 5, 3) := by decide +kernel
theorem dL_law_275 : decode cL_law 275 = .ok (.iconst 0, 1) := by decide +kernel
theorem dL_law_276 : decode cL_law 276 = .ok (.ireturn, 1) := by decide +kernel
theorem dL_law_277 : decode cL_law 277 = .ok (.goto 1409, 3) := by decide +kernel
theorem dL_law_280 : decode cL_law 280 = .ok (.aload_n 1, 1) := by decide +kernel
theorem dL_law_281 : decode cL_law 281 = .ok (.aload_n 0, 1) := by decide +kernel
theorem dL_law_282 : decode cL_law 282 = .ok (.iload 4, 2) := by decide +kernel
theorem dL_law_284 : decode cL_law 284 = .ok (.iconst 1, 1) := by decide +kernel
theorem dL_law_285 : decode cL_law 285 = .ok (.iadd, 1) := by decide +kernel
theorem dL_law_286 : decode cL_law 286 = .ok (.iaload, 1) := by decide +kernel
theorem dL_law_287 : decode cL_law 287 = .ok (.aload_n 3, 1) := by decide +kernel
theorem dL_law_288 : decode cL_law 288 = .ok (.invokestatic 106, 3) := by decide +kernel
theorem dL_law_291 : decode cL_law 291 = .ok (.istore 5, 2) := by decide +kernel
theorem dL_law_293 : decode cL_law 293 = .ok (.aload_n 2, 1) := by decide +kernel
theorem dL_law_294 : decode cL_law 294 = .ok (.aload_n 0, 1) := by decide +kernel
theorem dL_law_295 : decode cL_law 295 = .ok (.iload 4, 2) := by decide +kernel
theorem dL_law_297 : decode cL_law 297 = .ok (.iconst 1, 1) := by decide +kernel
theorem dL_law_298 : decode cL_law 298 = .ok (.iadd, 1) := by decide +kernel
theorem dL_law_299 : decode cL_law 299 = .ok (.iaload, 1) := by decide +kernel
theorem dL_law_300 : decode cL_law 300 = .ok (.invokevirtual 109, 3) := by decide +kernel
theorem dL_law_303 : decode cL_law 303 = .ok (.istore 6, 2) := by decide +kernel
theorem dL_law_305 : decode cL_law 305 = .ok (.aload_n 2, 1) := by decide +kernel
theorem dL_law_306 : decode cL_law 306 = .ok (.invokevirtual 103, 3) := by decide +kernel
theorem dL_law_309 : decode cL_law 309 = .ok (.iload 5, 2) := by decide +kernel
theorem dL_law_311 : decode cL_law 311 = .ok (.if_icmp .eq 5, 3) := by decide +kernel
theorem dL_law_314 : decode cL_law 314 = .ok (.iconst 0, 1) := by decide +kernel
theorem dL_law_315 : decode cL_law 315 = .ok (.ireturn, 1) := by decide +kernel
theorem dL_law_316 : decode cL_law 316 = .ok (.iload 5, 2) := by decide +kernel
theorem dL_law_318 : decode cL_law 318 = .ok (.ifCond .ne 15, 3) := by decide +kernel
theorem dL_law_321 : decode cL_law 321 = .ok (.aload_n 3, 1) := by decide +kernel
theorem dL_law_322 : decode cL_law 322 = .ok (.iconst 0, 1) := by decide +kernel
theorem dL_law_323 : decode cL_law 323 = .ok (.laload, 1) := by decide +kernel
theorem dL_law_324 : decode cL_law 324 = .ok (.iload 6, 2) := by decide +kernel
theorem dL_law_326 : decode cL_law 326 = .ok (.i2l, 1) := by decide +kernel
theorem dL_law_327 : decode cL_law 327 = .ok (.lcmp, 1) := by decide +kernel
theorem dL_law_328 : decode cL_law 328 = .ok (.ifCond .eq 5, 3) := by decide +kernel
theorem dL_law_331 : decode cL_law 331 = .ok (.iconst 0, 1) := by decide +kernel
theorem dL_law_332 : decode cL_law 332 = .ok (.ireturn, 1) := by decide +kernel
theorem dL_law_333 : decode cL_law 333 = .ok (.goto 1353, 3) := by decide +kernel
theorem dL_law_336 : decode cL_law 336 = .ok (.aload_n 1, 1) := by decide +kernel
theorem dL_law_337 : decode cL_law 337 = .ok (.aload_n 0, 1) := by decide +kernel
theorem dL_law_338 : decode cL_law 338 = .ok (.iload 4, 2) := by decide +kernel
theorem dL_law_340 : decode cL_law 340 = .ok (.iconst 1, 1) := by decide +kernel
theorem dL_law_341 : decode cL_law 341 = .ok (.iadd, 1) := by decide +kernel
theorem dL_law_342 : decode cL_law 342 = .ok (.iaload, 1) := by decide +kernel
theorem dL_law_343 : decode cL_law 343 = .ok (.aload_n 0, 1) := by decide +kernel
theorem dL_law_344 : decode cL_law 344 = .ok (.iload 4, 2) := by decide +kernel
theorem dL_law_346 : decode cL_law 346 = .ok (.iconst 2, 1) := by decide +kernel
theorem dL_law_347 : decode cL_law 347 = .ok (.iadd, 1) := by decide +kernel
theorem dL_law_348 : decode cL_law 348 = .ok (.iaload, 1) := by decide +kernel
theorem dL_law_349 : decode cL_law 349 = .ok (.aload_n 0, 1) := by decide +kernel
theorem dL_law_350 : decode cL_law 350 = .ok (.iload 4, 2) := by decide +kernel
theorem dL_law_352 : decode cL_law 352 = .ok (.iconst 3, 1) := by decide +kernel
theorem dL_law_353 : decode cL_law 353 = .ok (.iadd, 1) := by decide +kernel
theorem dL_law_354 : decode cL_law 354 = .ok (.iaload, 1) := by decide +kernel
theorem dL_law_355 : decode cL_law 355 = .ok (.invokestatic 110, 3) := by decide +kernel
theorem dL_law_358 : decode cL_law 358 = .ok (.istore 5, 2) := by decide +kernel
theorem dL_law_360 : decode cL_law 360 = .ok (.aload_n 2, 1) := by decide +kernel
theorem dL_law_361 : decode cL_law 361 = .ok (.aload_n 0, 1) := by decide +kernel
theorem dL_law_362 : decode cL_law 362 = .ok (.iload 4, 2) := by decide +kernel
theorem dL_law_364 : decode cL_law 364 = .ok (.iconst 1, 1) := by decide +kernel
theorem dL_law_365 : decode cL_law 365 = .ok (.iadd, 1) := by decide +kernel
theorem dL_law_366 : decode cL_law 366 = .ok (.iaload, 1) := by decide +kernel
theorem dL_law_367 : decode cL_law 367 = .ok (.aload_n 0, 1) := by decide +kernel
theorem dL_law_368 : decode cL_law 368 = .ok (.iload 4, 2) := by decide +kernel
theorem dL_law_370 : decode cL_law 370 = .ok (.iconst 2, 1) := by decide +kernel
theorem dL_law_371 : decode cL_law 371 = .ok (.iadd, 1) := by decide +kernel
theorem dL_law_372 : decode cL_law 372 = .ok (.iaload, 1) := by decide +kernel
theorem dL_law_373 : decode cL_law 373 = .ok (.aload_n 0, 1) := by decide +kernel
theorem dL_law_374 : decode cL_law 374 = .ok (.iload 4, 2) := by decide +kernel
theorem dL_law_376 : decode cL_law 376 = .ok (.iconst 3, 1) := by decide +kernel
theorem dL_law_377 : decode cL_law 377 = .ok (.iadd, 1) := by decide +kernel
theorem dL_law_378 : decode cL_law 378 = .ok (.iaload, 1) := by decide +kernel
theorem dL_law_379 : decode cL_law 379 = .ok (.invokevirtual 113, 3) := by decide +kernel
theorem dL_law_382 : decode cL_law 382 = .ok (.aload_n 2, 1) := by decide +kernel
theorem dL_law_383 : decode cL_law 383 = .ok (.invokevirtual 103, 3) := by decide +kernel
theorem dL_law_386 : decode cL_law 386 = .ok (.iload 5, 2) := by decide +kernel
theorem dL_law_388 : decode cL_law 388 = .ok (.if_icmp .eq 5, 3) := by decide +kernel
theorem dL_law_391 : decode cL_law 391 = .ok (.iconst 0, 1) := by decide +kernel
theorem dL_law_392 : decode cL_law 392 = .ok (.ireturn, 1) := by decide +kernel
theorem dL_law_393 : decode cL_law 393 = .ok (.goto 1293, 3) := by decide +kernel
theorem dL_law_396 : decode cL_law 396 = .ok (.aload_n 1, 1) := by decide +kernel
theorem dL_law_397 : decode cL_law 397 = .ok (.aload_n 0, 1) := by decide +kernel
theorem dL_law_398 : decode cL_law 398 = .ok (.iload 4, 2) := by decide +kernel
theorem dL_law_400 : decode cL_law 400 = .ok (.iconst 1, 1) := by decide +kernel
theorem dL_law_401 : decode cL_law 401 = .ok (.iadd, 1) := by decide +kernel
theorem dL_law_402 : decode cL_law 402 = .ok (.iaload, 1) := by decide +kernel
theorem dL_law_403 : decode cL_law 403 = .ok (.aload_n 0, 1) := by decide +kernel
theorem dL_law_404 : decode cL_law 404 = .ok (.iload 4, 2) := by decide +kernel
theorem dL_law_406 : decode cL_law 406 = .ok (.iconst 2, 1) := by decide +kernel
theorem dL_law_407 : decode cL_law 407 = .ok (.iadd, 1) := by decide +kernel
theorem dL_law_408 : decode cL_law 408 = .ok (.iaload, 1) := by decide +kernel
theorem dL_law_409 : decode cL_law 409 = .ok (.ifCond .eq 7, 3) := by decide +kernel
theorem dL_law_412 : decode cL_law 412 = .ok (.iconst 1, 1) := by decide +kernel
theorem dL_law_413 : decode cL_law 413 = .ok (.goto 4, 3) := by decide +kernel
theorem dL_law_416 : decode cL_law 416 = .ok (.iconst 0, 1) := by decide +kernel
theorem dL_law_417 : decode cL_law 417 = .ok (.aload_n 0, 1) := by decide +kernel
theorem dL_law_418 : decode cL_law 418 = .ok (.iload 4, 2) := by decide +kernel
theorem dL_law_420 : decode cL_law 420 = .ok (.iconst 3, 1) := by decide +kernel
theorem dL_law_421 : decode cL_law 421 = .ok (.iadd, 1) := by decide +kernel
theorem dL_law_422 : decode cL_law 422 = .ok (.iaload, 1) := by decide +kernel
theorem dL_law_423 : decode cL_law 423 = .ok (.ifCond .eq 7, 3) := by decide +kernel
theorem dL_law_426 : decode cL_law 426 = .ok (.iconst 1, 1) := by decide +kernel
theorem dL_law_427 : decode cL_law 427 = .ok (.goto 4, 3) := by decide +kernel
theorem dL_law_430 : decode cL_law 430 = .ok (.iconst 0, 1) := by decide +kernel
theorem dL_law_431 : decode cL_law 431 = .ok (.invokestatic 114, 3) := by decide +kernel
theorem dL_law_434 : decode cL_law 434 = .ok (.istore 5, 2) := by decide +kernel
theorem dL_law_436 : decode cL_law 436 = .ok (.aload_n 2, 1) := by decide +kernel
theorem dL_law_437 : decode cL_law 437 = .ok (.aload_n 0, 1) := by decide +kernel
theorem dL_law_438 : decode cL_law 438 = .ok (.iload 4, 2) := by decide +kernel
theorem dL_law_440 : decode cL_law 440 = .ok (.iconst 1, 1) := by decide +kernel
theorem dL_law_441 : decode cL_law 441 = .ok (.iadd, 1) := by decide +kernel
theorem dL_law_442 : decode cL_law 442 = .ok (.iaload, 1) := by decide +kernel
theorem dL_law_443 : decode cL_law 443 = .ok (.aload_n 0, 1) := by decide +kernel
theorem dL_law_444 : decode cL_law 444 = .ok (.iload 4, 2) := by decide +kernel
theorem dL_law_446 : decode cL_law 446 = .ok (.iconst 2, 1) := by decide +kernel
theorem dL_law_447 : decode cL_law 447 = .ok (.iadd, 1) := by decide +kernel
theorem dL_law_448 : decode cL_law 448 = .ok (.iaload, 1) := by decide +kernel
theorem dL_law_449 : decode cL_law 449 = .ok (.ifCond .eq 7, 3) := by decide +kernel
theorem dL_law_452 : decode cL_law 452 = .ok (.iconst 1, 1) := by decide +kernel
theorem dL_law_453 : decode cL_law 453 = .ok (.goto 4, 3) := by decide +kernel
theorem dL_law_456 : decode cL_law 456 = .ok (.iconst 0, 1) := by decide +kernel
theorem dL_law_457 : decode cL_law 457 = .ok (.aload_n 0, 1) := by decide +kernel
theorem dL_law_458 : decode cL_law 458 = .ok (.iload 4, 2) := by decide +kernel
theorem dL_law_460 : decode cL_law 460 = .ok (.iconst 3, 1) := by decide +kernel
theorem dL_law_461 : decode cL_law 461 = .ok (.iadd, 1) := by decide +kernel
theorem dL_law_462 : decode cL_law 462 = .ok (.iaload, 1) := by decide +kernel
theorem dL_law_463 : decode cL_law 463 = .ok (.ifCond .eq 7, 3) := by decide +kernel
theorem dL_law_466 : decode cL_law 466 = .ok (.iconst 1, 1) := by decide +kernel
theorem dL_law_467 : decode cL_law 467 = .ok (.goto 4, 3) := by decide +kernel
theorem dL_law_470 : decode cL_law 470 = .ok (.iconst 0, 1) := by decide +kernel
theorem dL_law_471 : decode cL_law 471 = .ok (.invokevirtual 117, 3) := by decide +kernel
theorem dL_law_474 : decode cL_law 474 = .ok (.aload_n 2, 1) := by decide +kernel
theorem dL_law_475 : decode cL_law 475 = .ok (.invokevirtual 103, 3) := by decide +kernel
theorem dL_law_478 : decode cL_law 478 = .ok (.iload 5, 2) := by decide +kernel
theorem dL_law_480 : decode cL_law 480 = .ok (.if_icmp .eq 5, 3) := by decide +kernel
theorem dL_law_483 : decode cL_law 483 = .ok (.iconst 0, 1) := by decide +kernel
theorem dL_law_484 : decode cL_law 484 = .ok (.ireturn, 1) := by decide +kernel
theorem dL_law_485 : decode cL_law 485 = .ok (.goto 1201, 3) := by decide +kernel
theorem dL_law_488 : decode cL_law 488 = .ok (.aload_n 1, 1) := by decide +kernel
theorem dL_law_489 : decode cL_law 489 = .ok (.aload_n 0, 1) := by decide +kernel
theorem dL_law_490 : decode cL_law 490 = .ok (.iload 4, 2) := by decide +kernel
theorem dL_law_492 : decode cL_law 492 = .ok (.iconst 1, 1) := by decide +kernel
theorem dL_law_493 : decode cL_law 493 = .ok (.iadd, 1) := by decide +kernel
theorem dL_law_494 : decode cL_law 494 = .ok (.iaload, 1) := by decide +kernel
theorem dL_law_495 : decode cL_law 495 = .ok (.aload_n 0, 1) := by decide +kernel
theorem dL_law_496 : decode cL_law 496 = .ok (.iload 4, 2) := by decide +kernel
theorem dL_law_498 : decode cL_law 498 = .ok (.iconst 2, 1) := by decide +kernel
theorem dL_law_499 : decode cL_law 499 = .ok (.iadd, 1) := by decide +kernel
theorem dL_law_500 : decode cL_law 500 = .ok (.iaload, 1) := by decide +kernel
theorem dL_law_501 : decode cL_law 501 = .ok (.aload_n 0, 1) := by decide +kernel
theorem dL_law_502 : decode cL_law 502 = .ok (.iload 4, 2) := by decide +kernel
theorem dL_law_504 : decode cL_law 504 = .ok (.iconst 3, 1) := by decide +kernel
theorem dL_law_505 : decode cL_law 505 = .ok (.iadd, 1) := by decide +kernel
theorem dL_law_506 : decode cL_law 506 = .ok (.iaload, 1) := by decide +kernel
theorem dL_law_507 : decode cL_law 507 = .ok (.aload_n 3, 1) := by decide +kernel
theorem dL_law_508 : decode cL_law 508 = .ok (.invokestatic 118, 3) := by decide +kernel
theorem dL_law_511 : decode cL_law 511 = .ok (.istore 5, 2) := by decide +kernel
theorem dL_law_513 : decode cL_law 513 = .ok (.aload_n 2, 1) := by decide +kernel
theorem dL_law_514 : decode cL_law 514 = .ok (.aload_n 0, 1) := by decide +kernel
theorem dL_law_515 : decode cL_law 515 = .ok (.iload 4, 2) := by decide +kernel
theorem dL_law_517 : decode cL_law 517 = .ok (.iconst 1, 1) := by decide +kernel
theorem dL_law_518 : decode cL_law 518 = .ok (.iadd, 1) := by decide +kernel
theorem dL_law_519 : decode cL_law 519 = .ok (.iaload, 1) := by decide +kernel
theorem dL_law_520 : decode cL_law 520 = .ok (.aload_n 0, 1) := by decide +kernel
theorem dL_law_521 : decode cL_law 521 = .ok (.iload 4, 2) := by decide +kernel
theorem dL_law_523 : decode cL_law 523 = .ok (.iconst 2, 1) := by decide +kernel
theorem dL_law_524 : decode cL_law 524 = .ok (.iadd, 1) := by decide +kernel
theorem dL_law_525 : decode cL_law 525 = .ok (.iaload, 1) := by decide +kernel
theorem dL_law_526 : decode cL_law 526 = .ok (.aload_n 0, 1) := by decide +kernel
theorem dL_law_527 : decode cL_law 527 = .ok (.iload 4, 2) := by decide +kernel
theorem dL_law_529 : decode cL_law 529 = .ok (.iconst 3, 1) := by decide +kernel
theorem dL_law_530 : decode cL_law 530 = .ok (.iadd, 1) := by decide +kernel
theorem dL_law_531 : decode cL_law 531 = .ok (.iaload, 1) := by decide +kernel
theorem dL_law_532 : decode cL_law 532 = .ok (.invokevirtual 121, 3) := by decide +kernel
theorem dL_law_535 : decode cL_law 535 = .ok (.istore 6, 2) := by decide +kernel
theorem dL_law_537 : decode cL_law 537 = .ok (.aload_n 2, 1) := by decide +kernel
theorem dL_law_538 : decode cL_law 538 = .ok (.invokevirtual 103, 3) := by decide +kernel
theorem dL_law_541 : decode cL_law 541 = .ok (.iload 5, 2) := by decide +kernel
theorem dL_law_543 : decode cL_law 543 = .ok (.if_icmp .eq 5, 3) := by decide +kernel
theorem dL_law_546 : decode cL_law 546 = .ok (.iconst 0, 1) := by decide +kernel
theorem dL_law_547 : decode cL_law 547 = .ok (.ireturn, 1) := by decide +kernel
theorem dL_law_548 : decode cL_law 548 = .ok (.iload 5, 2) := by decide +kernel
theorem dL_law_550 : decode cL_law 550 = .ok (.ifCond .ne 15, 3) := by decide +kernel
theorem dL_law_553 : decode cL_law 553 = .ok (.aload_n 3, 1) := by decide +kernel
theorem dL_law_554 : decode cL_law 554 = .ok (.iconst 0, 1) := by decide +kernel
theorem dL_law_555 : decode cL_law 555 = .ok (.laload, 1) := by decide +kernel
theorem dL_law_556 : decode cL_law 556 = .ok (.iload 6, 2) := by decide +kernel
theorem dL_law_558 : decode cL_law 558 = .ok (.i2l, 1) := by decide +kernel
theorem dL_law_559 : decode cL_law 559 = .ok (.lcmp, 1) := by decide +kernel
theorem dL_law_560 : decode cL_law 560 = .ok (.ifCond .eq 5, 3) := by decide +kernel
theorem dL_law_563 : decode cL_law 563 = .ok (.iconst 0, 1) := by decide +kernel
theorem dL_law_564 : decode cL_law 564 = .ok (.ireturn, 1) := by decide +kernel
theorem dL_law_565 : decode cL_law 565 = .ok (.goto 1121, 3) := by decide +kernel
theorem dL_law_568 : decode cL_law 568 = .ok (.aload_n 1, 1) := by decide +kernel
theorem dL_law_569 : decode cL_law 569 = .ok (.aload_n 0, 1) := by decide +kernel
theorem dL_law_570 : decode cL_law 570 = .ok (.iload 4, 2) := by decide +kernel
theorem dL_law_572 : decode cL_law 572 = .ok (.iconst 1, 1) := by decide +kernel
theorem dL_law_573 : decode cL_law 573 = .ok (.iadd, 1) := by decide +kernel
theorem dL_law_574 : decode cL_law 574 = .ok (.iaload, 1) := by decide +kernel
theorem dL_law_575 : decode cL_law 575 = .ok (.aload_n 3, 1) := by decide +kernel
theorem dL_law_576 : decode cL_law 576 = .ok (.invokestatic 122, 3) := by decide +kernel
theorem dL_law_579 : decode cL_law 579 = .ok (.istore 5, 2) := by decide +kernel
theorem dL_law_581 : decode cL_law 581 = .ok (.aload_n 2, 1) := by decide +kernel
theorem dL_law_582 : decode cL_law 582 = .ok (.aload_n 0, 1) := by decide +kernel
theorem dL_law_583 : decode cL_law 583 = .ok (.iload 4, 2) := by decide +kernel
theorem dL_law_585 : decode cL_law 585 = .ok (.iconst 1, 1) := by decide +kernel
theorem dL_law_586 : decode cL_law 586 = .ok (.iadd, 1) := by decide +kernel
theorem dL_law_587 : decode cL_law 587 = .ok (.iaload, 1) := by decide +kernel
theorem dL_law_588 : decode cL_law 588 = .ok (.invokevirtual 124, 3) := by decide +kernel
theorem dL_law_591 : decode cL_law 591 = .ok (.istore 6, 2) := by decide +kernel
theorem dL_law_593 : decode cL_law 593 = .ok (.aload_n 2, 1) := by decide +kernel
theorem dL_law_594 : decode cL_law 594 = .ok (.invokevirtual 103, 3) := by decide +kernel
theorem dL_law_597 : decode cL_law 597 = .ok (.iload 5, 2) := by decide +kernel
theorem dL_law_599 : decode cL_law 599 = .ok (.if_icmp .eq 5, 3) := by decide +kernel
theorem dL_law_602 : decode cL_law 602 = .ok (.iconst 0, 1) := by decide +kernel
theorem dL_law_603 : decode cL_law 603 = .ok (.ireturn, 1) := by decide +kernel
theorem dL_law_604 : decode cL_law 604 = .ok (.iload 5, 2) := by decide +kernel
theorem dL_law_606 : decode cL_law 606 = .ok (.ifCond .ne 15, 3) := by decide +kernel
theorem dL_law_609 : decode cL_law 609 = .ok (.aload_n 3, 1) := by decide +kernel
theorem dL_law_610 : decode cL_law 610 = .ok (.iconst 0, 1) := by decide +kernel
theorem dL_law_611 : decode cL_law 611 = .ok (.laload, 1) := by decide +kernel
theorem dL_law_612 : decode cL_law 612 = .ok (.iload 6, 2) := by decide +kernel
theorem dL_law_614 : decode cL_law 614 = .ok (.i2l, 1) := by decide +kernel
theorem dL_law_615 : decode cL_law 615 = .ok (.lcmp, 1) := by decide +kernel
theorem dL_law_616 : decode cL_law 616 = .ok (.ifCond .eq 5, 3) := by decide +kernel
theorem dL_law_619 : decode cL_law 619 = .ok (.iconst 0, 1) := by decide +kernel
theorem dL_law_620 : decode cL_law 620 = .ok (.ireturn, 1) := by decide +kernel
theorem dL_law_621 : decode cL_law 621 = .ok (.goto 1065, 3) := by decide +kernel
theorem dL_law_624 : decode cL_law 624 = .ok (.aload_n 1, 1) := by decide +kernel
theorem dL_law_625 : decode cL_law 625 = .ok (.aload_n 0, 1) := by decide +kernel
theorem dL_law_626 : decode cL_law 626 = .ok (.iload 4, 2) := by decide +kernel
theorem dL_law_628 : decode cL_law 628 = .ok (.iconst 1, 1) := by decide +kernel
theorem dL_law_629 : decode cL_law 629 = .ok (.iadd, 1) := by decide +kernel
theorem dL_law_630 : decode cL_law 630 = .ok (.iaload, 1) := by decide +kernel
theorem dL_law_631 : decode cL_law 631 = .ok (.aload_n 0, 1) := by decide +kernel
theorem dL_law_632 : decode cL_law 632 = .ok (.iload 4, 2) := by decide +kernel
theorem dL_law_634 : decode cL_law 634 = .ok (.iconst 2, 1) := by decide +kernel
theorem dL_law_635 : decode cL_law 635 = .ok (.iadd, 1) := by decide +kernel
theorem dL_law_636 : decode cL_law 636 = .ok (.iaload, 1) := by decide +kernel
theorem dL_law_637 : decode cL_law 637 = .ok (.aload_n 3, 1) := by decide +kernel
theorem dL_law_638 : decode cL_law 638 = .ok (.invokestatic 125, 3) := by decide +kernel
theorem dL_law_641 : decode cL_law 641 = .ok (.istore 5, 2) := by decide +kernel
theorem dL_law_643 : decode cL_law 643 = .ok (.aload_n 2, 1) := by decide +kernel
theorem dL_law_644 : decode cL_law 644 = .ok (.aload_n 0, 1) := by decide +kernel
theorem dL_law_645 : decode cL_law 645 = .ok (.iload 4, 2) := by decide +kernel
theorem dL_law_647 : decode cL_law 647 = .ok (.iconst 1, 1) := by decide +kernel
theorem dL_law_648 : decode cL_law 648 = .ok (.iadd, 1) := by decide +kernel
theorem dL_law_649 : decode cL_law 649 = .ok (.iaload, 1) := by decide +kernel
theorem dL_law_650 : decode cL_law 650 = .ok (.aload_n 0, 1) := by decide +kernel
theorem dL_law_651 : decode cL_law 651 = .ok (.iload 4, 2) := by decide +kernel
theorem dL_law_653 : decode cL_law 653 = .ok (.iconst 2, 1) := by decide +kernel
theorem dL_law_654 : decode cL_law 654 = .ok (.iadd, 1) := by decide +kernel
theorem dL_law_655 : decode cL_law 655 = .ok (.iaload, 1) := by decide +kernel
theorem dL_law_656 : decode cL_law 656 = .ok (.invokevirtual 128, 3) := by decide +kernel
theorem dL_law_659 : decode cL_law 659 = .ok (.istore 6, 2) := by decide +kernel
theorem dL_law_661 : decode cL_law 661 = .ok (.aload_n 2, 1) := by decide +kernel
theorem dL_law_662 : decode cL_law 662 = .ok (.invokevirtual 103, 3) := by decide +kernel
theorem dL_law_665 : decode cL_law 665 = .ok (.iload 5, 2) := by decide +kernel
theorem dL_law_667 : decode cL_law 667 = .ok (.if_icmp .eq 5, 3) := by decide +kernel
theorem dL_law_670 : decode cL_law 670 = .ok (.iconst 0, 1) := by decide +kernel
theorem dL_law_671 : decode cL_law 671 = .ok (.ireturn, 1) := by decide +kernel
theorem dL_law_672 : decode cL_law 672 = .ok (.iload 5, 2) := by decide +kernel
theorem dL_law_674 : decode cL_law 674 = .ok (.ifCond .ne 15, 3) := by decide +kernel
theorem dL_law_677 : decode cL_law 677 = .ok (.aload_n 3, 1) := by decide +kernel
theorem dL_law_678 : decode cL_law 678 = .ok (.iconst 0, 1) := by decide +kernel
theorem dL_law_679 : decode cL_law 679 = .ok (.laload, 1) := by decide +kernel
theorem dL_law_680 : decode cL_law 680 = .ok (.iload 6, 2) := by decide +kernel
theorem dL_law_682 : decode cL_law 682 = .ok (.i2l, 1) := by decide +kernel
theorem dL_law_683 : decode cL_law 683 = .ok (.lcmp, 1) := by decide +kernel
theorem dL_law_684 : decode cL_law 684 = .ok (.ifCond .eq 5, 3) := by decide +kernel
theorem dL_law_687 : decode cL_law 687 = .ok (.iconst 0, 1) := by decide +kernel
theorem dL_law_688 : decode cL_law 688 = .ok (.ireturn, 1) := by decide +kernel
theorem dL_law_689 : decode cL_law 689 = .ok (.goto 997, 3) := by decide +kernel
theorem dL_law_692 : decode cL_law 692 = .ok (.aload_n 1, 1) := by decide +kernel
theorem dL_law_693 : decode cL_law 693 = .ok (.aload_n 0, 1) := by decide +kernel
theorem dL_law_694 : decode cL_law 694 = .ok (.iload 4, 2) := by decide +kernel
theorem dL_law_696 : decode cL_law 696 = .ok (.iconst 1, 1) := by decide +kernel
theorem dL_law_697 : decode cL_law 697 = .ok (.iadd, 1) := by decide +kernel
theorem dL_law_698 : decode cL_law 698 = .ok (.iaload, 1) := by decide +kernel
theorem dL_law_699 : decode cL_law 699 = .ok (.aload_n 0, 1) := by decide +kernel
theorem dL_law_700 : decode cL_law 700 = .ok (.iload 4, 2) := by decide +kernel
theorem dL_law_702 : decode cL_law 702 = .ok (.iconst 2, 1) := by decide +kernel
theorem dL_law_703 : decode cL_law 703 = .ok (.iadd, 1) := by decide +kernel
theorem dL_law_704 : decode cL_law 704 = .ok (.iaload, 1) := by decide +kernel
theorem dL_law_705 : decode cL_law 705 = .ok (.aload_n 0, 1) := by decide +kernel
theorem dL_law_706 : decode cL_law 706 = .ok (.iload 4, 2) := by decide +kernel
theorem dL_law_708 : decode cL_law 708 = .ok (.iconst 3, 1) := by decide +kernel
theorem dL_law_709 : decode cL_law 709 = .ok (.iadd, 1) := by decide +kernel
theorem dL_law_710 : decode cL_law 710 = .ok (.iaload, 1) := by decide +kernel
theorem dL_law_711 : decode cL_law 711 = .ok (.aload_n 3, 1) := by decide +kernel
theorem dL_law_712 : decode cL_law 712 = .ok (.invokestatic 129, 3) := by decide +kernel
theorem dL_law_715 : decode cL_law 715 = .ok (.istore 5, 2) := by decide +kernel
theorem dL_law_717 : decode cL_law 717 = .ok (.aload_n 2, 1) := by decide +kernel
theorem dL_law_718 : decode cL_law 718 = .ok (.aload_n 0, 1) := by decide +kernel
theorem dL_law_719 : decode cL_law 719 = .ok (.iload 4, 2) := by decide +kernel
theorem dL_law_721 : decode cL_law 721 = .ok (.iconst 1, 1) := by decide +kernel
theorem dL_law_722 : decode cL_law 722 = .ok (.iadd, 1) := by decide +kernel
theorem dL_law_723 : decode cL_law 723 = .ok (.iaload, 1) := by decide +kernel
theorem dL_law_724 : decode cL_law 724 = .ok (.aload_n 0, 1) := by decide +kernel
theorem dL_law_725 : decode cL_law 725 = .ok (.iload 4, 2) := by decide +kernel
theorem dL_law_727 : decode cL_law 727 = .ok (.iconst 2, 1) := by decide +kernel
theorem dL_law_728 : decode cL_law 728 = .ok (.iadd, 1) := by decide +kernel
theorem dL_law_729 : decode cL_law 729 = .ok (.iaload, 1) := by decide +kernel
theorem dL_law_730 : decode cL_law 730 = .ok (.aload_n 0, 1) := by decide +kernel
theorem dL_law_731 : decode cL_law 731 = .ok (.iload 4, 2) := by decide +kernel
theorem dL_law_733 : decode cL_law 733 = .ok (.iconst 3, 1) := by decide +kernel
theorem dL_law_734 : decode cL_law 734 = .ok (.iadd, 1) := by decide +kernel
theorem dL_law_735 : decode cL_law 735 = .ok (.iaload, 1) := by decide +kernel
theorem dL_law_736 : decode cL_law 736 = .ok (.invokevirtual 131, 3) := by decide +kernel
theorem dL_law_739 : decode cL_law 739 = .ok (.istore 6, 2) := by decide +kernel
theorem dL_law_741 : decode cL_law 741 = .ok (.aload_n 2, 1) := by decide +kernel
theorem dL_law_742 : decode cL_law 742 = .ok (.invokevirtual 103, 3) := by decide +kernel
theorem dL_law_745 : decode cL_law 745 = .ok (.iload 5, 2) := by decide +kernel
theorem dL_law_747 : decode cL_law 747 = .ok (.if_icmp .eq 5, 3) := by decide +kernel
theorem dL_law_750 : decode cL_law 750 = .ok (.iconst 0, 1) := by decide +kernel
theorem dL_law_751 : decode cL_law 751 = .ok (.ireturn, 1) := by decide +kernel
theorem dL_law_752 : decode cL_law 752 = .ok (.iload 5, 2) := by decide +kernel
theorem dL_law_754 : decode cL_law 754 = .ok (.ifCond .ne 15, 3) := by decide +kernel
theorem dL_law_757 : decode cL_law 757 = .ok (.aload_n 3, 1) := by decide +kernel
theorem dL_law_758 : decode cL_law 758 = .ok (.iconst 0, 1) := by decide +kernel
theorem dL_law_759 : decode cL_law 759 = .ok (.laload, 1) := by decide +kernel
theorem dL_law_760 : decode cL_law 760 = .ok (.iload 6, 2) := by decide +kernel
theorem dL_law_762 : decode cL_law 762 = .ok (.i2l, 1) := by decide +kernel
theorem dL_law_763 : decode cL_law 763 = .ok (.lcmp, 1) := by decide +kernel
theorem dL_law_764 : decode cL_law 764 = .ok (.ifCond .eq 5, 3) := by decide +kernel
theorem dL_law_767 : decode cL_law 767 = .ok (.iconst 0, 1) := by decide +kernel
theorem dL_law_768 : decode cL_law 768 = .ok (.ireturn, 1) := by decide +kernel
theorem dL_law_769 : decode cL_law 769 = .ok (.goto 917, 3) := by decide +kernel
theorem dL_law_772 : decode cL_law 772 = .ok (.aload_n 1, 1) := by decide +kernel
theorem dL_law_773 : decode cL_law 773 = .ok (.aload_n 0, 1) := by decide +kernel
theorem dL_law_774 : decode cL_law 774 = .ok (.iload 4, 2) := by decide +kernel
theorem dL_law_776 : decode cL_law 776 = .ok (.iconst 1, 1) := by decide +kernel
theorem dL_law_777 : decode cL_law 777 = .ok (.iadd, 1) := by decide +kernel
theorem dL_law_778 : decode cL_law 778 = .ok (.iaload, 1) := by decide +kernel
theorem dL_law_779 : decode cL_law 779 = .ok (.aload_n 3, 1) := by decide +kernel
theorem dL_law_780 : decode cL_law 780 = .ok (.invokestatic 132, 3) := by decide +kernel
theorem dL_law_783 : decode cL_law 783 = .ok (.istore 5, 2) := by decide +kernel
theorem dL_law_785 : decode cL_law 785 = .ok (.aload_n 2, 1) := by decide +kernel
theorem dL_law_786 : decode cL_law 786 = .ok (.aload_n 0, 1) := by decide +kernel
theorem dL_law_787 : decode cL_law 787 = .ok (.iload 4, 2) := by decide +kernel
theorem dL_law_789 : decode cL_law 789 = .ok (.iconst 1, 1) := by decide +kernel
theorem dL_law_790 : decode cL_law 790 = .ok (.iadd, 1) := by decide +kernel
theorem dL_law_791 : decode cL_law 791 = .ok (.iaload, 1) := by decide +kernel
theorem dL_law_792 : decode cL_law 792 = .ok (.invokevirtual 134, 3) := by decide +kernel
theorem dL_law_795 : decode cL_law 795 = .ok (.istore 6, 2) := by decide +kernel
theorem dL_law_797 : decode cL_law 797 = .ok (.aload_n 2, 1) := by decide +kernel
theorem dL_law_798 : decode cL_law 798 = .ok (.invokevirtual 103, 3) := by decide +kernel
theorem dL_law_801 : decode cL_law 801 = .ok (.iload 5, 2) := by decide +kernel
theorem dL_law_803 : decode cL_law 803 = .ok (.if_icmp .eq 5, 3) := by decide +kernel
theorem dL_law_806 : decode cL_law 806 = .ok (.iconst 0, 1) := by decide +kernel
theorem dL_law_807 : decode cL_law 807 = .ok (.ireturn, 1) := by decide +kernel
theorem dL_law_808 : decode cL_law 808 = .ok (.iload 5, 2) := by decide +kernel
theorem dL_law_810 : decode cL_law 810 = .ok (.ifCond .ne 15, 3) := by decide +kernel
theorem dL_law_813 : decode cL_law 813 = .ok (.aload_n 3, 1) := by decide +kernel
theorem dL_law_814 : decode cL_law 814 = .ok (.iconst 0, 1) := by decide +kernel
theorem dL_law_815 : decode cL_law 815 = .ok (.laload, 1) := by decide +kernel
theorem dL_law_816 : decode cL_law 816 = .ok (.iload 6, 2) := by decide +kernel
theorem dL_law_818 : decode cL_law 818 = .ok (.i2l, 1) := by decide +kernel
theorem dL_law_819 : decode cL_law 819 = .ok (.lcmp, 1) := by decide +kernel
theorem dL_law_820 : decode cL_law 820 = .ok (.ifCond .eq 5, 3) := by decide +kernel
theorem dL_law_823 : decode cL_law 823 = .ok (.iconst 0, 1) := by decide +kernel
theorem dL_law_824 : decode cL_law 824 = .ok (.ireturn, 1) := by decide +kernel
theorem dL_law_825 : decode cL_law 825 = .ok (.goto 861, 3) := by decide +kernel
theorem dL_law_828 : decode cL_law 828 = .ok (.aload_n 1, 1) := by decide +kernel
theorem dL_law_829 : decode cL_law 829 = .ok (.aload_n 3, 1) := by decide +kernel
theorem dL_law_830 : decode cL_law 830 = .ok (.invokestatic 135, 3) := by decide +kernel
theorem dL_law_833 : decode cL_law 833 = .ok (.istore 5, 2) := by decide +kernel
theorem dL_law_835 : decode cL_law 835 = .ok (.aload_n 2, 1) := by decide +kernel
theorem dL_law_836 : decode cL_law 836 = .ok (.invokevirtual 138, 3) := by decide +kernel
theorem dL_law_839 : decode cL_law 839 = .ok (.istore 6, 2) := by decide +kernel
theorem dL_law_841 : decode cL_law 841 = .ok (.aload_n 2, 1) := by decide +kernel
theorem dL_law_842 : decode cL_law 842 = .ok (.invokevirtual 103, 3) := by decide +kernel
theorem dL_law_845 : decode cL_law 845 = .ok (.iload 5, 2) := by decide +kernel
theorem dL_law_847 : decode cL_law 847 = .ok (.if_icmp .eq 5, 3) := by decide +kernel
theorem dL_law_850 : decode cL_law 850 = .ok (.iconst 0, 1) := by decide +kernel
theorem dL_law_851 : decode cL_law 851 = .ok (.ireturn, 1) := by decide +kernel
theorem dL_law_852 : decode cL_law 852 = .ok (.iload 5, 2) := by decide +kernel
theorem dL_law_854 : decode cL_law 854 = .ok (.ifCond .ne 15, 3) := by decide +kernel
theorem dL_law_857 : decode cL_law 857 = .ok (.aload_n 3, 1) := by decide +kernel
theorem dL_law_858 : decode cL_law 858 = .ok (.iconst 0, 1) := by decide +kernel
theorem dL_law_859 : decode cL_law 859 = .ok (.laload, 1) := by decide +kernel
theorem dL_law_860 : decode cL_law 860 = .ok (.iload 6, 2) := by decide +kernel
theorem dL_law_862 : decode cL_law 862 = .ok (.i2l, 1) := by decide +kernel
theorem dL_law_863 : decode cL_law 863 = .ok (.lcmp, 1) := by decide +kernel
theorem dL_law_864 : decode cL_law 864 = .ok (.ifCond .eq 5, 3) := by decide +kernel
theorem dL_law_867 : decode cL_law 867 = .ok (.iconst 0, 1) := by decide +kernel
theorem dL_law_868 : decode cL_law 868 = .ok (.ireturn, 1) := by decide +kernel
theorem dL_law_869 : decode cL_law 869 = .ok (.goto 817, 3) := by decide +kernel
theorem dL_law_872 : decode cL_law 872 = .ok (.aload_n 1, 1) := by decide +kernel
theorem dL_law_873 : decode cL_law 873 = .ok (.invokevirtual 139, 3) := by decide +kernel
theorem dL_law_876 : decode cL_law 876 = .ok (.aload_n 2, 1) := by decide +kernel
theorem dL_law_877 : decode cL_law 877 = .ok (.invokevirtual 142, 3) := by decide +kernel
theorem dL_law_880 : decode cL_law 880 = .ok (.if_icmp .eq 806, 3) := by decide +kernel
theorem dL_law_883 : decode cL_law 883 = .ok (.iconst 0, 1) := by decide +kernel
theorem dL_law_884 : decode cL_law 884 = .ok (.ireturn, 1) := by decide +kernel
theorem dL_law_885 : decode cL_law 885 = .ok (.aload_n 1, 1) := by decide +kernel
theorem dL_law_886 : decode cL_law 886 = .ok (.invokevirtual 143, 3) := by decide +kernel
theorem dL_law_889 : decode cL_law 889 = .ok (.aload_n 2, 1) := by decide +kernel
theorem dL_law_890 : decode cL_law 890 = .ok (.invokevirtual 146, 3) := by decide +kernel
theorem dL_law_893 : decode cL_law 893 = .ok (.if_icmp .eq 793, 3) := by decide +kernel
theorem dL_law_896 : decode cL_law 896 = .ok (.iconst 0, 1) := by decide +kernel
theorem dL_law_897 : decode cL_law 897 = .ok (.ireturn, 1) := by decide +kernel
theorem dL_law_898 : decode cL_law 898 = .ok (.aload_n 1, 1) := by decide +kernel
theorem dL_law_899 : decode cL_law 899 = .ok (.aload_n 0, 1) := by decide +kernel
theorem dL_law_900 : decode cL_law 900 = .ok (.iload 4, 2) := by decide +kernel
theorem dL_law_902 : decode cL_law 902 = .ok (.iconst 1, 1) := by decide +kernel
theorem dL_law_903 : decode cL_law 903 = .ok (.iadd, 1) := by decide +kernel
theorem dL_law_904 : decode cL_law 904 = .ok (.iaload, 1) := by decide +kernel
theorem dL_law_905 : decode cL_law 905 = .ok (.aload_n 3, 1) := by decide +kernel
theorem dL_law_906 : decode cL_law 906 = .ok (.invokestatic 147, 3) := by decide +kernel
theorem dL_law_909 : decode cL_law 909 = .ok (.istore 5, 2) := by decide +kernel
theorem dL_law_911 : decode cL_law 911 = .ok (.aload_n 2, 1) := by decide +kernel
theorem dL_law_912 : decode cL_law 912 = .ok (.aload_n 0, 1) := by decide +kernel
theorem dL_law_913 : decode cL_law 913 = .ok (.iload 4, 2) := by decide +kernel
theorem dL_law_915 : decode cL_law 915 = .ok (.iconst 1, 1) := by decide +kernel
theorem dL_law_916 : decode cL_law 916 = .ok (.iadd, 1) := by decide +kernel
theorem dL_law_917 : decode cL_law 917 = .ok (.iaload, 1) := by decide +kernel
theorem dL_law_918 : decode cL_law 918 = .ok (.invokevirtual 149, 3) := by decide +kernel
theorem dL_law_921 : decode cL_law 921 = .ok (.istore 6, 2) := by decide +kernel
theorem dL_law_923 : decode cL_law 923 = .ok (.aload_n 2, 1) := by decide +kernel
theorem dL_law_924 : decode cL_law 924 = .ok (.invokevirtual 103, 3) := by decide +kernel
theorem dL_law_927 : decode cL_law 927 = .ok (.iload 5, 2) := by decide +kernel
theorem dL_law_929 : decode cL_law 929 = .ok (.if_icmp .eq 5, 3) := by decide +kernel
theorem dL_law_932 : decode cL_law 932 = .ok (.iconst 0, 1) := by decide +kernel
theorem dL_law_933 : decode cL_law 933 = .ok (.ireturn, 1) := by decide +kernel
theorem dL_law_934 : decode cL_law 934 = .ok (.iload 5, 2) := by decide +kernel
theorem dL_law_936 : decode cL_law 936 = .ok (.ifCond .ne 15, 3) := by decide +kernel
theorem dL_law_939 : decode cL_law 939 = .ok (.aload_n 3, 1) := by decide +kernel
theorem dL_law_940 : decode cL_law 940 = .ok (.iconst 0, 1) := by decide +kernel
theorem dL_law_941 : decode cL_law 941 = .ok (.laload, 1) := by decide +kernel
theorem dL_law_942 : decode cL_law 942 = .ok (.iload 6, 2) := by decide +kernel
theorem dL_law_944 : decode cL_law 944 = .ok (.i2l, 1) := by decide +kernel
theorem dL_law_945 : decode cL_law 945 = .ok (.lcmp, 1) := by decide +kernel
theorem dL_law_946 : decode cL_law 946 = .ok (.ifCond .eq 5, 3) := by decide +kernel
theorem dL_law_949 : decode cL_law 949 = .ok (.iconst 0, 1) := by decide +kernel
theorem dL_law_950 : decode cL_law 950 = .ok (.ireturn, 1) := by decide +kernel
theorem dL_law_951 : decode cL_law 951 = .ok (.goto 735, 3) := by decide +kernel
theorem dL_law_954 : decode cL_law 954 = .ok (.aload_n 1, 1) := by decide +kernel
theorem dL_law_955 : decode cL_law 955 = .ok (.aload_n 0, 1) := by decide +kernel
theorem dL_law_956 : decode cL_law 956 = .ok (.iload 4, 2) := by decide +kernel
theorem dL_law_958 : decode cL_law 958 = .ok (.iconst 1, 1) := by decide +kernel
theorem dL_law_959 : decode cL_law 959 = .ok (.iadd, 1) := by decide +kernel
theorem dL_law_960 : decode cL_law 960 = .ok (.iaload, 1) := by decide +kernel
theorem dL_law_961 : decode cL_law 961 = .ok (.aload_n 3, 1) := by decide +kernel
theorem dL_law_962 : decode cL_law 962 = .ok (.invokestatic 150, 3) := by decide +kernel
theorem dL_law_965 : decode cL_law 965 = .ok (.istore 5, 2) := by decide +kernel
theorem dL_law_967 : decode cL_law 967 = .ok (.aload_n 2, 1) := by decide +kernel
theorem dL_law_968 : decode cL_law 968 = .ok (.aload_n 0, 1) := by decide +kernel
theorem dL_law_969 : decode cL_law 969 = .ok (.iload 4, 2) := by decide +kernel
theorem dL_law_971 : decode cL_law 971 = .ok (.iconst 1, 1) := by decide +kernel
theorem dL_law_972 : decode cL_law 972 = .ok (.iadd, 1) := by decide +kernel
theorem dL_law_973 : decode cL_law 973 = .ok (.iaload, 1) := by decide +kernel
theorem dL_law_974 : decode cL_law 974 = .ok (.invokevirtual 152, 3) := by decide +kernel
theorem dL_law_977 : decode cL_law 977 = .ok (.istore 6, 2) := by decide +kernel
theorem dL_law_979 : decode cL_law 979 = .ok (.aload_n 2, 1) := by decide +kernel
theorem dL_law_980 : decode cL_law 980 = .ok (.invokevirtual 103, 3) := by decide +kernel
theorem dL_law_983 : decode cL_law 983 = .ok (.iload 5, 2) := by decide +kernel
theorem dL_law_985 : decode cL_law 985 = .ok (.if_icmp .eq 5, 3) := by decide +kernel
theorem dL_law_988 : decode cL_law 988 = .ok (.iconst 0, 1) := by decide +kernel
theorem dL_law_989 : decode cL_law 989 = .ok (.ireturn, 1) := by decide +kernel
theorem dL_law_990 : decode cL_law 990 = .ok (.iload 5, 2) := by decide +kernel
theorem dL_law_992 : decode cL_law 992 = .ok (.ifCond .ne 15, 3) := by decide +kernel
theorem dL_law_995 : decode cL_law 995 = .ok (.aload_n 3, 1) := by decide +kernel
theorem dL_law_996 : decode cL_law 996 = .ok (.iconst 0, 1) := by decide +kernel
theorem dL_law_997 : decode cL_law 997 = .ok (.laload, 1) := by decide +kernel
theorem dL_law_998 : decode cL_law 998 = .ok (.iload 6, 2) := by decide +kernel
theorem dL_law_1000 : decode cL_law 1000 = .ok (.i2l, 1) := by decide +kernel
theorem dL_law_1001 : decode cL_law 1001 = .ok (.lcmp, 1) := by decide +kernel
theorem dL_law_1002 : decode cL_law 1002 = .ok (.ifCond .eq 5, 3) := by decide +kernel
theorem dL_law_1005 : decode cL_law 1005 = .ok (.iconst 0, 1) := by decide +kernel
theorem dL_law_1006 : decode cL_law 1006 = .ok (.ireturn, 1) := by decide +kernel
theorem dL_law_1007 : decode cL_law 1007 = .ok (.goto 679, 3) := by decide +kernel
theorem dL_law_1010 : decode cL_law 1010 = .ok (.aload_n 1, 1) := by decide +kernel
theorem dL_law_1011 : decode cL_law 1011 = .ok (.aload_n 0, 1) := by decide +kernel
theorem dL_law_1012 : decode cL_law 1012 = .ok (.iload 4, 2) := by decide +kernel
theorem dL_law_1014 : decode cL_law 1014 = .ok (.iconst 1, 1) := by decide +kernel
theorem dL_law_1015 : decode cL_law 1015 = .ok (.iadd, 1) := by decide +kernel
theorem dL_law_1016 : decode cL_law 1016 = .ok (.iaload, 1) := by decide +kernel
theorem dL_law_1017 : decode cL_law 1017 = .ok (.aload_n 3, 1) := by decide +kernel
theorem dL_law_1018 : decode cL_law 1018 = .ok (.invokestatic 153, 3) := by decide +kernel
theorem dL_law_1021 : decode cL_law 1021 = .ok (.istore 5, 2) := by decide +kernel
theorem dL_law_1023 : decode cL_law 1023 = .ok (.aload_n 2, 1) := by decide +kernel
theorem dL_law_1024 : decode cL_law 1024 = .ok (.aload_n 0, 1) := by decide +kernel
theorem dL_law_1025 : decode cL_law 1025 = .ok (.iload 4, 2) := by decide +kernel
theorem dL_law_1027 : decode cL_law 1027 = .ok (.iconst 1, 1) := by decide +kernel
theorem dL_law_1028 : decode cL_law 1028 = .ok (.iadd, 1) := by decide +kernel
theorem dL_law_1029 : decode cL_law 1029 = .ok (.iaload, 1) := by decide +kernel
theorem dL_law_1030 : decode cL_law 1030 = .ok (.invokevirtual 155, 3) := by decide +kernel
theorem dL_law_1033 : decode cL_law 1033 = .ok (.istore 6, 2) := by decide +kernel
theorem dL_law_1035 : decode cL_law 1035 = .ok (.aload_n 2, 1) := by decide +kernel
theorem dL_law_1036 : decode cL_law 1036 = .ok (.invokevirtual 103, 3) := by decide +kernel
theorem dL_law_1039 : decode cL_law 1039 = .ok (.iload 5, 2) := by decide +kernel
theorem dL_law_1041 : decode cL_law 1041 = .ok (.if_icmp .eq 5, 3) := by decide +kernel
theorem dL_law_1044 : decode cL_law 1044 = .ok (.iconst 0, 1) := by decide +kernel
theorem dL_law_1045 : decode cL_law 1045 = .ok (.ireturn, 1) := by decide +kernel
theorem dL_law_1046 : decode cL_law 1046 = .ok (.iload 5, 2) := by decide +kernel
theorem dL_law_1048 : decode cL_law 1048 = .ok (.ifCond .ne 15, 3) := by decide +kernel
theorem dL_law_1051 : decode cL_law 1051 = .ok (.aload_n 3, 1) := by decide +kernel
theorem dL_law_1052 : decode cL_law 1052 = .ok (.iconst 0, 1) := by decide +kernel
theorem dL_law_1053 : decode cL_law 1053 = .ok (.laload, 1) := by decide +kernel
theorem dL_law_1054 : decode cL_law 1054 = .ok (.iload 6, 2) := by decide +kernel
theorem dL_law_1056 : decode cL_law 1056 = .ok (.i2l, 1) := by decide +kernel
theorem dL_law_1057 : decode cL_law 1057 = .ok (.lcmp, 1) := by decide +kernel
theorem dL_law_1058 : decode cL_law 1058 = .ok (.ifCond .eq 5, 3) := by decide +kernel
theorem dL_law_1061 : decode cL_law 1061 = .ok (.iconst 0, 1) := by decide +kernel
theorem dL_law_1062 : decode cL_law 1062 = .ok (.ireturn, 1) := by decide +kernel
theorem dL_law_1063 : decode cL_law 1063 = .ok (.goto 623, 3) := by decide +kernel
theorem dL_law_1066 : decode cL_law 1066 = .ok (.aload_n 1, 1) := by decide +kernel
theorem dL_law_1067 : decode cL_law 1067 = .ok (.invokevirtual 156, 3) := by decide +kernel
theorem dL_law_1070 : decode cL_law 1070 = .ok (.aload_n 2, 1) := by decide +kernel
theorem dL_law_1071 : decode cL_law 1071 = .ok (.invokevirtual 159, 3) := by decide +kernel
theorem dL_law_1074 : decode cL_law 1074 = .ok (.if_icmp .eq 612, 3) := by decide +kernel
theorem dL_law_1077 : decode cL_law 1077 = .ok (.iconst 0, 1) := by decide +kernel
theorem dL_law_1078 : decode cL_law 1078 = .ok (.ireturn, 1) := by decide +kernel
theorem dL_law_1079 : decode cL_law 1079 = .ok (.aload_n 1, 1) := by decide +kernel
theorem dL_law_1080 : decode cL_law 1080 = .ok (.aload_n 0, 1) := by decide +kernel
theorem dL_law_1081 : decode cL_law 1081 = .ok (.iload 4, 2) := by decide +kernel
theorem dL_law_1083 : decode cL_law 1083 = .ok (.iconst 1, 1) := by decide +kernel
theorem dL_law_1084 : decode cL_law 1084 = .ok (.iadd, 1) := by decide +kernel
theorem dL_law_1085 : decode cL_law 1085 = .ok (.iaload, 1) := by decide +kernel
theorem dL_law_1086 : decode cL_law 1086 = .ok (.aload_n 3, 1) := by decide +kernel
theorem dL_law_1087 : decode cL_law 1087 = .ok (.invokestatic 160, 3) := by decide +kernel
theorem dL_law_1090 : decode cL_law 1090 = .ok (.istore 5, 2) := by decide +kernel
theorem dL_law_1092 : decode cL_law 1092 = .ok (.aload_n 2, 1) := by decide +kernel
theorem dL_law_1093 : decode cL_law 1093 = .ok (.aload_n 0, 1) := by decide +kernel
theorem dL_law_1094 : decode cL_law 1094 = .ok (.iload 4, 2) := by decide +kernel
theorem dL_law_1096 : decode cL_law 1096 = .ok (.iconst 1, 1) := by decide +kernel
theorem dL_law_1097 : decode cL_law 1097 = .ok (.iadd, 1) := by decide +kernel
theorem dL_law_1098 : decode cL_law 1098 = .ok (.iaload, 1) := by decide +kernel
theorem dL_law_1099 : decode cL_law 1099 = .ok (.invokevirtual 162, 3) := by decide +kernel
theorem dL_law_1102 : decode cL_law 1102 = .ok (.istore 6, 2) := by decide +kernel
theorem dL_law_1104 : decode cL_law 1104 = .ok (.aload_n 2, 1) := by decide +kernel
theorem dL_law_1105 : decode cL_law 1105 = .ok (.invokevirtual 103, 3) := by decide +kernel
theorem dL_law_1108 : decode cL_law 1108 = .ok (.iload 5, 2) := by decide +kernel
theorem dL_law_1110 : decode cL_law 1110 = .ok (.if_icmp .eq 5, 3) := by decide +kernel
theorem dL_law_1113 : decode cL_law 1113 = .ok (.iconst 0, 1) := by decide +kernel
theorem dL_law_1114 : decode cL_law 1114 = .ok (.ireturn, 1) := by decide +kernel
theorem dL_law_1115 : decode cL_law 1115 = .ok (.iload 5, 2) := by decide +kernel
theorem dL_law_1117 : decode cL_law 1117 = .ok (.ifCond .ne 15, 3) := by decide +kernel
theorem dL_law_1120 : decode cL_law 1120 = .ok (.aload_n 3, 1) := by decide +kernel
theorem dL_law_1121 : decode cL_law 1121 = .ok (.iconst 0, 1) := by decide +kernel
theorem dL_law_1122 : decode cL_law 1122 = .ok (.laload, 1) := by decide +kernel
theorem dL_law_1123 : decode cL_law 1123 = .ok (.iload 6, 2) := by decide +kernel
theorem dL_law_1125 : decode cL_law 1125 = .ok (.i2l, 1) := by decide +kernel
theorem dL_law_1126 : decode cL_law 1126 = .ok (.lcmp, 1) := by decide +kernel
theorem dL_law_1127 : decode cL_law 1127 = .ok (.ifCond .eq 5, 3) := by decide +kernel
theorem dL_law_1130 : decode cL_law 1130 = .ok (.iconst 0, 1) := by decide +kernel
theorem dL_law_1131 : decode cL_law 1131 = .ok (.ireturn, 1) := by decide +kernel
theorem dL_law_1132 : decode cL_law 1132 = .ok (.goto 554, 3) := by decide +kernel
theorem dL_law_1135 : decode cL_law 1135 = .ok (.aload_n 1, 1) := by decide +kernel
theorem dL_law_1136 : decode cL_law 1136 = .ok (.aload_n 0, 1) := by decide +kernel
theorem dL_law_1137 : decode cL_law 1137 = .ok (.iload 4, 2) := by decide +kernel
theorem dL_law_1139 : decode cL_law 1139 = .ok (.iconst 1, 1) := by decide +kernel
theorem dL_law_1140 : decode cL_law 1140 = .ok (.iadd, 1) := by decide +kernel
theorem dL_law_1141 : decode cL_law 1141 = .ok (.iaload, 1) := by decide +kernel
theorem dL_law_1142 : decode cL_law 1142 = .ok (.aload_n 3, 1) := by decide +kernel
theorem dL_law_1143 : decode cL_law 1143 = .ok (.invokestatic 163, 3) := by decide +kernel
theorem dL_law_1146 : decode cL_law 1146 = .ok (.istore 5, 2) := by decide +kernel
theorem dL_law_1148 : decode cL_law 1148 = .ok (.aload_n 2, 1) := by decide +kernel
theorem dL_law_1149 : decode cL_law 1149 = .ok (.aload_n 0, 1) := by decide +kernel
theorem dL_law_1150 : decode cL_law 1150 = .ok (.iload 4, 2) := by decide +kernel
theorem dL_law_1152 : decode cL_law 1152 = .ok (.iconst 1, 1) := by decide +kernel
theorem dL_law_1153 : decode cL_law 1153 = .ok (.iadd, 1) := by decide +kernel
theorem dL_law_1154 : decode cL_law 1154 = .ok (.iaload, 1) := by decide +kernel
theorem dL_law_1155 : decode cL_law 1155 = .ok (.invokevirtual 165, 3) := by decide +kernel
theorem dL_law_1158 : decode cL_law 1158 = .ok (.istore 6, 2) := by decide +kernel
theorem dL_law_1160 : decode cL_law 1160 = .ok (.aload_n 2, 1) := by decide +kernel
theorem dL_law_1161 : decode cL_law 1161 = .ok (.invokevirtual 103, 3) := by decide +kernel
theorem dL_law_1164 : decode cL_law 1164 = .ok (.iload 5, 2) := by decide +kernel
theorem dL_law_1166 : decode cL_law 1166 = .ok (.if_icmp .eq 5, 3) := by decide +kernel
theorem dL_law_1169 : decode cL_law 1169 = .ok (.iconst 0, 1) := by decide +kernel
theorem dL_law_1170 : decode cL_law 1170 = .ok (.ireturn, 1) := by decide +kernel
theorem dL_law_1171 : decode cL_law 1171 = .ok (.iload 5, 2) := by decide +kernel
theorem dL_law_1173 : decode cL_law 1173 = .ok (.ifCond .ne 15, 3) := by decide +kernel
theorem dL_law_1176 : decode cL_law 1176 = .ok (.aload_n 3, 1) := by decide +kernel
theorem dL_law_1177 : decode cL_law 1177 = .ok (.iconst 0, 1) := by decide +kernel
theorem dL_law_1178 : decode cL_law 1178 = .ok (.laload, 1) := by decide +kernel
theorem dL_law_1179 : decode cL_law 1179 = .ok (.iload 6, 2) := by decide +kernel
theorem dL_law_1181 : decode cL_law 1181 = .ok (.i2l, 1) := by decide +kernel
theorem dL_law_1182 : decode cL_law 1182 = .ok (.lcmp, 1) := by decide +kernel
theorem dL_law_1183 : decode cL_law 1183 = .ok (.ifCond .eq 5, 3) := by decide +kernel
theorem dL_law_1186 : decode cL_law 1186 = .ok (.iconst 0, 1) := by decide +kernel
theorem dL_law_1187 : decode cL_law 1187 = .ok (.ireturn, 1) := by decide +kernel
theorem dL_law_1188 : decode cL_law 1188 = .ok (.goto 498, 3) := by decide +kernel
theorem dL_law_1191 : decode cL_law 1191 = .ok (.aload_n 1, 1) := by decide +kernel
theorem dL_law_1192 : decode cL_law 1192 = .ok (.aload_n 0, 1) := by decide +kernel
theorem dL_law_1193 : decode cL_law 1193 = .ok (.iload 4, 2) := by decide +kernel
theorem dL_law_1195 : decode cL_law 1195 = .ok (.iconst 1, 1) := by decide +kernel
theorem dL_law_1196 : decode cL_law 1196 = .ok (.iadd, 1) := by decide +kernel
theorem dL_law_1197 : decode cL_law 1197 = .ok (.iaload, 1) := by decide +kernel
theorem dL_law_1198 : decode cL_law 1198 = .ok (.aload_n 3, 1) := by decide +kernel
theorem dL_law_1199 : decode cL_law 1199 = .ok (.invokestatic 166, 3) := by decide +kernel
theorem dL_law_1202 : decode cL_law 1202 = .ok (.istore 5, 2) := by decide +kernel
theorem dL_law_1204 : decode cL_law 1204 = .ok (.aload_n 2, 1) := by decide +kernel
theorem dL_law_1205 : decode cL_law 1205 = .ok (.aload_n 0, 1) := by decide +kernel
theorem dL_law_1206 : decode cL_law 1206 = .ok (.iload 4, 2) := by decide +kernel
theorem dL_law_1208 : decode cL_law 1208 = .ok (.iconst 1, 1) := by decide +kernel
theorem dL_law_1209 : decode cL_law 1209 = .ok (.iadd, 1) := by decide +kernel
theorem dL_law_1210 : decode cL_law 1210 = .ok (.iaload, 1) := by decide +kernel
theorem dL_law_1211 : decode cL_law 1211 = .ok (.invokevirtual 168, 3) := by decide +kernel
theorem dL_law_1214 : decode cL_law 1214 = .ok (.istore 6, 2) := by decide +kernel
theorem dL_law_1216 : decode cL_law 1216 = .ok (.aload_n 2, 1) := by decide +kernel
theorem dL_law_1217 : decode cL_law 1217 = .ok (.invokevirtual 103, 3) := by decide +kernel
theorem dL_law_1220 : decode cL_law 1220 = .ok (.iload 5, 2) := by decide +kernel
theorem dL_law_1222 : decode cL_law 1222 = .ok (.if_icmp .eq 5, 3) := by decide +kernel
theorem dL_law_1225 : decode cL_law 1225 = .ok (.iconst 0, 1) := by decide +kernel
theorem dL_law_1226 : decode cL_law 1226 = .ok (.ireturn, 1) := by decide +kernel
theorem dL_law_1227 : decode cL_law 1227 = .ok (.iload 5, 2) := by decide +kernel
theorem dL_law_1229 : decode cL_law 1229 = .ok (.ifCond .ne 15, 3) := by decide +kernel
theorem dL_law_1232 : decode cL_law 1232 = .ok (.aload_n 3, 1) := by decide +kernel
theorem dL_law_1233 : decode cL_law 1233 = .ok (.iconst 0, 1) := by decide +kernel
theorem dL_law_1234 : decode cL_law 1234 = .ok (.laload, 1) := by decide +kernel
theorem dL_law_1235 : decode cL_law 1235 = .ok (.iload 6, 2) := by decide +kernel
theorem dL_law_1237 : decode cL_law 1237 = .ok (.i2l, 1) := by decide +kernel
theorem dL_law_1238 : decode cL_law 1238 = .ok (.lcmp, 1) := by decide +kernel
theorem dL_law_1239 : decode cL_law 1239 = .ok (.ifCond .eq 5, 3) := by decide +kernel
theorem dL_law_1242 : decode cL_law 1242 = .ok (.iconst 0, 1) := by decide +kernel
theorem dL_law_1243 : decode cL_law 1243 = .ok (.ireturn, 1) := by decide +kernel
theorem dL_law_1244 : decode cL_law 1244 = .ok (.goto 442, 3) := by decide +kernel
theorem dL_law_1247 : decode cL_law 1247 = .ok (.aload_n 1, 1) := by decide +kernel
theorem dL_law_1248 : decode cL_law 1248 = .ok (.aload_n 0, 1) := by decide +kernel
theorem dL_law_1249 : decode cL_law 1249 = .ok (.iload 4, 2) := by decide +kernel
theorem dL_law_1251 : decode cL_law 1251 = .ok (.iconst 1, 1) := by decide +kernel
theorem dL_law_1252 : decode cL_law 1252 = .ok (.iadd, 1) := by decide +kernel
theorem dL_law_1253 : decode cL_law 1253 = .ok (.iaload, 1) := by decide +kernel
theorem dL_law_1254 : decode cL_law 1254 = .ok (.aload_n 3, 1) := by decide +kernel
theorem dL_law_1255 : decode cL_law 1255 = .ok (.invokestatic 169, 3) := by decide +kernel
theorem dL_law_1258 : decode cL_law 1258 = .ok (.istore 5, 2) := by decide +kernel
theorem dL_law_1260 : decode cL_law 1260 = .ok (.aload_n 2, 1) := by decide +kernel
theorem dL_law_1261 : decode cL_law 1261 = .ok (.aload_n 0, 1) := by decide +kernel
theorem dL_law_1262 : decode cL_law 1262 = .ok (.iload 4, 2) := by decide +kernel
theorem dL_law_1264 : decode cL_law 1264 = .ok (.iconst 1, 1) := by decide +kernel
theorem dL_law_1265 : decode cL_law 1265 = .ok (.iadd, 1) := by decide +kernel
theorem dL_law_1266 : decode cL_law 1266 = .ok (.iaload, 1) := by decide +kernel
theorem dL_law_1267 : decode cL_law 1267 = .ok (.invokevirtual 171, 3) := by decide +kernel
theorem dL_law_1270 : decode cL_law 1270 = .ok (.istore 6, 2) := by decide +kernel
theorem dL_law_1272 : decode cL_law 1272 = .ok (.aload_n 2, 1) := by decide +kernel
theorem dL_law_1273 : decode cL_law 1273 = .ok (.invokevirtual 103, 3) := by decide +kernel
theorem dL_law_1276 : decode cL_law 1276 = .ok (.iload 5, 2) := by decide +kernel
theorem dL_law_1278 : decode cL_law 1278 = .ok (.if_icmp .eq 5, 3) := by decide +kernel
theorem dL_law_1281 : decode cL_law 1281 = .ok (.iconst 0, 1) := by decide +kernel
theorem dL_law_1282 : decode cL_law 1282 = .ok (.ireturn, 1) := by decide +kernel
theorem dL_law_1283 : decode cL_law 1283 = .ok (.iload 5, 2) := by decide +kernel
theorem dL_law_1285 : decode cL_law 1285 = .ok (.ifCond .ne 15, 3) := by decide +kernel
theorem dL_law_1288 : decode cL_law 1288 = .ok (.aload_n 3, 1) := by decide +kernel
theorem dL_law_1289 : decode cL_law 1289 = .ok (.iconst 0, 1) := by decide +kernel
theorem dL_law_1290 : decode cL_law 1290 = .ok (.laload, 1) := by decide +kernel
theorem dL_law_1291 : decode cL_law 1291 = .ok (.iload 6, 2) := by decide +kernel
theorem dL_law_1293 : decode cL_law 1293 = .ok (.i2l, 1) := by decide +kernel
theorem dL_law_1294 : decode cL_law 1294 = .ok (.lcmp, 1) := by decide +kernel
theorem dL_law_1295 : decode cL_law 1295 = .ok (.ifCond .eq 5, 3) := by decide +kernel
theorem dL_law_1298 : decode cL_law 1298 = .ok (.iconst 0, 1) := by decide +kernel
theorem dL_law_1299 : decode cL_law 1299 = .ok (.ireturn, 1) := by decide +kernel
theorem dL_law_1300 : decode cL_law 1300 = .ok (.goto 386, 3) := by decide +kernel
theorem dL_law_1303 : decode cL_law 1303 = .ok (.aload_n 1, 1) := by decide +kernel
theorem dL_law_1304 : decode cL_law 1304 = .ok (.aload_n 0, 1) := by decide +kernel
theorem dL_law_1305 : decode cL_law 1305 = .ok (.iload 4, 2) := by decide +kernel
theorem dL_law_1307 : decode cL_law 1307 = .ok (.iconst 1, 1) := by decide +kernel
theorem dL_law_1308 : decode cL_law 1308 = .ok (.iadd, 1) := by decide +kernel
theorem dL_law_1309 : decode cL_law 1309 = .ok (.iaload, 1) := by decide +kernel
theorem dL_law_1310 : decode cL_law 1310 = .ok (.aload_n 3, 1) := by decide +kernel
theorem dL_law_1311 : decode cL_law 1311 = .ok (.invokestatic 172, 3) := by decide +kernel
theorem dL_law_1314 : decode cL_law 1314 = .ok (.istore 5, 2) := by decide +kernel
theorem dL_law_1316 : decode cL_law 1316 = .ok (.aload_n 2, 1) := by decide +kernel
theorem dL_law_1317 : decode cL_law 1317 = .ok (.aload_n 0, 1) := by decide +kernel
theorem dL_law_1318 : decode cL_law 1318 = .ok (.iload 4, 2) := by decide +kernel
theorem dL_law_1320 : decode cL_law 1320 = .ok (.iconst 1, 1) := by decide +kernel
theorem dL_law_1321 : decode cL_law 1321 = .ok (.iadd, 1) := by decide +kernel
theorem dL_law_1322 : decode cL_law 1322 = .ok (.iaload, 1) := by decide +kernel
theorem dL_law_1323 : decode cL_law 1323 = .ok (.invokevirtual 174, 3) := by decide +kernel
theorem dL_law_1326 : decode cL_law 1326 = .ok (.istore 6, 2) := by decide +kernel
theorem dL_law_1328 : decode cL_law 1328 = .ok (.aload_n 2, 1) := by decide +kernel
theorem dL_law_1329 : decode cL_law 1329 = .ok (.invokevirtual 103, 3) := by decide +kernel
theorem dL_law_1332 : decode cL_law 1332 = .ok (.iload 5, 2) := by decide +kernel
theorem dL_law_1334 : decode cL_law 1334 = .ok (.if_icmp .eq 5, 3) := by decide +kernel
theorem dL_law_1337 : decode cL_law 1337 = .ok (.iconst 0, 1) := by decide +kernel
theorem dL_law_1338 : decode cL_law 1338 = .ok (.ireturn, 1) := by decide +kernel
theorem dL_law_1339 : decode cL_law 1339 = .ok (.iload 5, 2) := by decide +kernel
theorem dL_law_1341 : decode cL_law 1341 = .ok (.ifCond .ne 22, 3) := by decide +kernel
theorem dL_law_1344 : decode cL_law 1344 = .ok (.aload_n 3, 1) := by decide +kernel
theorem dL_law_1345 : decode cL_law 1345 = .ok (.iconst 0, 1) := by decide +kernel
theorem dL_law_1346 : decode cL_law 1346 = .ok (.laload, 1) := by decide +kernel
theorem dL_law_1347 : decode cL_law 1347 = .ok (.iload 6, 2) := by decide +kernel
theorem dL_law_1349 : decode cL_law 1349 = .ok (.ifCond .eq 7, 3) := by decide +kernel
theorem dL_law_1352 : decode cL_law 1352 = .ok (.lconst 1, 1) := by decide +kernel
theorem dL_law_1353 : decode cL_law 1353 = .ok (.goto 4, 3) := by decide +kernel
theorem dL_law_1356 : decode cL_law 1356 = .ok (.lconst 0, 1) := by decide +kernel
theorem dL_law_1357 : decode cL_law 1357 = .ok (.lcmp, 1) := by decide +kernel
theorem dL_law_1358 : decode cL_law 1358 = .ok (.ifCond .eq 5, 3) := by decide +kernel
theorem dL_law_1361 : decode cL_law 1361 = .ok (.iconst 0, 1) := by decide +kernel
theorem dL_law_1362 : decode cL_law 1362 = .ok (.ireturn, 1) := by decide +kernel
theorem dL_law_1363 : decode cL_law 1363 = .ok (.goto 323, 3) := by decide +kernel
theorem dL_law_1366 : decode cL_law 1366 = .ok (.aload_n 1, 1) := by decide +kernel
theorem dL_law_1367 : decode cL_law 1367 = .ok (.invokevirtual 175, 3) := by decide +kernel
theorem dL_law_1370 : decode cL_law 1370 = .ok (.aload_n 2, 1) := by decide +kernel
theorem dL_law_1371 : decode cL_law 1371 = .ok (.invokevirtual 178, 3) := by decide +kernel
theorem dL_law_1374 : decode cL_law 1374 = .ok (.if_icmp .eq 312, 3) := by decide +kernel
theorem dL_law_1377 : decode cL_law 1377 = .ok (.iconst 0, 1) := by decide +kernel
theorem dL_law_1378 : decode cL_law 1378 = .ok (.ireturn, 1) := by decide +kernel
theorem dL_law_1379 : decode cL_law 1379 = .ok (.aload_n 1, 1) := by decide +kernel
theorem dL_law_1380 : decode cL_law 1380 = .ok (.invokevirtual 179, 3) := by decide +kernel
theorem dL_law_1383 : decode cL_law 1383 = .ok (.aload_n 2, 1) := by decide +kernel
theorem dL_law_1384 : decode cL_law 1384 = .ok (.invokevirtual 182, 3) := by decide +kernel
theorem dL_law_1387 : decode cL_law 1387 = .ok (.if_icmp .eq 299, 3) := by decide +kernel
theorem dL_law_1390 : decode cL_law 1390 = .ok (.iconst 0, 1) := by decide +kernel
theorem dL_law_1391 : decode cL_law 1391 = .ok (.ireturn, 1) := by decide +kernel
theorem dL_law_1392 : decode cL_law 1392 = .ok (.aload_n 1, 1) := by decide +kernel
theorem dL_law_1393 : decode cL_law 1393 = .ok (.aload_n 0, 1) := by decide +kernel
theorem dL_law_1394 : decode cL_law 1394 = .ok (.iload 4, 2) := by decide +kernel
theorem dL_law_1396 : decode cL_law 1396 = .ok (.iconst 1, 1) := by decide +kernel
theorem dL_law_1397 : decode cL_law 1397 = .ok (.iadd, 1) := by decide +kernel
theorem dL_law_1398 : decode cL_law 1398 = .ok (.iaload, 1) := by decide +kernel
theorem dL_law_1399 : decode cL_law 1399 = .ok (.aload_n 3, 1) := by decide +kernel
theorem dL_law_1400 : decode cL_law 1400 = .ok (.invokestatic 183, 3) := by decide +kernel
theorem dL_law_1403 : decode cL_law 1403 = .ok (.istore 5, 2) := by decide +kernel
theorem dL_law_1405 : decode cL_law 1405 = .ok (.aload_n 2, 1) := by decide +kernel
theorem dL_law_1406 : decode cL_law 1406 = .ok (.aload_n 0, 1) := by decide +kernel
theorem dL_law_1407 : decode cL_law 1407 = .ok (.iload 4, 2) := by decide +kernel
theorem dL_law_1409 : decode cL_law 1409 = .ok (.iconst 1, 1) := by decide +kernel
theorem dL_law_1410 : decode cL_law 1410 = .ok (.iadd, 1) := by decide +kernel
theorem dL_law_1411 : decode cL_law 1411 = .ok (.iaload, 1) := by decide +kernel
theorem dL_law_1412 : decode cL_law 1412 = .ok (.invokevirtual 185, 3) := by decide +kernel
theorem dL_law_1415 : decode cL_law 1415 = .ok (.istore 6, 2) := by decide +kernel
theorem dL_law_1417 : decode cL_law 1417 = .ok (.aload_n 2, 1) := by decide +kernel
theorem dL_law_1418 : decode cL_law 1418 = .ok (.invokevirtual 103, 3) := by decide +kernel
theorem dL_law_1421 : decode cL_law 1421 = .ok (.iload 5, 2) := by decide +kernel
theorem dL_law_1423 : decode cL_law 1423 = .ok (.if_icmp .eq 5, 3) := by decide +kernel
theorem dL_law_1426 : decode cL_law 1426 = .ok (.iconst 0, 1) := by decide +kernel
theorem dL_law_1427 : decode cL_law 1427 = .ok (.ireturn, 1) := by decide +kernel
theorem dL_law_1428 : decode cL_law 1428 = .ok (.iload 5, 2) := by decide +kernel
theorem dL_law_1430 : decode cL_law 1430 = .ok (.ifCond .ne 15, 3) := by decide +kernel
theorem dL_law_1433 : decode cL_law 1433 = .ok (.aload_n 3, 1) := by decide +kernel
theorem dL_law_1434 : decode cL_law 1434 = .ok (.iconst 0, 1) := by decide +kernel
theorem dL_law_1435 : decode cL_law 1435 = .ok (.laload, 1) := by decide +kernel
theorem dL_law_1436 : decode cL_law 1436 = .ok (.iload 6, 2) := by decide +kernel
theorem dL_law_1438 : decode cL_law 1438 = .ok (.i2l, 1) := by decide +kernel
theorem dL_law_1439 : decode cL_law 1439 = .ok (.lcmp, 1) := by decide +kernel
theorem dL_law_1440 : decode cL_law 1440 = .ok (.ifCond .eq 5, 3) := by decide +kernel
theorem dL_law_1443 : decode cL_law 1443 = .ok (.iconst 0, 1) := by decide +kernel
theorem dL_law_1444 : decode cL_law 1444 = .ok (.ireturn, 1) := by decide +kernel
theorem dL_law_1445 : decode cL_law 1445 = .ok (.goto 241, 3) := by decide +kernel
theorem dL_law_1448 : decode cL_law 1448 = .ok (.aload_n 1, 1) := by decide +kernel
theorem dL_law_1449 : decode cL_law 1449 = .ok (.aload_n 0, 1) := by decide +kernel
theorem dL_law_1450 : decode cL_law 1450 = .ok (.iload 4, 2) := by decide +kernel
theorem dL_law_1452 : decode cL_law 1452 = .ok (.iconst 1, 1) := by decide +kernel
theorem dL_law_1453 : decode cL_law 1453 = .ok (.iadd, 1) := by decide +kernel
theorem dL_law_1454 : decode cL_law 1454 = .ok (.iaload, 1) := by decide +kernel
theorem dL_law_1455 : decode cL_law 1455 = .ok (.aload_n 3, 1) := by decide +kernel
theorem dL_law_1456 : decode cL_law 1456 = .ok (.invokestatic 186, 3) := by decide +kernel
theorem dL_law_1459 : decode cL_law 1459 = .ok (.istore 5, 2) := by decide +kernel
theorem dL_law_1461 : decode cL_law 1461 = .ok (.aload_n 2, 1) := by decide +kernel
theorem dL_law_1462 : decode cL_law 1462 = .ok (.aload_n 0, 1) := by decide +kernel
theorem dL_law_1463 : decode cL_law 1463 = .ok (.iload 4, 2) := by decide +kernel
theorem dL_law_1465 : decode cL_law 1465 = .ok (.iconst 1, 1) := by decide +kernel
theorem dL_law_1466 : decode cL_law 1466 = .ok (.iadd, 1) := by decide +kernel
theorem dL_law_1467 : decode cL_law 1467 = .ok (.iaload, 1) := by decide +kernel
theorem dL_law_1468 : decode cL_law 1468 = .ok (.invokevirtual 188, 3) := by decide +kernel
theorem dL_law_1471 : decode cL_law 1471 = .ok (.istore 6, 2) := by decide +kernel
theorem dL_law_1473 : decode cL_law 1473 = .ok (.aload_n 2, 1) := by decide +kernel
theorem dL_law_1474 : decode cL_law 1474 = .ok (.invokevirtual 103, 3) := by decide +kernel
theorem dL_law_1477 : decode cL_law 1477 = .ok (.iload 5, 2) := by decide +kernel
theorem dL_law_1479 : decode cL_law 1479 = .ok (.if_icmp .eq 5, 3) := by decide +kernel
theorem dL_law_1482 : decode cL_law 1482 = .ok (.iconst 0, 1) := by decide +kernel
theorem dL_law_1483 : decode cL_law 1483 = .ok (.ireturn, 1) := by decide +kernel
theorem dL_law_1484 : decode cL_law 1484 = .ok (.iload 5, 2) := by decide +kernel
theorem dL_law_1486 : decode cL_law 1486 = .ok (.ifCond .ne 15, 3) := by decide +kernel
theorem dL_law_1489 : decode cL_law 1489 = .ok (.aload_n 3, 1) := by decide +kernel
theorem dL_law_1490 : decode cL_law 1490 = .ok (.iconst 0, 1) := by decide +kernel
theorem dL_law_1491 : decode cL_law 1491 = .ok (.laload, 1) := by decide +kernel
theorem dL_law_1492 : decode cL_law 1492 = .ok (.iload 6, 2) := by decide +kernel
theorem dL_law_1494 : decode cL_law 1494 = .ok (.i2l, 1) := by decide +kernel
theorem dL_law_1495 : decode cL_law 1495 = .ok (.lcmp, 1) := by decide +kernel
theorem dL_law_1496 : decode cL_law 1496 = .ok (.ifCond .eq 5, 3) := by decide +kernel
theorem dL_law_1499 : decode cL_law 1499 = .ok (.iconst 0, 1) := by decide +kernel
theorem dL_law_1500 : decode cL_law 1500 = .ok (.ireturn, 1) := by decide +kernel
theorem dL_law_1501 : decode cL_law 1501 = .ok (.goto 185, 3) := by decide +kernel
theorem dL_law_1504 : decode cL_law 1504 = .ok (.aload_n 1, 1) := by decide +kernel
theorem dL_law_1505 : decode cL_law 1505 = .ok (.invokevirtual 189, 3) := by decide +kernel
theorem dL_law_1508 : decode cL_law 1508 = .ok (.aload_n 2, 1) := by decide +kernel
theorem dL_law_1509 : decode cL_law 1509 = .ok (.invokevirtual 192, 3) := by decide +kernel
theorem dL_law_1512 : decode cL_law 1512 = .ok (.if_icmp .eq 174, 3) := by decide +kernel
theorem dL_law_1515 : decode cL_law 1515 = .ok (.iconst 0, 1) := by decide +kernel
theorem dL_law_1516 : decode cL_law 1516 = .ok (.ireturn, 1) := by decide +kernel
theorem dL_law_1517 : decode cL_law 1517 = .ok (.aload_n 1, 1) := by decide +kernel
theorem dL_law_1518 : decode cL_law 1518 = .ok (.aload_n 0, 1) := by decide +kernel
theorem dL_law_1519 : decode cL_law 1519 = .ok (.iload 4, 2) := by decide +kernel
theorem dL_law_1521 : decode cL_law 1521 = .ok (.iconst 1, 1) := by decide +kernel
theorem dL_law_1522 : decode cL_law 1522 = .ok (.iadd, 1) := by decide +kernel
theorem dL_law_1523 : decode cL_law 1523 = .ok (.iaload, 1) := by decide +kernel
theorem dL_law_1524 : decode cL_law 1524 = .ok (.aload_n 3, 1) := by decide +kernel
theorem dL_law_1525 : decode cL_law 1525 = .ok (.invokestatic 193, 3) := by decide +kernel
theorem dL_law_1528 : decode cL_law 1528 = .ok (.istore 5, 2) := by decide +kernel
theorem dL_law_1530 : decode cL_law 1530 = .ok (.aload_n 2, 1) := by decide +kernel
theorem dL_law_1531 : decode cL_law 1531 = .ok (.aload_n 0, 1) := by decide +kernel
theorem dL_law_1532 : decode cL_law 1532 = .ok (.iload 4, 2) := by decide +kernel
theorem dL_law_1534 : decode cL_law 1534 = .ok (.iconst 1, 1) := by decide +kernel
theorem dL_law_1535 : decode cL_law 1535 = .ok (.iadd, 1) := by decide +kernel
theorem dL_law_1536 : decode cL_law 1536 = .ok (.iaload, 1) := by decide +kernel
theorem dL_law_1537 : decode cL_law 1537 = .ok (.invokevirtual 195, 3) := by decide +kernel
theorem dL_law_1540 : decode cL_law 1540 = .ok (.istore 6, 2) := by decide +kernel
theorem dL_law_1542 : decode cL_law 1542 = .ok (.aload_n 2, 1) := by decide +kernel
theorem dL_law_1543 : decode cL_law 1543 = .ok (.invokevirtual 103, 3) := by decide +kernel
theorem dL_law_1546 : decode cL_law 1546 = .ok (.iload 5, 2) := by decide +kernel
theorem dL_law_1548 : decode cL_law 1548 = .ok (.if_icmp .eq 5, 3) := by decide +kernel
theorem dL_law_1551 : decode cL_law 1551 = .ok (.iconst 0, 1) := by decide +kernel
theorem dL_law_1552 : decode cL_law 1552 = .ok (.ireturn, 1) := by decide +kernel
theorem dL_law_1553 : decode cL_law 1553 = .ok (.iload 5, 2) := by decide +kernel
theorem dL_law_1555 : decode cL_law 1555 = .ok (.ifCond .ne 15, 3) := by decide +kernel
theorem dL_law_1558 : decode cL_law 1558 = .ok (.aload_n 3, 1) := by decide +kernel
theorem dL_law_1559 : decode cL_law 1559 = .ok (.iconst 0, 1) := by decide +kernel
theorem dL_law_1560 : decode cL_law 1560 = .ok (.laload, 1) := by decide +kernel
theorem dL_law_1561 : decode cL_law 1561 = .ok (.iload 6, 2) := by decide +kernel
theorem dL_law_1563 : decode cL_law 1563 = .ok (.i2l, 1) := by decide +kernel
theorem dL_law_1564 : decode cL_law 1564 = .ok (.lcmp, 1) := by decide +kernel
theorem dL_law_1565 : decode cL_law 1565 = .ok (.ifCond .eq 5, 3) := by decide +kernel
theorem dL_law_1568 : decode cL_law 1568 = .ok (.iconst 0, 1) := by decide +kernel
theorem dL_law_1569 : decode cL_law 1569 = .ok (.ireturn, 1) := by decide +kernel
theorem dL_law_1570 : decode cL_law 1570 = .ok (.goto 116, 3) := by decide +kernel
theorem dL_law_1573 : decode cL_law 1573 = .ok (.aload_n 1, 1) := by decide +kernel
theorem dL_law_1574 : decode cL_law 1574 = .ok (.aload_n 0, 1) := by decide +kernel
theorem dL_law_1575 : decode cL_law 1575 = .ok (.iload 4, 2) := by decide +kernel
theorem dL_law_1577 : decode cL_law 1577 = .ok (.iconst 1, 1) := by decide +kernel
theorem dL_law_1578 : decode cL_law 1578 = .ok (.iadd, 1) := by decide +kernel
theorem dL_law_1579 : decode cL_law 1579 = .ok (.iaload, 1) := by decide +kernel
theorem dL_law_1580 : decode cL_law 1580 = .ok (.aload_n 3, 1) := by decide +kernel
theorem dL_law_1581 : decode cL_law 1581 = .ok (.invokestatic 196, 3) := by decide +kernel
theorem dL_law_1584 : decode cL_law 1584 = .ok (.istore 5, 2) := by decide +kernel
theorem dL_law_1586 : decode cL_law 1586 = .ok (.aload_n 2, 1) := by decide +kernel
theorem dL_law_1587 : decode cL_law 1587 = .ok (.aload_n 0, 1) := by decide +kernel
theorem dL_law_1588 : decode cL_law 1588 = .ok (.iload 4, 2) := by decide +kernel
theorem dL_law_1590 : decode cL_law 1590 = .ok (.iconst 1, 1) := by decide +kernel
theorem dL_law_1591 : decode cL_law 1591 = .ok (.iadd, 1) := by decide +kernel
theorem dL_law_1592 : decode cL_law 1592 = .ok (.iaload, 1) := by decide +kernel
theorem dL_law_1593 : decode cL_law 1593 = .ok (.invokevirtual 198, 3) := by decide +kernel
theorem dL_law_1596 : decode cL_law 1596 = .ok (.istore 6, 2) := by decide +kernel
theorem dL_law_1598 : decode cL_law 1598 = .ok (.aload_n 2, 1) := by decide +kernel
theorem dL_law_1599 : decode cL_law 1599 = .ok (.invokevirtual 103, 3) := by decide +kernel
theorem dL_law_1602 : decode cL_law 1602 = .ok (.iload 5, 2) := by decide +kernel
theorem dL_law_1604 : decode cL_law 1604 = .ok (.if_icmp .eq 5, 3) := by decide +kernel
theorem dL_law_1607 : decode cL_law 1607 = .ok (.iconst 0, 1) := by decide +kernel
theorem dL_law_1608 : decode cL_law 1608 = .ok (.ireturn, 1) := by decide +kernel
theorem dL_law_1609 : decode cL_law 1609 = .ok (.iload 5, 2) := by decide +kernel
theorem dL_law_1611 : decode cL_law 1611 = .ok (.ifCond .ne 15, 3) := by decide +kernel
theorem dL_law_1614 : decode cL_law 1614 = .ok (.aload_n 3, 1) := by decide +kernel
theorem dL_law_1615 : decode cL_law 1615 = .ok (.iconst 0, 1) := by decide +kernel
theorem dL_law_1616 : decode cL_law 1616 = .ok (.laload, 1) := by decide +kernel
theorem dL_law_1617 : decode cL_law 1617 = .ok (.iload 6, 2) := by decide +kernel
theorem dL_law_1619 : decode cL_law 1619 = .ok (.i2l, 1) := by decide +kernel
theorem dL_law_1620 : decode cL_law 1620 = .ok (.lcmp, 1) := by decide +kernel
theorem dL_law_1621 : decode cL_law 1621 = .ok (.ifCond .eq 5, 3) := by decide +kernel
theorem dL_law_1624 : decode cL_law 1624 = .ok (.iconst 0, 1) := by decide +kernel
theorem dL_law_1625 : decode cL_law 1625 = .ok (.ireturn, 1) := by decide +kernel
theorem dL_law_1626 : decode cL_law 1626 = .ok (.goto 60, 3) := by decide +kernel
theorem dL_law_1629 : decode cL_law 1629 = .ok (.aload_n 1, 1) := by decide +kernel
theorem dL_law_1630 : decode cL_law 1630 = .ok (.invokevirtual 199, 3) := by decide +kernel
theorem dL_law_1633 : decode cL_law 1633 = .ok (.aload_n 2, 1) := by decide +kernel
theorem dL_law_1634 : decode cL_law 1634 = .ok (.invokevirtual 203, 3) := by decide +kernel
theorem dL_law_1637 : decode cL_law 1637 = .ok (.if_icmp .eq 49, 3) := by decide +kernel
theorem dL_law_1640 : decode cL_law 1640 = .ok (.iconst 0, 1) := by decide +kernel
theorem dL_law_1641 : decode cL_law 1641 = .ok (.ireturn, 1) := by decide +kernel
theorem dL_law_1642 : decode cL_law 1642 = .ok (.aload_n 1, 1) := by decide +kernel
theorem dL_law_1643 : decode cL_law 1643 = .ok (.aload_n 3, 1) := by decide +kernel
theorem dL_law_1644 : decode cL_law 1644 = .ok (.invokestatic 204, 3) := by decide +kernel
theorem dL_law_1647 : decode cL_law 1647 = .ok (.istore 5, 2) := by decide +kernel
theorem dL_law_1649 : decode cL_law 1649 = .ok (.aload_n 2, 1) := by decide +kernel
theorem dL_law_1650 : decode cL_law 1650 = .ok (.invokevirtual 206, 3) := by decide +kernel
theorem dL_law_1653 : decode cL_law 1653 = .ok (.istore 6, 2) := by decide +kernel
theorem dL_law_1655 : decode cL_law 1655 = .ok (.aload_n 2, 1) := by decide +kernel
theorem dL_law_1656 : decode cL_law 1656 = .ok (.invokevirtual 103, 3) := by decide +kernel
theorem dL_law_1659 : decode cL_law 1659 = .ok (.iload 5, 2) := by decide +kernel
theorem dL_law_1661 : decode cL_law 1661 = .ok (.if_icmp .eq 5, 3) := by decide +kernel
theorem dL_law_1664 : decode cL_law 1664 = .ok (.iconst 0, 1) := by decide +kernel
theorem dL_law_1665 : decode cL_law 1665 = .ok (.ireturn, 1) := by decide +kernel
theorem dL_law_1666 : decode cL_law 1666 = .ok (.iload 5, 2) := by decide +kernel
theorem dL_law_1668 : decode cL_law 1668 = .ok (.ifCond .ne 15, 3) := by decide +kernel
theorem dL_law_1671 : decode cL_law 1671 = .ok (.aload_n 3, 1) := by decide +kernel
theorem dL_law_1672 : decode cL_law 1672 = .ok (.iconst 0, 1) := by decide +kernel
theorem dL_law_1673 : decode cL_law 1673 = .ok (.laload, 1) := by decide +kernel
theorem dL_law_1674 : decode cL_law 1674 = .ok (.iload 6, 2) := by decide +kernel
theorem dL_law_1676 : decode cL_law 1676 = .ok (.i2l, 1) := by decide +kernel
theorem dL_law_1677 : decode cL_law 1677 = .ok (.lcmp, 1) := by decide +kernel
theorem dL_law_1678 : decode cL_law 1678 = .ok (.ifCond .eq 5, 3) := by decide +kernel
theorem dL_law_1681 : decode cL_law 1681 = .ok (.iconst 0, 1) := by decide +kernel
theorem dL_law_1682 : decode cL_law 1682 = .ok (.ireturn, 1) := by decide +kernel
theorem dL_law_1683 : decode cL_law 1683 = .ok (.goto 3, 3) := by decide +kernel
theorem dL_law_1686 : decode cL_law 1686 = .ok (.iinc 4 5, 3) := by decide +kernel
theorem dL_law_1689 : decode cL_law 1689 = .ok (.goto (-1666), 3) := by decide +kernel
theorem dL_law_1692 : decode cL_law 1692 = .ok (.iconst 1, 1) := by decide +kernel
theorem dL_law_1693 : decode cL_law 1693 = .ok (.ireturn, 1) := by decide +kernel
