theorem dL_areStates_0 : decode cL_areStates 0 = .ok (.iload 5, 2) := by decide +kernel
theorem dL_areStates_2 : decode cL_areStates 2 = .ok (.aload_n 3, 1) := by decide +kernel
theorem dL_areStates_3 : decode cL_areStates 3 = .ok (.bipush 20, 2) := by decide +kernel
theorem dL_areStates_5 : decode cL_areStates 5 = .ok (.iaload, 1) := by decide +kernel
theorem dL_areStates_6 : decode cL_areStates 6 = .ok (.iconst 1, 1) := by decide +kernel
theorem dL_areStates_7 : decode cL_areStates 7 = .ok (.iadd, 1) := by decide +kernel
theorem dL_areStates_8 : decode cL_areStates 8 = .ok (.irem, 1) := by decide +kernel
theorem dL_areStates_9 : decode cL_areStates 9 = .ok (.istore 6, 2) := by decide +kernel
theorem dL_areStates_11 : decode cL_areStates 11 = .ok (.iconst 0, 1) := by decide +kernel
theorem dL_areStates_12 : decode cL_areStates 12 = .ok (.istore 7, 2) := by decide +kernel
theorem dL_areStates_14 : decode cL_areStates 14 = .ok (.aload 4, 2) := by decide +kernel
theorem dL_areStates_16 : decode cL_areStates 16 = .ok (.iload 6, 2) := by decide +kernel
theorem dL_areStates_18 : decode cL_areStates 18 = .ok (.laload, 1) := by decide +kernel
theorem dL_areStates_19 : decode cL_areStates 19 = .ok (.ldc2_w 63, 3) := by decide +kernel
theorem dL_areStates_22 : decode cL_areStates 22 = .ok (.lrem, 1) := by decide +kernel
theorem dL_areStates_23 : decode cL_areStates 23 = .ok (.l2i, 1) := by decide +kernel
theorem dL_areStates_24 : decode cL_areStates 24 = .ok (.istore 8, 2) := by decide +kernel
theorem dL_areStates_26 : decode cL_areStates 26 = .ok (.aload 4, 2) := by decide +kernel
theorem dL_areStates_28 : decode cL_areStates 28 = .ok (.iload 6, 2) := by decide +kernel
theorem dL_areStates_30 : decode cL_areStates 30 = .ok (.laload, 1) := by decide +kernel
theorem dL_areStates_31 : decode cL_areStates 31 = .ok (.lstore 9, 2) := by decide +kernel
theorem dL_areStates_33 : decode cL_areStates 33 = .ok (.lload 9, 2) := by decide +kernel
theorem dL_areStates_35 : decode cL_areStates 35 = .ok (.lconst 1, 1) := by decide +kernel
theorem dL_areStates_36 : decode cL_areStates 36 = .ok (.lcmp, 1) := by decide +kernel
theorem dL_areStates_37 : decode cL_areStates 37 = .ok (.ifCond .le 17, 3) := by decide +kernel
theorem dL_areStates_40 : decode cL_areStates 40 = .ok (.iinc 7 1, 3) := by decide +kernel
theorem dL_areStates_43 : decode cL_areStates 43 = .ok (.lload 9, 2) := by decide +kernel
theorem dL_areStates_45 : decode cL_areStates 45 = .ok (.ldc2_w 63, 3) := by decide +kernel
theorem dL_areStates_48 : decode cL_areStates 48 = .ok (.ldiv, 1) := by decide +kernel
theorem dL_areStates_49 : decode cL_areStates 49 = .ok (.lstore 9, 2) := by decide +kernel
theorem dL_areStates_51 : decode cL_areStates 51 = .ok (.goto (-18), 3) := by decide +kernel
theorem dL_areStates_54 : decode cL_areStates 54 = .ok (.aload_n 0, 1) := by decide +kernel
theorem dL_areStates_55 : decode cL_areStates 55 = .ok (.invokevirtual 118, 3) := by decide +kernel
theorem dL_areStates_58 : decode cL_areStates 58 = .ok (.aload_n 3, 1) := by decide +kernel
theorem dL_areStates_59 : decode cL_areStates 59 = .ok (.bipush 20, 2) := by decide +kernel
theorem dL_areStates_61 : decode cL_areStates 61 = .ok (.iaload, 1) := by decide +kernel
theorem dL_areStates_62 : decode cL_areStates 62 = .ok (.if_icmp .ne 66, 3) := by decide +kernel
theorem dL_areStates_65 : decode cL_areStates 65 = .ok (.aload_n 0, 1) := by decide +kernel
theorem dL_areStates_66 : decode cL_areStates 66 = .ok (.iload 6, 2) := by decide +kernel
theorem dL_areStates_68 : decode cL_areStates 68 = .ok (.invokevirtual 121, 3) := by decide +kernel
theorem dL_areStates_71 : decode cL_areStates 71 = .ok (.iload 7, 2) := by decide +kernel
theorem dL_areStates_73 : decode cL_areStates 73 = .ok (.if_icmp .ne 55, 3) := by decide +kernel
theorem dL_areStates_76 : decode cL_areStates 76 = .ok (.aload_n 0, 1) := by decide +kernel
theorem dL_areStates_77 : decode cL_areStates 77 = .ok (.iload 6, 2) := by decide +kernel
theorem dL_areStates_79 : decode cL_areStates 79 = .ok (.invokevirtual 123, 3) := by decide +kernel
theorem dL_areStates_82 : decode cL_areStates 82 = .ok (.iload 7, 2) := by decide +kernel
theorem dL_areStates_84 : decode cL_areStates 84 = .ok (.ifCond .ne 7, 3) := by decide +kernel
theorem dL_areStates_87 : decode cL_areStates 87 = .ok (.iconst (-1), 1) := by decide +kernel
theorem dL_areStates_88 : decode cL_areStates 88 = .ok (.goto 8, 3) := by decide +kernel
theorem dL_areStates_91 : decode cL_areStates 91 = .ok (.iload 8, 2) := by decide +kernel
theorem dL_areStates_93 : decode cL_areStates 93 = .ok (.bipush 16, 2) := by decide +kernel
theorem dL_areStates_95 : decode cL_areStates 95 = .ok (.idiv, 1) := by decide +kernel
theorem dL_areStates_96 : decode cL_areStates 96 = .ok (.if_icmp .ne 32, 3) := by decide +kernel
theorem dL_areStates_99 : decode cL_areStates 99 = .ok (.aload_n 0, 1) := by decide +kernel
theorem dL_areStates_100 : decode cL_areStates 100 = .ok (.iload 6, 2) := by decide +kernel
theorem dL_areStates_102 : decode cL_areStates 102 = .ok (.invokevirtual 126, 3) := by decide +kernel
theorem dL_areStates_105 : decode cL_areStates 105 = .ok (.iload 7, 2) := by decide +kernel
theorem dL_areStates_107 : decode cL_areStates 107 = .ok (.ifCond .ne 7, 3) := by decide +kernel
theorem dL_areStates_110 : decode cL_areStates 110 = .ok (.iconst 0, 1) := by decide +kernel
theorem dL_areStates_111 : decode cL_areStates 111 = .ok (.goto 10, 3) := by decide +kernel
theorem dL_areStates_114 : decode cL_areStates 114 = .ok (.aload_n 1, 1) := by decide +kernel
theorem dL_areStates_115 : decode cL_areStates 115 = .ok (.aload_n 2, 1) := by decide +kernel
theorem dL_areStates_116 : decode cL_areStates 116 = .ok (.iload 8, 2) := by decide +kernel
theorem dL_areStates_118 : decode cL_areStates 118 = .ok (.invokestatic 31, 3) := by decide +kernel
theorem dL_areStates_121 : decode cL_areStates 121 = .ok (.if_icmp .ne 7, 3) := by decide +kernel
theorem dL_areStates_124 : decode cL_areStates 124 = .ok (.iconst 1, 1) := by decide +kernel
theorem dL_areStates_125 : decode cL_areStates 125 = .ok (.goto 4, 3) := by decide +kernel
theorem dL_areStates_128 : decode cL_areStates 128 = .ok (.iconst 0, 1) := by decide +kernel
theorem dL_areStates_129 : decode cL_areStates 129 = .ok (.ireturn, 1) := by decide +kernel
theorem dL_slot_0 : decode cL_slot 0 = .ok (.aload_n 0, 1) := by decide +kernel
theorem dL_slot_1 : decode cL_slot 1 = .ok (.iload_n 1, 1) := by decide +kernel
theorem dL_slot_2 : decode cL_slot 2 = .ok (.iload_n 2, 1) := by decide +kernel
theorem dL_slot_3 : decode cL_slot 3 = .ok (.iload_n 3, 1) := by decide +kernel
theorem dL_slot_4 : decode cL_slot 4 = .ok (.iload 4, 2) := by decide +kernel
theorem dL_slot_6 : decode cL_slot 6 = .ok (.invokevirtual 128, 3) := by decide +kernel
theorem dL_slot_9 : decode cL_slot 9 = .ok (.ireturn, 1) := by decide +kernel
theorem dL_slot_10 : decode cL_slot 10 = .ok (.astore 5, 2) := by decide +kernel
theorem dL_slot_12 : decode cL_slot 12 = .ok (.bipush (-7), 2) := by decide +kernel
theorem dL_slot_14 : decode cL_slot 14 = .ok (.ireturn, 1) := by decide +kernel
theorem dL_twice_0 : decode cL_twice 0 = .ok (.iconst (-1), 1) := by decide +kernel
theorem dL_twice_1 : decode cL_twice 1 = .ok (.istore_n 3, 1) := by decide +kernel
theorem dL_twice_2 : decode cL_twice 2 = .ok (.iconst 0, 1) := by decide +kernel
theorem dL_twice_3 : decode cL_twice 3 = .ok (.istore 4, 2) := by decide +kernel
theorem dL_twice_5 : decode cL_twice 5 = .ok (.iload 4, 2) := by decide +kernel
theorem dL_twice_7 : decode cL_twice 7 = .ok (.iconst 2, 1) := by decide +kernel
theorem dL_twice_8 : decode cL_twice 8 = .ok (.iload_n 1, 1) := by decide +kernel
theorem dL_twice_9 : decode cL_twice 9 = .ok (.imul, 1) := by decide +kernel
theorem dL_twice_10 : decode cL_twice 10 = .ok (.if_icmp .ge 164, 3) := by decide +kernel
theorem dL_twice_13 : decode cL_twice 13 = .ok (.iconst 0, 1) := by decide +kernel
theorem dL_twice_14 : decode cL_twice 14 = .ok (.istore 5, 2) := by decide +kernel
theorem dL_twice_16 : decode cL_twice 16 = .ok (.iconst 0, 1) := by decide +kernel
theorem dL_twice_17 : decode cL_twice 17 = .ok (.istore 6, 2) := by decide +kernel
theorem dL_twice_19 : decode cL_twice 19 = .ok (.iload 4, 2) := by decide +kernel
theorem dL_twice_21 : decode cL_twice 21 = .ok (.iconst 2, 1) := by decide +kernel
theorem dL_twice_22 : decode cL_twice 22 = .ok (.irem, 1) := by decide +kernel
theorem dL_twice_23 : decode cL_twice 23 = .ok (.istore 7, 2) := by decide +kernel
theorem dL_twice_25 : decode cL_twice 25 = .ok (.iload 4, 2) := by decide +kernel
theorem dL_twice_27 : decode cL_twice 27 = .ok (.iconst 2, 1) := by decide +kernel
theorem dL_twice_28 : decode cL_twice 28 = .ok (.idiv, 1) := by decide +kernel
theorem dL_twice_29 : decode cL_twice 29 = .ok (.istore 8, 2) := by decide +kernel
theorem dL_twice_31 : decode cL_twice 31 = .ok (.iload 8, 2) := by decide +kernel
theorem dL_twice_33 : decode cL_twice 33 = .ok (.iload_n 1, 1) := by decide +kernel
theorem dL_twice_34 : decode cL_twice 34 = .ok (.if_icmp .ge 91, 3) := by decide +kernel
theorem dL_twice_37 : decode cL_twice 37 = .ok (.iload 7, 2) := by decide +kernel
theorem dL_twice_39 : decode cL_twice 39 = .ok (.ifCond .eq 19, 3) := by decide +kernel
theorem dL_twice_42 : decode cL_twice 42 = .ok (.aload_n 0, 1) := by decide +kernel
theorem dL_twice_43 : decode cL_twice 43 = .ok (.iconst 4, 1) := by decide +kernel
theorem dL_twice_44 : decode cL_twice 44 = .ok (.iload_n 2, 1) := by decide +kernel
theorem dL_twice_45 : decode cL_twice 45 = .ok (.imul, 1) := by decide +kernel
theorem dL_twice_46 : decode cL_twice 46 = .ok (.iload 8, 2) := by decide +kernel
theorem dL_twice_48 : decode cL_twice 48 = .ok (.iadd, 1) := by decide +kernel
theorem dL_twice_49 : decode cL_twice 49 = .ok (.iaload, 1) := by decide +kernel
theorem dL_twice_50 : decode cL_twice 50 = .ok (.sipush 2048, 3) := by decide +kernel
theorem dL_twice_53 : decode cL_twice 53 = .ok (.idiv, 1) := by decide +kernel
theorem dL_twice_54 : decode cL_twice 54 = .ok (.iconst 1, 1) := by decide +kernel
theorem dL_twice_55 : decode cL_twice 55 = .ok (.if_icmp .le 18, 3) := by decide +kernel
theorem dL_twice_58 : decode cL_twice 58 = .ok (.aload_n 0, 1) := by decide +kernel
theorem dL_twice_59 : decode cL_twice 59 = .ok (.iconst 4, 1) := by decide +kernel
theorem dL_twice_60 : decode cL_twice 60 = .ok (.iload_n 2, 1) := by decide +kernel
theorem dL_twice_61 : decode cL_twice 61 = .ok (.imul, 1) := by decide +kernel
theorem dL_twice_62 : decode cL_twice 62 = .ok (.iload 8, 2) := by decide +kernel
theorem dL_twice_64 : decode cL_twice 64 = .ok (.iadd, 1) := by decide +kernel
theorem dL_twice_65 : decode cL_twice 65 = .ok (.iaload, 1) := by decide +kernel
theorem dL_twice_66 : decode cL_twice 66 = .ok (.sipush 2048, 3) := by decide +kernel
theorem dL_twice_69 : decode cL_twice 69 = .ok (.irem, 1) := by decide +kernel
theorem dL_twice_70 : decode cL_twice 70 = .ok (.goto 4, 3) := by decide +kernel
theorem dL_twice_73 : decode cL_twice 73 = .ok (.iconst 0, 1) := by decide +kernel
theorem dL_twice_74 : decode cL_twice 74 = .ok (.istore 9, 2) := by decide +kernel
theorem dL_twice_76 : decode cL_twice 76 = .ok (.iload 6, 2) := by decide +kernel
theorem dL_twice_78 : decode cL_twice 78 = .ok (.iload 5, 2) := by decide +kernel
theorem dL_twice_80 : decode cL_twice 80 = .ok (.iload 9, 2) := by decide +kernel
theorem dL_twice_82 : decode cL_twice 82 = .ok (.iand, 1) := by decide +kernel
theorem dL_twice_83 : decode cL_twice 83 = .ok (.ior, 1) := by decide +kernel
theorem dL_twice_84 : decode cL_twice 84 = .ok (.istore 6, 2) := by decide +kernel
theorem dL_twice_86 : decode cL_twice 86 = .ok (.iload 5, 2) := by decide +kernel
theorem dL_twice_88 : decode cL_twice 88 = .ok (.iload 9, 2) := by decide +kernel
theorem dL_twice_90 : decode cL_twice 90 = .ok (.ior, 1) := by decide +kernel
theorem dL_twice_91 : decode cL_twice 91 = .ok (.istore 5, 2) := by decide +kernel
theorem dL_twice_93 : decode cL_twice 93 = .ok (.aload_n 0, 1) := by decide +kernel
theorem dL_twice_94 : decode cL_twice 94 = .ok (.iconst 4, 1) := by decide +kernel
theorem dL_twice_95 : decode cL_twice 95 = .ok (.iload_n 2, 1) := by decide +kernel
theorem dL_twice_96 : decode cL_twice 96 = .ok (.imul, 1) := by decide +kernel
theorem dL_twice_97 : decode cL_twice 97 = .ok (.iload 8, 2) := by decide +kernel
theorem dL_twice_99 : decode cL_twice 99 = .ok (.iadd, 1) := by decide +kernel
theorem dL_twice_100 : decode cL_twice 100 = .ok (.iload 7, 2) := by decide +kernel
theorem dL_twice_102 : decode cL_twice 102 = .ok (.invokestatic 9, 3) := by decide +kernel
theorem dL_twice_105 : decode cL_twice 105 = .ok (.ifCond .eq 8, 3) := by decide +kernel
theorem dL_twice_108 : decode cL_twice 108 = .ok (.iload 8, 2) := by decide +kernel
theorem dL_twice_110 : decode cL_twice 110 = .ok (.goto 4, 3) := by decide +kernel
theorem dL_twice_113 : decode cL_twice 113 = .ok (.iload_n 1, 1) := by decide +kernel
theorem dL_twice_114 : decode cL_twice 114 = .ok (.istore 8, 2) := by decide +kernel
theorem dL_twice_116 : decode cL_twice 116 = .ok (.iconst 0, 1) := by decide +kernel
theorem dL_twice_117 : decode cL_twice 117 = .ok (.istore 7, 2) := by decide +kernel
theorem dL_twice_119 : decode cL_twice 119 = .ok (.iinc 8 1, 3) := by decide +kernel
theorem dL_twice_122 : decode cL_twice 122 = .ok (.goto (-91), 3) := by decide +kernel
theorem dL_twice_125 : decode cL_twice 125 = .ok (.bipush 10, 2) := by decide +kernel
theorem dL_twice_127 : decode cL_twice 127 = .ok (.istore 8, 2) := by decide +kernel
theorem dL_twice_129 : decode cL_twice 129 = .ok (.iload 8, 2) := by decide +kernel
theorem dL_twice_131 : decode cL_twice 131 = .ok (.ifCond .lt 37, 3) := by decide +kernel
theorem dL_twice_134 : decode cL_twice 134 = .ok (.iload 6, 2) := by decide +kernel
theorem dL_twice_136 : decode cL_twice 136 = .ok (.iload 8, 2) := by decide +kernel
theorem dL_twice_138 : decode cL_twice 138 = .ok (.ishr, 1) := by decide +kernel
theorem dL_twice_139 : decode cL_twice 139 = .ok (.iconst 1, 1) := by decide +kernel
theorem dL_twice_140 : decode cL_twice 140 = .ok (.iand, 1) := by decide +kernel
theorem dL_twice_141 : decode cL_twice 141 = .ok (.iconst 1, 1) := by decide +kernel
theorem dL_twice_142 : decode cL_twice 142 = .ok (.if_icmp .ne 18, 3) := by decide +kernel
theorem dL_twice_145 : decode cL_twice 145 = .ok (.iload_n 3, 1) := by decide +kernel
theorem dL_twice_146 : decode cL_twice 146 = .ok (.ifCond .lt 9, 3) := by decide +kernel
theorem dL_twice_149 : decode cL_twice 149 = .ok (.iload 8, 2) := by decide +kernel
theorem dL_twice_151 : decode cL_twice 151 = .ok (.iload_n 3, 1) := by decide +kernel
theorem dL_twice_152 : decode cL_twice 152 = .ok (.if_icmp .ge 8, 3) := by decide +kernel
theorem dL_twice_155 : decode cL_twice 155 = .ok (.iload 8, 2) := by decide +kernel
theorem dL_twice_157 : decode cL_twice 157 = .ok (.goto 4, 3) := by decide +kernel
theorem dL_twice_160 : decode cL_twice 160 = .ok (.iload_n 3, 1) := by decide +kernel
theorem dL_twice_161 : decode cL_twice 161 = .ok (.istore_n 3, 1) := by decide +kernel
theorem dL_twice_162 : decode cL_twice 162 = .ok (.iinc 8 (-1), 3) := by decide +kernel
theorem dL_twice_165 : decode cL_twice 165 = .ok (.goto (-36), 3) := by decide +kernel
theorem dL_twice_168 : decode cL_twice 168 = .ok (.iinc 4 1, 3) := by decide +kernel
theorem dL_twice_171 : decode cL_twice 171 = .ok (.goto (-166), 3) := by decide +kernel
theorem dL_twice_174 : decode cL_twice 174 = .ok (.iload_n 3, 1) := by decide +kernel
theorem dL_twice_175 : decode cL_twice 175 = .ok (.ireturn, 1) := by decide +kernel
theorem dL_isGrammar_0 : decode cL_isGrammar 0 = .ok (.iload 5, 2) := by decide +kernel
theorem dL_isGrammar_2 : decode cL_isGrammar 2 = .ok (.iconst 5, 1) := by decide +kernel
theorem dL_isGrammar_3 : decode cL_isGrammar 3 = .ok (.irem, 1) := by decide +kernel
theorem dL_isGrammar_4 : decode cL_isGrammar 4 = .ok (.istore 6, 2) := by decide +kernel
theorem dL_isGrammar_6 : decode cL_isGrammar 6 = .ok (.iload 4, 2) := by decide +kernel
theorem dL_isGrammar_8 : decode cL_isGrammar 8 = .ok (.ifCond .ne 46, 3) := by decide +kernel
theorem dL_isGrammar_11 : decode cL_isGrammar 11 = .ok (.aload_n 2, 1) := by decide +kernel
theorem dL_isGrammar_12 : decode cL_isGrammar 12 = .ok (.iload 6, 2) := by decide +kernel
theorem dL_isGrammar_14 : decode cL_isGrammar 14 = .ok (.iload 5, 2) := by decide +kernel
theorem dL_isGrammar_16 : decode cL_isGrammar 16 = .ok (.iconst 5, 1) := by decide +kernel
theorem dL_isGrammar_17 : decode cL_isGrammar 17 = .ok (.idiv, 1) := by decide +kernel
theorem dL_isGrammar_18 : decode cL_isGrammar 18 = .ok (.iconst 3, 1) := by decide +kernel
theorem dL_isGrammar_19 : decode cL_isGrammar 19 = .ok (.irem, 1) := by decide +kernel
theorem dL_isGrammar_20 : decode cL_isGrammar 20 = .ok (.ifCond .le 10, 3) := by decide +kernel
theorem dL_isGrammar_23 : decode cL_isGrammar 23 = .ok (.aload_n 2, 1) := by decide +kernel
theorem dL_isGrammar_24 : decode cL_isGrammar 24 = .ok (.iload 6, 2) := by decide +kernel
theorem dL_isGrammar_26 : decode cL_isGrammar 26 = .ok (.iaload, 1) := by decide +kernel
theorem dL_isGrammar_27 : decode cL_isGrammar 27 = .ok (.goto 4, 3) := by decide +kernel
theorem dL_isGrammar_30 : decode cL_isGrammar 30 = .ok (.iconst 0, 1) := by decide +kernel
theorem dL_isGrammar_31 : decode cL_isGrammar 31 = .ok (.iastore, 1) := by decide +kernel
theorem dL_isGrammar_32 : decode cL_isGrammar 32 = .ok (.aload_n 2, 1) := by decide +kernel
theorem dL_isGrammar_33 : decode cL_isGrammar 33 = .ok (.iload 6, 2) := by decide +kernel
theorem dL_isGrammar_35 : decode cL_isGrammar 35 = .ok (.iaload, 1) := by decide +kernel
theorem dL_isGrammar_36 : decode cL_isGrammar 36 = .ok (.ifCond .gt 12, 3) := by decide +kernel
theorem dL_isGrammar_39 : decode cL_isGrammar 39 = .ok (.aload_n 0, 1) := by decide +kernel
theorem dL_isGrammar_40 : decode cL_isGrammar 40 = .ok (.iload 6, 2) := by decide +kernel
theorem dL_isGrammar_42 : decode cL_isGrammar 42 = .ok (.invokevirtual 134, 3) := by decide +kernel
theorem dL_isGrammar_45 : decode cL_isGrammar 45 = .ok (.ifCond .lt 7, 3) := by decide +kernel
theorem dL_isGrammar_48 : decode cL_isGrammar 48 = .ok (.iconst 1, 1) := by decide +kernel
theorem dL_isGrammar_49 : decode cL_isGrammar 49 = .ok (.goto 4, 3) := by decide +kernel
theorem dL_isGrammar_52 : decode cL_isGrammar 52 = .ok (.iconst 0, 1) := by decide +kernel
theorem dL_isGrammar_53 : decode cL_isGrammar 53 = .ok (.ireturn, 1) := by decide +kernel
theorem dL_isGrammar_54 : decode cL_isGrammar 54 = .ok (.iload 4, 2) := by decide +kernel
theorem dL_isGrammar_56 : decode cL_isGrammar 56 = .ok (.iconst 1, 1) := by decide +kernel
theorem dL_isGrammar_57 : decode cL_isGrammar 57 = .ok (.if_icmp .ne 91, 3) := by decide +kernel
theorem dL_isGrammar_60 : decode cL_isGrammar 60 = .ok (.aload_n 3, 1) := by decide +kernel
theorem dL_isGrammar_61 : decode cL_isGrammar 61 = .ok (.iload 6, 2) := by decide +kernel
theorem dL_isGrammar_63 : decode cL_isGrammar 63 = .ok (.aload_n 3, 1) := by decide +kernel
theorem dL_isGrammar_64 : decode cL_isGrammar 64 = .ok (.iload 6, 2) := by decide +kernel
theorem dL_isGrammar_66 : decode cL_isGrammar 66 = .ok (.iaload, 1) := by decide +kernel
theorem dL_isGrammar_67 : decode cL_isGrammar 67 = .ok (.ldc 137, 2) := by decide +kernel
theorem dL_isGrammar_69 : decode cL_isGrammar 69 = .ok (.iand, 1) := by decide +kernel
theorem dL_isGrammar_70 : decode cL_isGrammar 70 = .ok (.iload 5, 2) := by decide +kernel
theorem dL_isGrammar_72 : decode cL_isGrammar 72 = .ok (.iconst 5, 1) := by decide +kernel
theorem dL_isGrammar_73 : decode cL_isGrammar 73 = .ok (.idiv, 1) := by decide +kernel
theorem dL_isGrammar_74 : decode cL_isGrammar 74 = .ok (.iconst 3, 1) := by decide +kernel
theorem dL_isGrammar_75 : decode cL_isGrammar 75 = .ok (.irem, 1) := by decide +kernel
theorem dL_isGrammar_76 : decode cL_isGrammar 76 = .ok (.ifCond .ne 15, 3) := by decide +kernel
theorem dL_isGrammar_79 : decode cL_isGrammar 79 = .ok (.iconst 1, 1) := by decide +kernel
theorem dL_isGrammar_80 : decode cL_isGrammar 80 = .ok (.iload 5, 2) := by decide +kernel
theorem dL_isGrammar_82 : decode cL_isGrammar 82 = .ok (.bipush 15, 2) := by decide +kernel
theorem dL_isGrammar_84 : decode cL_isGrammar 84 = .ok (.idiv, 1) := by decide +kernel
theorem dL_isGrammar_85 : decode cL_isGrammar 85 = .ok (.iconst 5, 1) := by decide +kernel
theorem dL_isGrammar_86 : decode cL_isGrammar 86 = .ok (.irem, 1) := by decide +kernel
theorem dL_isGrammar_87 : decode cL_isGrammar 87 = .ok (.ishl, 1) := by decide +kernel
theorem dL_isGrammar_88 : decode cL_isGrammar 88 = .ok (.goto 4, 3) := by decide +kernel
theorem dL_isGrammar_91 : decode cL_isGrammar 91 = .ok (.iconst 0, 1) := by decide +kernel
theorem dL_isGrammar_92 : decode cL_isGrammar 92 = .ok (.ior, 1) := by decide +kernel
theorem dL_isGrammar_93 : decode cL_isGrammar 93 = .ok (.iload 5, 2) := by decide +kernel
theorem dL_isGrammar_95 : decode cL_isGrammar 95 = .ok (.bipush 75, 2) := by decide +kernel
theorem dL_isGrammar_97 : decode cL_isGrammar 97 = .ok (.idiv, 1) := by decide +kernel
theorem dL_isGrammar_98 : decode cL_isGrammar 98 = .ok (.iconst 3, 1) := by decide +kernel
theorem dL_isGrammar_99 : decode cL_isGrammar 99 = .ok (.irem, 1) := by decide +kernel
theorem dL_isGrammar_100 : decode cL_isGrammar 100 = .ok (.ifCond .ne 18, 3) := by decide +kernel
theorem dL_isGrammar_103 : decode cL_isGrammar 103 = .ok (.sipush 1024, 3) := by decide +kernel
theorem dL_isGrammar_106 : decode cL_isGrammar 106 = .ok (.iload 5, 2) := by decide +kernel
theorem dL_isGrammar_108 : decode cL_isGrammar 108 = .ok (.sipush 225, 3) := by decide +kernel
theorem dL_isGrammar_111 : decode cL_isGrammar 111 = .ok (.idiv, 1) := by decide +kernel
theorem dL_isGrammar_112 : decode cL_isGrammar 112 = .ok (.iconst 5, 1) := by decide +kernel
theorem dL_isGrammar_113 : decode cL_isGrammar 113 = .ok (.irem, 1) := by decide +kernel
theorem dL_isGrammar_114 : decode cL_isGrammar 114 = .ok (.ishl, 1) := by decide +kernel
theorem dL_isGrammar_115 : decode cL_isGrammar 115 = .ok (.goto 4, 3) := by decide +kernel
theorem dL_isGrammar_118 : decode cL_isGrammar 118 = .ok (.iconst 0, 1) := by decide +kernel
theorem dL_isGrammar_119 : decode cL_isGrammar 119 = .ok (.ior, 1) := by decide +kernel
theorem dL_isGrammar_120 : decode cL_isGrammar 120 = .ok (.iastore, 1) := by decide +kernel
theorem dL_isGrammar_121 : decode cL_isGrammar 121 = .ok (.aload_n 0, 1) := by decide +kernel
theorem dL_isGrammar_122 : decode cL_isGrammar 122 = .ok (.iload 6, 2) := by decide +kernel
theorem dL_isGrammar_124 : decode cL_isGrammar 124 = .ok (.aload_n 3, 1) := by decide +kernel
theorem dL_isGrammar_125 : decode cL_isGrammar 125 = .ok (.iload 6, 2) := by decide +kernel
theorem dL_isGrammar_127 : decode cL_isGrammar 127 = .ok (.iaload, 1) := by decide +kernel
theorem dL_isGrammar_128 : decode cL_isGrammar 128 = .ok (.sipush 1023, 3) := by decide +kernel
theorem dL_isGrammar_131 : decode cL_isGrammar 131 = .ok (.iand, 1) := by decide +kernel
theorem dL_isGrammar_132 : decode cL_isGrammar 132 = .ok (.aload_n 3, 1) := by decide +kernel
theorem dL_isGrammar_133 : decode cL_isGrammar 133 = .ok (.iload 6, 2) := by decide +kernel
theorem dL_isGrammar_135 : decode cL_isGrammar 135 = .ok (.iaload, 1) := by decide +kernel
theorem dL_isGrammar_136 : decode cL_isGrammar 136 = .ok (.bipush 10, 2) := by decide +kernel
theorem dL_isGrammar_138 : decode cL_isGrammar 138 = .ok (.ishr, 1) := by decide +kernel
theorem dL_isGrammar_139 : decode cL_isGrammar 139 = .ok (.sipush 1023, 3) := by decide +kernel
theorem dL_isGrammar_142 : decode cL_isGrammar 142 = .ok (.iand, 1) := by decide +kernel
theorem dL_isGrammar_143 : decode cL_isGrammar 143 = .ok (.invokevirtual 138, 3) := by decide +kernel
theorem dL_isGrammar_146 : decode cL_isGrammar 146 = .ok (.iconst 1, 1) := by decide +kernel
theorem dL_isGrammar_147 : decode cL_isGrammar 147 = .ok (.ireturn, 1) := by decide +kernel
theorem dL_isGrammar_148 : decode cL_isGrammar 148 = .ok (.iload 4, 2) := by decide +kernel
theorem dL_isGrammar_150 : decode cL_isGrammar 150 = .ok (.iconst 2, 1) := by decide +kernel
theorem dL_isGrammar_151 : decode cL_isGrammar 151 = .ok (.if_icmp .ne 63, 3) := by decide +kernel
theorem dL_isGrammar_154 : decode cL_isGrammar 154 = .ok (.aload_n 3, 1) := by decide +kernel
theorem dL_isGrammar_155 : decode cL_isGrammar 155 = .ok (.iload 6, 2) := by decide +kernel
theorem dL_isGrammar_157 : decode cL_isGrammar 157 = .ok (.aload_n 3, 1) := by decide +kernel
theorem dL_isGrammar_158 : decode cL_isGrammar 158 = .ok (.iload 6, 2) := by decide +kernel
theorem dL_isGrammar_160 : decode cL_isGrammar 160 = .ok (.iaload, 1) := by decide +kernel
theorem dL_isGrammar_161 : decode cL_isGrammar 161 = .ok (.ldc 142, 2) := by decide +kernel
theorem dL_isGrammar_163 : decode cL_isGrammar 163 = .ok (.iand, 1) := by decide +kernel
theorem dL_isGrammar_164 : decode cL_isGrammar 164 = .ok (.iload 5, 2) := by decide +kernel
theorem dL_isGrammar_166 : decode cL_isGrammar 166 = .ok (.iconst 5, 1) := by decide +kernel
theorem dL_isGrammar_167 : decode cL_isGrammar 167 = .ok (.idiv, 1) := by decide +kernel
theorem dL_isGrammar_168 : decode cL_isGrammar 168 = .ok (.iconst 4, 1) := by decide +kernel
theorem dL_isGrammar_169 : decode cL_isGrammar 169 = .ok (.irem, 1) := by decide +kernel
theorem dL_isGrammar_170 : decode cL_isGrammar 170 = .ok (.bipush 20, 2) := by decide +kernel
theorem dL_isGrammar_172 : decode cL_isGrammar 172 = .ok (.ishl, 1) := by decide +kernel
theorem dL_isGrammar_173 : decode cL_isGrammar 173 = .ok (.ior, 1) := by decide +kernel
theorem dL_isGrammar_174 : decode cL_isGrammar 174 = .ok (.iastore, 1) := by decide +kernel
theorem dL_isGrammar_175 : decode cL_isGrammar 175 = .ok (.aload_n 0, 1) := by decide +kernel
theorem dL_isGrammar_176 : decode cL_isGrammar 176 = .ok (.iload 6, 2) := by decide +kernel
theorem dL_isGrammar_178 : decode cL_isGrammar 178 = .ok (.iload 5, 2) := by decide +kernel
theorem dL_isGrammar_180 : decode cL_isGrammar 180 = .ok (.iconst 5, 1) := by decide +kernel
theorem dL_isGrammar_181 : decode cL_isGrammar 181 = .ok (.idiv, 1) := by decide +kernel
theorem dL_isGrammar_182 : decode cL_isGrammar 182 = .ok (.iconst 2, 1) := by decide +kernel
theorem dL_isGrammar_183 : decode cL_isGrammar 183 = .ok (.irem, 1) := by decide +kernel
theorem dL_isGrammar_184 : decode cL_isGrammar 184 = .ok (.iconst 1, 1) := by decide +kernel
theorem dL_isGrammar_185 : decode cL_isGrammar 185 = .ok (.if_icmp .ne 7, 3) := by decide +kernel
theorem dL_isGrammar_188 : decode cL_isGrammar 188 = .ok (.iconst 1, 1) := by decide +kernel
theorem dL_isGrammar_189 : decode cL_isGrammar 189 = .ok (.goto 4, 3) := by decide +kernel
theorem dL_isGrammar_192 : decode cL_isGrammar 192 = .ok (.iconst 0, 1) := by decide +kernel
theorem dL_isGrammar_193 : decode cL_isGrammar 193 = .ok (.iload 5, 2) := by decide +kernel
theorem dL_isGrammar_195 : decode cL_isGrammar 195 = .ok (.bipush 10, 2) := by decide +kernel
theorem dL_isGrammar_197 : decode cL_isGrammar 197 = .ok (.idiv, 1) := by decide +kernel
theorem dL_isGrammar_198 : decode cL_isGrammar 198 = .ok (.iconst 2, 1) := by decide +kernel
theorem dL_isGrammar_199 : decode cL_isGrammar 199 = .ok (.irem, 1) := by decide +kernel
theorem dL_isGrammar_200 : decode cL_isGrammar 200 = .ok (.iconst 1, 1) := by decide +kernel
theorem dL_isGrammar_201 : decode cL_isGrammar 201 = .ok (.if_icmp .ne 7, 3) := by decide +kernel
theorem dL_isGrammar_204 : decode cL_isGrammar 204 = .ok (.iconst 1, 1) := by decide +kernel
theorem dL_isGrammar_205 : decode cL_isGrammar 205 = .ok (.goto 4, 3) := by decide +kernel
theorem dL_isGrammar_208 : decode cL_isGrammar 208 = .ok (.iconst 0, 1) := by decide +kernel
theorem dL_isGrammar_209 : decode cL_isGrammar 209 = .ok (.invokevirtual 143, 3) := by decide +kernel
theorem dL_isGrammar_212 : decode cL_isGrammar 212 = .ok (.iconst 1, 1) := by decide +kernel
theorem dL_isGrammar_213 : decode cL_isGrammar 213 = .ok (.ireturn, 1) := by decide +kernel
theorem dL_isGrammar_214 : decode cL_isGrammar 214 = .ok (.aload_n 2, 1) := by decide +kernel
theorem dL_isGrammar_215 : decode cL_isGrammar 215 = .ok (.iload 6, 2) := by decide +kernel
theorem dL_isGrammar_217 : decode cL_isGrammar 217 = .ok (.iaload, 1) := by decide +kernel
theorem dL_isGrammar_218 : decode cL_isGrammar 218 = .ok (.iconst 4, 1) := by decide +kernel
theorem dL_isGrammar_219 : decode cL_isGrammar 219 = .ok (.if_icmp .ne 5, 3) := by decide +kernel
theorem dL_isGrammar_222 : decode cL_isGrammar 222 = .ok (.iconst 1, 1) := by decide +kernel
theorem dL_isGrammar_223 : decode cL_isGrammar 223 = .ok (.ireturn, 1) := by decide +kernel
theorem dL_isGrammar_224 : decode cL_isGrammar 224 = .ok (.iconst 1, 1) := by decide +kernel
theorem dL_isGrammar_225 : decode cL_isGrammar 225 = .ok (.iload 5, 2) := by decide +kernel
theorem dL_isGrammar_227 : decode cL_isGrammar 227 = .ok (.iconst 5, 1) := by decide +kernel
theorem dL_isGrammar_228 : decode cL_isGrammar 228 = .ok (.idiv, 1) := by decide +kernel
theorem dL_isGrammar_229 : decode cL_isGrammar 229 = .ok (.iconst 5, 1) := by decide +kernel
theorem dL_isGrammar_230 : decode cL_isGrammar 230 = .ok (.irem, 1) := by decide +kernel
theorem dL_isGrammar_231 : decode cL_isGrammar 231 = .ok (.ishl, 1) := by decide +kernel
theorem dL_isGrammar_232 : decode cL_isGrammar 232 = .ok (.iconst 1, 1) := by decide +kernel
theorem dL_isGrammar_233 : decode cL_isGrammar 233 = .ok (.iload 5, 2) := by decide +kernel
theorem dL_isGrammar_235 : decode cL_isGrammar 235 = .ok (.bipush 25, 2) := by decide +kernel
theorem dL_isGrammar_237 : decode cL_isGrammar 237 = .ok (.idiv, 1) := by decide +kernel
theorem dL_isGrammar_238 : decode cL_isGrammar 238 = .ok (.iconst 5, 1) := by decide +kernel
theorem dL_isGrammar_239 : decode cL_isGrammar 239 = .ok (.irem, 1) := by decide +kernel
theorem dL_isGrammar_240 : decode cL_isGrammar 240 = .ok (.ishl, 1) := by decide +kernel
theorem dL_isGrammar_241 : decode cL_isGrammar 241 = .ok (.ior, 1) := by decide +kernel
theorem dL_isGrammar_242 : decode cL_isGrammar 242 = .ok (.iload 5, 2) := by decide +kernel
theorem dL_isGrammar_244 : decode cL_isGrammar 244 = .ok (.bipush 125, 2) := by decide +kernel
theorem dL_isGrammar_246 : decode cL_isGrammar 246 = .ok (.idiv, 1) := by decide +kernel
theorem dL_isGrammar_247 : decode cL_isGrammar 247 = .ok (.iconst 3, 1) := by decide +kernel
theorem dL_isGrammar_248 : decode cL_isGrammar 248 = .ok (.irem, 1) := by decide +kernel
theorem dL_isGrammar_249 : decode cL_isGrammar 249 = .ok (.ifCond .ne 7, 3) := by decide +kernel
theorem dL_isGrammar_252 : decode cL_isGrammar 252 = .ok (.iconst 0, 1) := by decide +kernel
theorem dL_isGrammar_253 : decode cL_isGrammar 253 = .ok (.goto 5, 3) := by decide +kernel
theorem dL_isGrammar_256 : decode cL_isGrammar 256 = .ok (.bipush 31, 2) := by decide +kernel
theorem dL_isGrammar_258 : decode cL_isGrammar 258 = .ok (.iand, 1) := by decide +kernel
theorem dL_isGrammar_259 : decode cL_isGrammar 259 = .ok (.istore 7, 2) := by decide +kernel
theorem dL_isGrammar_261 : decode cL_isGrammar 261 = .ok (.iload 7, 2) := by decide +kernel
theorem dL_isGrammar_263 : decode cL_isGrammar 263 = .ok (.ifCond .eq 14, 3) := by decide +kernel
theorem dL_isGrammar_266 : decode cL_isGrammar 266 = .ok (.iload 5, 2) := by decide +kernel
theorem dL_isGrammar_268 : decode cL_isGrammar 268 = .ok (.sipush 375, 3) := by decide +kernel
theorem dL_isGrammar_271 : decode cL_isGrammar 271 = .ok (.idiv, 1) := by decide +kernel
theorem dL_isGrammar_272 : decode cL_isGrammar 272 = .ok (.iconst 4, 1) := by decide +kernel
theorem dL_isGrammar_273 : decode cL_isGrammar 273 = .ok (.irem, 1) := by decide +kernel
theorem dL_isGrammar_274 : decode cL_isGrammar 274 = .ok (.ifCond .ne 7, 3) := by decide +kernel
theorem dL_isGrammar_277 : decode cL_isGrammar 277 = .ok (.iconst 1, 1) := by decide +kernel
theorem dL_isGrammar_278 : decode cL_isGrammar 278 = .ok (.goto 4, 3) := by decide +kernel
theorem dL_isGrammar_281 : decode cL_isGrammar 281 = .ok (.iconst 0, 1) := by decide +kernel
theorem dL_isGrammar_282 : decode cL_isGrammar 282 = .ok (.istore 8, 2) := by decide +kernel
theorem dL_isGrammar_284 : decode cL_isGrammar 284 = .ok (.aload_n 1, 1) := by decide +kernel
theorem dL_isGrammar_285 : decode cL_isGrammar 285 = .ok (.iconst 4, 1) := by decide +kernel
theorem dL_isGrammar_286 : decode cL_isGrammar 286 = .ok (.iload 6, 2) := by decide +kernel
theorem dL_isGrammar_288 : decode cL_isGrammar 288 = .ok (.imul, 1) := by decide +kernel
theorem dL_isGrammar_289 : decode cL_isGrammar 289 = .ok (.aload_n 2, 1) := by decide +kernel
theorem dL_isGrammar_290 : decode cL_isGrammar 290 = .ok (.iload 6, 2) := by decide +kernel
theorem dL_isGrammar_292 : decode cL_isGrammar 292 = .ok (.iaload, 1) := by decide +kernel
theorem dL_isGrammar_293 : decode cL_isGrammar 293 = .ok (.iadd, 1) := by decide +kernel
theorem dL_isGrammar_294 : decode cL_isGrammar 294 = .ok (.iload 7, 2) := by decide +kernel
theorem dL_isGrammar_296 : decode cL_isGrammar 296 = .ok (.iload 8, 2) := by decide +kernel
theorem dL_isGrammar_298 : decode cL_isGrammar 298 = .ok (.ifCond .eq 9, 3) := by decide +kernel
theorem dL_isGrammar_301 : decode cL_isGrammar 301 = .ok (.sipush 1024, 3) := by decide +kernel
theorem dL_isGrammar_304 : decode cL_isGrammar 304 = .ok (.goto 4, 3) := by decide +kernel
theorem dL_isGrammar_307 : decode cL_isGrammar 307 = .ok (.iconst 0, 1) := by decide +kernel
theorem dL_isGrammar_308 : decode cL_isGrammar 308 = .ok (.iadd, 1) := by decide +kernel
theorem dL_isGrammar_309 : decode cL_isGrammar 309 = .ok (.sipush 2048, 3) := by decide +kernel
theorem dL_isGrammar_312 : decode cL_isGrammar 312 = .ok (.iload 5, 2) := by decide +kernel
theorem dL_isGrammar_314 : decode cL_isGrammar 314 = .ok (.sipush 1500, 3) := by decide +kernel
theorem dL_isGrammar_317 : decode cL_isGrammar 317 = .ok (.idiv, 1) := by decide +kernel
theorem dL_isGrammar_318 : decode cL_isGrammar 318 = .ok (.iconst 4, 1) := by decide +kernel
theorem dL_isGrammar_319 : decode cL_isGrammar 319 = .ok (.irem, 1) := by decide +kernel
theorem dL_isGrammar_320 : decode cL_isGrammar 320 = .ok (.imul, 1) := by decide +kernel
theorem dL_isGrammar_321 : decode cL_isGrammar 321 = .ok (.iadd, 1) := by decide +kernel
theorem dL_isGrammar_322 : decode cL_isGrammar 322 = .ok (.iastore, 1) := by decide +kernel
theorem dL_isGrammar_323 : decode cL_isGrammar 323 = .ok (.aload_n 1, 1) := by decide +kernel
theorem dL_isGrammar_324 : decode cL_isGrammar 324 = .ok (.aload_n 2, 1) := by decide +kernel
theorem dL_isGrammar_325 : decode cL_isGrammar 325 = .ok (.iload 6, 2) := by decide +kernel
theorem dL_isGrammar_327 : decode cL_isGrammar 327 = .ok (.iaload, 1) := by decide +kernel
theorem dL_isGrammar_328 : decode cL_isGrammar 328 = .ok (.iconst 1, 1) := by decide +kernel
theorem dL_isGrammar_329 : decode cL_isGrammar 329 = .ok (.iadd, 1) := by decide +kernel
theorem dL_isGrammar_330 : decode cL_isGrammar 330 = .ok (.iload 6, 2) := by decide +kernel
theorem dL_isGrammar_332 : decode cL_isGrammar 332 = .ok (.invokestatic 147, 3) := by decide +kernel
theorem dL_isGrammar_335 : decode cL_isGrammar 335 = .ok (.istore 9, 2) := by decide +kernel
theorem dL_isGrammar_337 : decode cL_isGrammar 337 = .ok (.aload_n 2, 1) := by decide +kernel
theorem dL_isGrammar_338 : decode cL_isGrammar 338 = .ok (.iload 6, 2) := by decide +kernel
theorem dL_isGrammar_340 : decode cL_isGrammar 340 = .ok (.dup2, 1) := by decide +kernel
theorem dL_isGrammar_341 : decode cL_isGrammar 341 = .ok (.iaload, 1) := by decide +kernel
theorem dL_isGrammar_342 : decode cL_isGrammar 342 = .ok (.iload 9, 2) := by decide +kernel
theorem dL_isGrammar_344 : decode cL_isGrammar 344 = .ok (.ifCond .ge 7, 3) := by decide +kernel
theorem dL_isGrammar_347 : decode cL_isGrammar 347 = .ok (.iconst 1, 1) := by decide +kernel
theorem dL_isGrammar_348 : decode cL_isGrammar 348 = .ok (.goto 4, 3) := by decide +kernel
theorem dL_isGrammar_351 : decode cL_isGrammar 351 = .ok (.iconst 0, 1) := by decide +kernel
theorem dL_isGrammar_352 : decode cL_isGrammar 352 = .ok (.iadd, 1) := by decide +kernel
theorem dL_isGrammar_353 : decode cL_isGrammar 353 = .ok (.iastore, 1) := by decide +kernel
theorem dL_isGrammar_354 : decode cL_isGrammar 354 = .ok (.aload_n 0, 1) := by decide +kernel
theorem dL_isGrammar_355 : decode cL_isGrammar 355 = .ok (.iload 6, 2) := by decide +kernel
theorem dL_isGrammar_357 : decode cL_isGrammar 357 = .ok (.iload 7, 2) := by decide +kernel
theorem dL_isGrammar_359 : decode cL_isGrammar 359 = .ok (.iload 8, 2) := by decide +kernel
theorem dL_isGrammar_361 : decode cL_isGrammar 361 = .ok (.iload 5, 2) := by decide +kernel
theorem dL_isGrammar_363 : decode cL_isGrammar 363 = .ok (.sipush 1500, 3) := by decide +kernel
theorem dL_isGrammar_366 : decode cL_isGrammar 366 = .ok (.idiv, 1) := by decide +kernel
theorem dL_isGrammar_367 : decode cL_isGrammar 367 = .ok (.iconst 4, 1) := by decide +kernel
theorem dL_isGrammar_368 : decode cL_isGrammar 368 = .ok (.irem, 1) := by decide +kernel
theorem dL_isGrammar_369 : decode cL_isGrammar 369 = .ok (.invokestatic 151, 3) := by decide +kernel
theorem dL_isGrammar_372 : decode cL_isGrammar 372 = .ok (.iload 9, 2) := by decide +kernel
theorem dL_isGrammar_374 : decode cL_isGrammar 374 = .ok (.if_icmp .ne 7, 3) := by decide +kernel
theorem dL_isGrammar_377 : decode cL_isGrammar 377 = .ok (.iconst 1, 1) := by decide +kernel
theorem dL_isGrammar_378 : decode cL_isGrammar 378 = .ok (.goto 4, 3) := by decide +kernel
theorem dL_isGrammar_381 : decode cL_isGrammar 381 = .ok (.iconst 0, 1) := by decide +kernel
theorem dL_isGrammar_382 : decode cL_isGrammar 382 = .ok (.ireturn, 1) := by decide +kernel
theorem dL_drawn_0 : decode cL_drawn 0 = .ok (.iload_n 0, 1) := by decide +kernel
theorem dL_drawn_1 : decode cL_drawn 1 = .ok (.bipush 16, 2) := by decide +kernel
theorem dL_drawn_3 : decode cL_drawn 3 = .ok (.irem, 1) := by decide +kernel
theorem dL_drawn_4 : decode cL_drawn 4 = .ok (.iconst 5, 1) := by decide +kernel
theorem dL_drawn_5 : decode cL_drawn 5 = .ok (.if_icmp .ge 7, 3) := by decide +kernel
theorem dL_drawn_8 : decode cL_drawn 8 = .ok (.iconst 0, 1) := by decide +kernel
theorem dL_drawn_9 : decode cL_drawn 9 = .ok (.goto 17, 3) := by decide +kernel
theorem dL_drawn_12 : decode cL_drawn 12 = .ok (.iload_n 0, 1) := by decide +kernel
theorem dL_drawn_13 : decode cL_drawn 13 = .ok (.bipush 16, 2) := by decide +kernel
theorem dL_drawn_15 : decode cL_drawn 15 = .ok (.irem, 1) := by decide +kernel
theorem dL_drawn_16 : decode cL_drawn 16 = .ok (.bipush 8, 2) := by decide +kernel
theorem dL_drawn_18 : decode cL_drawn 18 = .ok (.if_icmp .ge 7, 3) := by decide +kernel
theorem dL_drawn_21 : decode cL_drawn 21 = .ok (.iconst 1, 1) := by decide +kernel
theorem dL_drawn_22 : decode cL_drawn 22 = .ok (.goto 4, 3) := by decide +kernel
theorem dL_drawn_25 : decode cL_drawn 25 = .ok (.iconst 4, 1) := by decide +kernel
theorem dL_drawn_26 : decode cL_drawn 26 = .ok (.istore_n 1, 1) := by decide +kernel
theorem dL_drawn_27 : decode cL_drawn 27 = .ok (.iload_n 0, 1) := by decide +kernel
theorem dL_drawn_28 : decode cL_drawn 28 = .ok (.bipush 16, 2) := by decide +kernel
theorem dL_drawn_30 : decode cL_drawn 30 = .ok (.irem, 1) := by decide +kernel
theorem dL_drawn_31 : decode cL_drawn 31 = .ok (.bipush 11, 2) := by decide +kernel
theorem dL_drawn_33 : decode cL_drawn 33 = .ok (.if_icmp .ne 7, 3) := by decide +kernel
theorem dL_drawn_36 : decode cL_drawn 36 = .ok (.iconst 2, 1) := by decide +kernel
theorem dL_drawn_37 : decode cL_drawn 37 = .ok (.goto 65, 3) := by decide +kernel
theorem dL_drawn_40 : decode cL_drawn 40 = .ok (.iload_n 0, 1) := by decide +kernel
theorem dL_drawn_41 : decode cL_drawn 41 = .ok (.bipush 16, 2) := by decide +kernel
theorem dL_drawn_43 : decode cL_drawn 43 = .ok (.irem, 1) := by decide +kernel
theorem dL_drawn_44 : decode cL_drawn 44 = .ok (.bipush 12, 2) := by decide +kernel
theorem dL_drawn_46 : decode cL_drawn 46 = .ok (.if_icmp .ne 7, 3) := by decide +kernel
theorem dL_drawn_49 : decode cL_drawn 49 = .ok (.iconst 3, 1) := by decide +kernel
theorem dL_drawn_50 : decode cL_drawn 50 = .ok (.goto 52, 3) := by decide +kernel
theorem dL_drawn_53 : decode cL_drawn 53 = .ok (.iload_n 0, 1) := by decide +kernel
theorem dL_drawn_54 : decode cL_drawn 54 = .ok (.bipush 16, 2) := by decide +kernel
theorem dL_drawn_56 : decode cL_drawn 56 = .ok (.irem, 1) := by decide +kernel
theorem dL_drawn_57 : decode cL_drawn 57 = .ok (.bipush 13, 2) := by decide +kernel
theorem dL_drawn_59 : decode cL_drawn 59 = .ok (.if_icmp .ne 7, 3) := by decide +kernel
theorem dL_drawn_62 : decode cL_drawn 62 = .ok (.iconst 5, 1) := by decide +kernel
theorem dL_drawn_63 : decode cL_drawn 63 = .ok (.goto 39, 3) := by decide +kernel
theorem dL_drawn_66 : decode cL_drawn 66 = .ok (.iload_n 0, 1) := by decide +kernel
theorem dL_drawn_67 : decode cL_drawn 67 = .ok (.bipush 16, 2) := by decide +kernel
theorem dL_drawn_69 : decode cL_drawn 69 = .ok (.irem, 1) := by decide +kernel
theorem dL_drawn_70 : decode cL_drawn 70 = .ok (.bipush 14, 2) := by decide +kernel
theorem dL_drawn_72 : decode cL_drawn 72 = .ok (.if_icmp .ne 8, 3) := by decide +kernel
theorem dL_drawn_75 : decode cL_drawn 75 = .ok (.bipush 6, 2) := by decide +kernel
theorem dL_drawn_77 : decode cL_drawn 77 = .ok (.goto 25, 3) := by decide +kernel
theorem dL_drawn_80 : decode cL_drawn 80 = .ok (.iload_n 0, 1) := by decide +kernel
theorem dL_drawn_81 : decode cL_drawn 81 = .ok (.bipush 16, 2) := by decide +kernel
theorem dL_drawn_83 : decode cL_drawn 83 = .ok (.irem, 1) := by decide +kernel
theorem dL_drawn_84 : decode cL_drawn 84 = .ok (.bipush 15, 2) := by decide +kernel
theorem dL_drawn_86 : decode cL_drawn 86 = .ok (.if_icmp .ne 15, 3) := by decide +kernel
theorem dL_drawn_89 : decode cL_drawn 89 = .ok (.bipush 7, 2) := by decide +kernel
theorem dL_drawn_91 : decode cL_drawn 91 = .ok (.iload_n 0, 1) := by decide +kernel
theorem dL_drawn_92 : decode cL_drawn 92 = .ok (.bipush 16, 2) := by decide +kernel
theorem dL_drawn_94 : decode cL_drawn 94 = .ok (.idiv, 1) := by decide +kernel
theorem dL_drawn_95 : decode cL_drawn 95 = .ok (.iconst 2, 1) := by decide +kernel
theorem dL_drawn_96 : decode cL_drawn 96 = .ok (.irem, 1) := by decide +kernel
theorem dL_drawn_97 : decode cL_drawn 97 = .ok (.iadd, 1) := by decide +kernel
theorem dL_drawn_98 : decode cL_drawn 98 = .ok (.goto 4, 3) := by decide +kernel
theorem dL_drawn_101 : decode cL_drawn 101 = .ok (.iload_n 1, 1) := by decide +kernel
theorem dL_drawn_102 : decode cL_drawn 102 = .ok (.istore_n 1, 1) := by decide +kernel
theorem dL_drawn_103 : decode cL_drawn 103 = .ok (.iload_n 1, 1) := by decide +kernel
theorem dL_drawn_104 : decode cL_drawn 104 = .ok (.iconst 2, 1) := by decide +kernel
theorem dL_drawn_105 : decode cL_drawn 105 = .ok (.if_icmp .ge 12, 3) := by decide +kernel
theorem dL_drawn_108 : decode cL_drawn 108 = .ok (.iload_n 0, 1) := by decide +kernel
theorem dL_drawn_109 : decode cL_drawn 109 = .ok (.bipush 32, 2) := by decide +kernel
theorem dL_drawn_111 : decode cL_drawn 111 = .ok (.idiv, 1) := by decide +kernel
theorem dL_drawn_112 : decode cL_drawn 112 = .ok (.iconst 5, 1) := by decide +kernel
theorem dL_drawn_113 : decode cL_drawn 113 = .ok (.irem, 1) := by decide +kernel
theorem dL_drawn_114 : decode cL_drawn 114 = .ok (.goto 42, 3) := by decide +kernel
theorem dL_drawn_117 : decode cL_drawn 117 = .ok (.iload_n 1, 1) := by decide +kernel
theorem dL_drawn_118 : decode cL_drawn 118 = .ok (.iconst 4, 1) := by decide +kernel
theorem dL_drawn_119 : decode cL_drawn 119 = .ok (.if_icmp .ne 15, 3) := by decide +kernel
theorem dL_drawn_122 : decode cL_drawn 122 = .ok (.bipush 97, 2) := by decide +kernel
theorem dL_drawn_124 : decode cL_drawn 124 = .ok (.iload_n 0, 1) := by decide +kernel
theorem dL_drawn_125 : decode cL_drawn 125 = .ok (.bipush 32, 2) := by decide +kernel
theorem dL_drawn_127 : decode cL_drawn 127 = .ok (.idiv, 1) := by decide +kernel
theorem dL_drawn_128 : decode cL_drawn 128 = .ok (.iconst 3, 1) := by decide +kernel
theorem dL_drawn_129 : decode cL_drawn 129 = .ok (.irem, 1) := by decide +kernel
theorem dL_drawn_130 : decode cL_drawn 130 = .ok (.iadd, 1) := by decide +kernel
theorem dL_drawn_131 : decode cL_drawn 131 = .ok (.goto 25, 3) := by decide +kernel
theorem dL_drawn_134 : decode cL_drawn 134 = .ok (.iload_n 1, 1) := by decide +kernel
theorem dL_drawn_135 : decode cL_drawn 135 = .ok (.bipush 6, 2) := by decide +kernel
theorem dL_drawn_137 : decode cL_drawn 137 = .ok (.if_icmp .eq 9, 3) := by decide +kernel
theorem dL_drawn_140 : decode cL_drawn 140 = .ok (.iload_n 1, 1) := by decide +kernel
theorem dL_drawn_141 : decode cL_drawn 141 = .ok (.bipush 7, 2) := by decide +kernel
theorem dL_drawn_143 : decode cL_drawn 143 = .ok (.if_icmp .ne 12, 3) := by decide +kernel
theorem dL_drawn_146 : decode cL_drawn 146 = .ok (.iload_n 0, 1) := by decide +kernel
theorem dL_drawn_147 : decode cL_drawn 147 = .ok (.bipush 32, 2) := by decide +kernel
theorem dL_drawn_149 : decode cL_drawn 149 = .ok (.idiv, 1) := by decide +kernel
theorem dL_drawn_150 : decode cL_drawn 150 = .ok (.iconst 2, 1) := by decide +kernel
theorem dL_drawn_151 : decode cL_drawn 151 = .ok (.irem, 1) := by decide +kernel
theorem dL_drawn_152 : decode cL_drawn 152 = .ok (.goto 4, 3) := by decide +kernel
theorem dL_drawn_155 : decode cL_drawn 155 = .ok (.iconst 0, 1) := by decide +kernel
theorem dL_drawn_156 : decode cL_drawn 156 = .ok (.istore_n 2, 1) := by decide +kernel
theorem dL_drawn_157 : decode cL_drawn 157 = .ok (.sipush 128, 3) := by decide +kernel
theorem dL_drawn_160 : decode cL_drawn 160 = .ok (.iload_n 1, 1) := by decide +kernel
theorem dL_drawn_161 : decode cL_drawn 161 = .ok (.imul, 1) := by decide +kernel
theorem dL_drawn_162 : decode cL_drawn 162 = .ok (.iload_n 2, 1) := by decide +kernel
theorem dL_drawn_163 : decode cL_drawn 163 = .ok (.iadd, 1) := by decide +kernel
theorem dL_drawn_164 : decode cL_drawn 164 = .ok (.ireturn, 1) := by decide +kernel
theorem dL_isEdited_0 : decode cL_isEdited 0 = .ok (.iload_n 3, 1) := by decide +kernel
theorem dL_isEdited_1 : decode cL_isEdited 1 = .ok (.bipush 32, 2) := by decide +kernel
theorem dL_isEdited_3 : decode cL_isEdited 3 = .ok (.idiv, 1) := by decide +kernel
theorem dL_isEdited_4 : decode cL_isEdited 4 = .ok (.invokestatic 154, 3) := by decide +kernel
theorem dL_isEdited_7 : decode cL_isEdited 7 = .ok (.istore 4, 2) := by decide +kernel
theorem dL_isEdited_9 : decode cL_isEdited 9 = .ok (.iload_n 3, 1) := by decide +kernel
theorem dL_isEdited_10 : decode cL_isEdited 10 = .ok (.aload_n 1, 1) := by decide +kernel
theorem dL_isEdited_11 : decode cL_isEdited 11 = .ok (.bipush 20, 2) := by decide +kernel
theorem dL_isEdited_13 : decode cL_isEdited 13 = .ok (.iaload, 1) := by decide +kernel
theorem dL_isEdited_14 : decode cL_isEdited 14 = .ok (.iload_n 2, 1) := by decide +kernel
theorem dL_isEdited_15 : decode cL_isEdited 15 = .ok (.ifCond .eq 7, 3) := by decide +kernel
theorem dL_isEdited_18 : decode cL_isEdited 18 = .ok (.iconst 1, 1) := by decide +kernel
theorem dL_isEdited_19 : decode cL_isEdited 19 = .ok (.goto 4, 3) := by decide +kernel
theorem dL_isEdited_22 : decode cL_isEdited 22 = .ok (.iconst 0, 1) := by decide +kernel
theorem dL_isEdited_23 : decode cL_isEdited 23 = .ok (.iadd, 1) := by decide +kernel
theorem dL_isEdited_24 : decode cL_isEdited 24 = .ok (.irem, 1) := by decide +kernel
theorem dL_isEdited_25 : decode cL_isEdited 25 = .ok (.istore 5, 2) := by decide +kernel
theorem dL_isEdited_27 : decode cL_isEdited 27 = .ok (.iload_n 2, 1) := by decide +kernel
theorem dL_isEdited_28 : decode cL_isEdited 28 = .ok (.ifCond .eq 77, 3) := by decide +kernel
theorem dL_isEdited_31 : decode cL_isEdited 31 = .ok (.aload_n 1, 1) := by decide +kernel
theorem dL_isEdited_32 : decode cL_isEdited 32 = .ok (.bipush 20, 2) := by decide +kernel
theorem dL_isEdited_34 : decode cL_isEdited 34 = .ok (.iaload, 1) := by decide +kernel
theorem dL_isEdited_35 : decode cL_isEdited 35 = .ok (.istore 6, 2) := by decide +kernel
theorem dL_isEdited_37 : decode cL_isEdited 37 = .ok (.iload 6, 2) := by decide +kernel
theorem dL_isEdited_39 : decode cL_isEdited 39 = .ok (.iload 5, 2) := by decide +kernel
theorem dL_isEdited_41 : decode cL_isEdited 41 = .ok (.if_icmp .le 19, 3) := by decide +kernel
theorem dL_isEdited_44 : decode cL_isEdited 44 = .ok (.aload_n 1, 1) := by decide +kernel
theorem dL_isEdited_45 : decode cL_isEdited 45 = .ok (.iload 6, 2) := by decide +kernel
theorem dL_isEdited_47 : decode cL_isEdited 47 = .ok (.aload_n 1, 1) := by decide +kernel
theorem dL_isEdited_48 : decode cL_isEdited 48 = .ok (.iload 6, 2) := by decide +kernel
theorem dL_isEdited_50 : decode cL_isEdited 50 = .ok (.iconst 1, 1) := by decide +kernel
theorem dL_isEdited_51 : decode cL_isEdited 51 = .ok (.isub, 1) := by decide +kernel
theorem dL_isEdited_52 : decode cL_isEdited 52 = .ok (.iaload, 1) := by decide +kernel
theorem dL_isEdited_53 : decode cL_isEdited 53 = .ok (.iastore, 1) := by decide +kernel
theorem dL_isEdited_54 : decode cL_isEdited 54 = .ok (.iinc 6 (-1), 3) := by decide +kernel
theorem dL_isEdited_57 : decode cL_isEdited 57 = .ok (.goto (-20), 3) := by decide +kernel
theorem dL_isEdited_60 : decode cL_isEdited 60 = .ok (.aload_n 1, 1) := by decide +kernel
theorem dL_isEdited_61 : decode cL_isEdited 61 = .ok (.iload 5, 2) := by decide +kernel
theorem dL_isEdited_63 : decode cL_isEdited 63 = .ok (.iload 4, 2) := by decide +kernel
theorem dL_isEdited_65 : decode cL_isEdited 65 = .ok (.iastore, 1) := by decide +kernel
theorem dL_isEdited_66 : decode cL_isEdited 66 = .ok (.aload_n 1, 1) := by decide +kernel
theorem dL_isEdited_67 : decode cL_isEdited 67 = .ok (.bipush 20, 2) := by decide +kernel
theorem dL_isEdited_69 : decode cL_isEdited 69 = .ok (.dup2, 1) := by decide +kernel
theorem dL_isEdited_70 : decode cL_isEdited 70 = .ok (.iaload, 1) := by decide +kernel
theorem dL_isEdited_71 : decode cL_isEdited 71 = .ok (.iconst 1, 1) := by decide +kernel
theorem dL_isEdited_72 : decode cL_isEdited 72 = .ok (.iadd, 1) := by decide +kernel
theorem dL_isEdited_73 : decode cL_isEdited 73 = .ok (.iastore, 1) := by decide +kernel
theorem dL_isEdited_74 : decode cL_isEdited 74 = .ok (.aload_n 0, 1) := by decide +kernel
theorem dL_isEdited_75 : decode cL_isEdited 75 = .ok (.iload 5, 2) := by decide +kernel
theorem dL_isEdited_77 : decode cL_isEdited 77 = .ok (.iload 4, 2) := by decide +kernel
theorem dL_isEdited_79 : decode cL_isEdited 79 = .ok (.sipush 128, 3) := by decide +kernel
theorem dL_isEdited_82 : decode cL_isEdited 82 = .ok (.idiv, 1) := by decide +kernel
theorem dL_isEdited_83 : decode cL_isEdited 83 = .ok (.iload 4, 2) := by decide +kernel
theorem dL_isEdited_85 : decode cL_isEdited 85 = .ok (.sipush 128, 3) := by decide +kernel
theorem dL_isEdited_88 : decode cL_isEdited 88 = .ok (.irem, 1) := by decide +kernel
theorem dL_isEdited_89 : decode cL_isEdited 89 = .ok (.invokevirtual 157, 3) := by decide +kernel
theorem dL_isEdited_92 : decode cL_isEdited 92 = .ok (.aload_n 1, 1) := by decide +kernel
theorem dL_isEdited_93 : decode cL_isEdited 93 = .ok (.bipush 20, 2) := by decide +kernel
theorem dL_isEdited_95 : decode cL_isEdited 95 = .ok (.iaload, 1) := by decide +kernel
theorem dL_isEdited_96 : decode cL_isEdited 96 = .ok (.if_icmp .ne 7, 3) := by decide +kernel
theorem dL_isEdited_99 : decode cL_isEdited 99 = .ok (.iconst 1, 1) := by decide +kernel
theorem dL_isEdited_100 : decode cL_isEdited 100 = .ok (.goto 4, 3) := by decide +kernel
theorem dL_isEdited_103 : decode cL_isEdited 103 = .ok (.iconst 0, 1) := by decide +kernel
theorem dL_isEdited_104 : decode cL_isEdited 104 = .ok (.ireturn, 1) := by decide +kernel
theorem dL_isEdited_105 : decode cL_isEdited 105 = .ok (.iload 5, 2) := by decide +kernel
theorem dL_isEdited_107 : decode cL_isEdited 107 = .ok (.istore 6, 2) := by decide +kernel
theorem dL_isEdited_109 : decode cL_isEdited 109 = .ok (.iload 6, 2) := by decide +kernel
theorem dL_isEdited_111 : decode cL_isEdited 111 = .ok (.iconst 1, 1) := by decide +kernel
theorem dL_isEdited_112 : decode cL_isEdited 112 = .ok (.iadd, 1) := by decide +kernel
theorem dL_isEdited_113 : decode cL_isEdited 113 = .ok (.aload_n 1, 1) := by decide +kernel
theorem dL_isEdited_114 : decode cL_isEdited 114 = .ok (.bipush 20, 2) := by decide +kernel
theorem dL_isEdited_116 : decode cL_isEdited 116 = .ok (.iaload, 1) := by decide +kernel
theorem dL_isEdited_117 : decode cL_isEdited 117 = .ok (.if_icmp .ge 19, 3) := by decide +kernel
theorem dL_isEdited_120 : decode cL_isEdited 120 = .ok (.aload_n 1, 1) := by decide +kernel
theorem dL_isEdited_121 : decode cL_isEdited 121 = .ok (.iload 6, 2) := by decide +kernel
theorem dL_isEdited_123 : decode cL_isEdited 123 = .ok (.aload_n 1, 1) := by decide +kernel
theorem dL_isEdited_124 : decode cL_isEdited 124 = .ok (.iload 6, 2) := by decide +kernel
theorem dL_isEdited_126 : decode cL_isEdited 126 = .ok (.iconst 1, 1) := by decide +kernel
theorem dL_isEdited_127 : decode cL_isEdited 127 = .ok (.iadd, 1) := by decide +kernel
theorem dL_isEdited_128 : decode cL_isEdited 128 = .ok (.iaload, 1) := by decide +kernel
theorem dL_isEdited_129 : decode cL_isEdited 129 = .ok (.iastore, 1) := by decide +kernel
theorem dL_isEdited_130 : decode cL_isEdited 130 = .ok (.iinc 6 1, 3) := by decide +kernel
theorem dL_isEdited_133 : decode cL_isEdited 133 = .ok (.goto (-24), 3) := by decide +kernel
theorem dL_isEdited_136 : decode cL_isEdited 136 = .ok (.aload_n 1, 1) := by decide +kernel
theorem dL_isEdited_137 : decode cL_isEdited 137 = .ok (.bipush 20, 2) := by decide +kernel
theorem dL_isEdited_139 : decode cL_isEdited 139 = .ok (.dup2, 1) := by decide +kernel
theorem dL_isEdited_140 : decode cL_isEdited 140 = .ok (.iaload, 1) := by decide +kernel
theorem dL_isEdited_141 : decode cL_isEdited 141 = .ok (.iconst 1, 1) := by decide +kernel
theorem dL_isEdited_142 : decode cL_isEdited 142 = .ok (.isub, 1) := by decide +kernel
theorem dL_isEdited_143 : decode cL_isEdited 143 = .ok (.iastore, 1) := by decide +kernel
theorem dL_isEdited_144 : decode cL_isEdited 144 = .ok (.aload_n 0, 1) := by decide +kernel
theorem dL_isEdited_145 : decode cL_isEdited 145 = .ok (.iload 5, 2) := by decide +kernel
theorem dL_isEdited_147 : decode cL_isEdited 147 = .ok (.invokevirtual 161, 3) := by decide +kernel
theorem dL_isEdited_150 : decode cL_isEdited 150 = .ok (.aload_n 1, 1) := by decide +kernel
theorem dL_isEdited_151 : decode cL_isEdited 151 = .ok (.bipush 20, 2) := by decide +kernel
theorem dL_isEdited_153 : decode cL_isEdited 153 = .ok (.iaload, 1) := by decide +kernel
theorem dL_isEdited_154 : decode cL_isEdited 154 = .ok (.if_icmp .ne 7, 3) := by decide +kernel
theorem dL_isEdited_157 : decode cL_isEdited 157 = .ok (.iconst 1, 1) := by decide +kernel
theorem dL_isEdited_158 : decode cL_isEdited 158 = .ok (.goto 4, 3) := by decide +kernel
theorem dL_isEdited_161 : decode cL_isEdited 161 = .ok (.iconst 0, 1) := by decide +kernel
theorem dL_isEdited_162 : decode cL_isEdited 162 = .ok (.ireturn, 1) := by decide +kernel
theorem dL_anew_0 : decode cL_anew 0 = .ok (.iload_n 3, 1) := by decide +kernel
theorem dL_anew_1 : decode cL_anew 1 = .ok (.ifCond .le 22, 3) := by decide +kernel
theorem dL_anew_4 : decode cL_anew 4 = .ok (.aload_n 0, 1) := by decide +kernel
theorem dL_anew_5 : decode cL_anew 5 = .ok (.iload_n 3, 1) := by decide +kernel
theorem dL_anew_6 : decode cL_anew 6 = .ok (.iconst 1, 1) := by decide +kernel
theorem dL_anew_7 : decode cL_anew 7 = .ok (.isub, 1) := by decide +kernel
theorem dL_anew_8 : decode cL_anew 8 = .ok (.iaload, 1) := by decide +kernel
theorem dL_anew_9 : decode cL_anew 9 = .ok (.sipush 128, 3) := by decide +kernel
theorem dL_anew_12 : decode cL_anew 12 = .ok (.idiv, 1) := by decide +kernel
theorem dL_anew_13 : decode cL_anew 13 = .ok (.iconst 5, 1) := by decide +kernel
theorem dL_anew_14 : decode cL_anew 14 = .ok (.if_icmp .ne 9, 3) := by decide +kernel
theorem dL_anew_17 : decode cL_anew 17 = .ok (.iload_n 3, 1) := by decide +kernel
theorem dL_anew_18 : decode cL_anew 18 = .ok (.iconst 1, 1) := by decide +kernel
theorem dL_anew_19 : decode cL_anew 19 = .ok (.isub, 1) := by decide +kernel
theorem dL_anew_20 : decode cL_anew 20 = .ok (.goto 4, 3) := by decide +kernel
theorem dL_anew_23 : decode cL_anew 23 = .ok (.iload_n 3, 1) := by decide +kernel
theorem dL_anew_24 : decode cL_anew 24 = .ok (.istore 5, 2) := by decide +kernel
theorem dL_anew_26 : decode cL_anew 26 = .ok (.iload 4, 2) := by decide +kernel
theorem dL_anew_28 : decode cL_anew 28 = .ok (.ifCond .le 9, 3) := by decide +kernel
theorem dL_anew_31 : decode cL_anew 31 = .ok (.iload_n 3, 1) := by decide +kernel
theorem dL_anew_32 : decode cL_anew 32 = .ok (.iconst 1, 1) := by decide +kernel
theorem dL_anew_33 : decode cL_anew 33 = .ok (.iadd, 1) := by decide +kernel
theorem dL_anew_34 : decode cL_anew 34 = .ok (.goto 4, 3) := by decide +kernel
theorem dL_anew_37 : decode cL_anew 37 = .ok (.iload_n 3, 1) := by decide +kernel
theorem dL_anew_38 : decode cL_anew 38 = .ok (.istore 6, 2) := by decide +kernel
theorem dL_anew_40 : decode cL_anew 40 = .ok (.iload 6, 2) := by decide +kernel
theorem dL_anew_42 : decode cL_anew 42 = .ok (.iload 6, 2) := by decide +kernel
theorem dL_anew_44 : decode cL_anew 44 = .ok (.aload_n 0, 1) := by decide +kernel
theorem dL_anew_45 : decode cL_anew 45 = .ok (.bipush 20, 2) := by decide +kernel
theorem dL_anew_47 : decode cL_anew 47 = .ok (.iaload, 1) := by decide +kernel
theorem dL_anew_48 : decode cL_anew 48 = .ok (.if_icmp .ge 19, 3) := by decide +kernel
theorem dL_anew_51 : decode cL_anew 51 = .ok (.aload_n 0, 1) := by decide +kernel
theorem dL_anew_52 : decode cL_anew 52 = .ok (.iload 6, 2) := by decide +kernel
theorem dL_anew_54 : decode cL_anew 54 = .ok (.iaload, 1) := by decide +kernel
theorem dL_anew_55 : decode cL_anew 55 = .ok (.sipush 128, 3) := by decide +kernel
theorem dL_anew_58 : decode cL_anew 58 = .ok (.idiv, 1) := by decide +kernel
theorem dL_anew_59 : decode cL_anew 59 = .ok (.iconst 5, 1) := by decide +kernel
theorem dL_anew_60 : decode cL_anew 60 = .ok (.if_icmp .ne 7, 3) := by decide +kernel
theorem dL_anew_63 : decode cL_anew 63 = .ok (.iconst 1, 1) := by decide +kernel
theorem dL_anew_64 : decode cL_anew 64 = .ok (.goto 4, 3) := by decide +kernel
theorem dL_anew_67 : decode cL_anew 67 = .ok (.iconst 0, 1) := by decide +kernel
theorem dL_anew_68 : decode cL_anew 68 = .ok (.iadd, 1) := by decide +kernel
theorem dL_anew_69 : decode cL_anew 69 = .ok (.istore 6, 2) := by decide +kernel
theorem dL_anew_71 : decode cL_anew 71 = .ok (.iload 6, 2) := by decide +kernel
theorem dL_anew_73 : decode cL_anew 73 = .ok (.aload_n 0, 1) := by decide +kernel
theorem dL_anew_74 : decode cL_anew 74 = .ok (.bipush 20, 2) := by decide +kernel
theorem dL_anew_76 : decode cL_anew 76 = .ok (.iaload, 1) := by decide +kernel
theorem dL_anew_77 : decode cL_anew 77 = .ok (.if_icmp .ge 61, 3) := by decide +kernel
theorem dL_anew_80 : decode cL_anew 80 = .ok (.aload_n 1, 1) := by decide +kernel
theorem dL_anew_81 : decode cL_anew 81 = .ok (.iload 6, 2) := by decide +kernel
theorem dL_anew_83 : decode cL_anew 83 = .ok (.laload, 1) := by decide +kernel
theorem dL_anew_84 : decode cL_anew 84 = .ok (.aload_n 2, 1) := by decide +kernel
theorem dL_anew_85 : decode cL_anew 85 = .ok (.iload 6, 2) := by decide +kernel
theorem dL_anew_87 : decode cL_anew 87 = .ok (.iload 4, 2) := by decide +kernel
theorem dL_anew_89 : decode cL_anew 89 = .ok (.isub, 1) := by decide +kernel
theorem dL_anew_90 : decode cL_anew 90 = .ok (.laload, 1) := by decide +kernel
theorem dL_anew_91 : decode cL_anew 91 = .ok (.lcmp, 1) := by decide +kernel
theorem dL_anew_92 : decode cL_anew 92 = .ok (.ifCond .ne 40, 3) := by decide +kernel
theorem dL_anew_95 : decode cL_anew 95 = .ok (.aload_n 1, 1) := by decide +kernel
theorem dL_anew_96 : decode cL_anew 96 = .ok (.bipush 24, 2) := by decide +kernel
theorem dL_anew_98 : decode cL_anew 98 = .ok (.iload 6, 2) := by decide +kernel
theorem dL_anew_100 : decode cL_anew 100 = .ok (.iadd, 1) := by decide +kernel
theorem dL_anew_101 : decode cL_anew 101 = .ok (.laload, 1) := by decide +kernel
theorem dL_anew_102 : decode cL_anew 102 = .ok (.aload_n 2, 1) := by decide +kernel
theorem dL_anew_103 : decode cL_anew 103 = .ok (.bipush 24, 2) := by decide +kernel
theorem dL_anew_105 : decode cL_anew 105 = .ok (.iload 6, 2) := by decide +kernel
theorem dL_anew_107 : decode cL_anew 107 = .ok (.iadd, 1) := by decide +kernel
theorem dL_anew_108 : decode cL_anew 108 = .ok (.iload 4, 2) := by decide +kernel
theorem dL_anew_110 : decode cL_anew 110 = .ok (.isub, 1) := by decide +kernel
theorem dL_anew_111 : decode cL_anew 111 = .ok (.laload, 1) := by decide +kernel
theorem dL_anew_112 : decode cL_anew 112 = .ok (.lcmp, 1) := by decide +kernel
theorem dL_anew_113 : decode cL_anew 113 = .ok (.ifCond .ne 19, 3) := by decide +kernel
theorem dL_anew_116 : decode cL_anew 116 = .ok (.aload_n 1, 1) := by decide +kernel
theorem dL_anew_117 : decode cL_anew 117 = .ok (.bipush 24, 2) := by decide +kernel
theorem dL_anew_119 : decode cL_anew 119 = .ok (.iload 6, 2) := by decide +kernel
theorem dL_anew_121 : decode cL_anew 121 = .ok (.iadd, 1) := by decide +kernel
theorem dL_anew_122 : decode cL_anew 122 = .ok (.laload, 1) := by decide +kernel
theorem dL_anew_123 : decode cL_anew 123 = .ok (.ldc2_w 65, 3) := by decide +kernel
theorem dL_anew_126 : decode cL_anew 126 = .ok (.lrem, 1) := by decide +kernel
theorem dL_anew_127 : decode cL_anew 127 = .ok (.lconst 0, 1) := by decide +kernel
theorem dL_anew_128 : decode cL_anew 128 = .ok (.lcmp, 1) := by decide +kernel
theorem dL_anew_129 : decode cL_anew 129 = .ok (.ifCond .eq 9, 3) := by decide +kernel
theorem dL_anew_132 : decode cL_anew 132 = .ok (.iinc 6 1, 3) := by decide +kernel
theorem dL_anew_135 : decode cL_anew 135 = .ok (.goto (-64), 3) := by decide +kernel
theorem dL_anew_138 : decode cL_anew 138 = .ok (.iload 6, 2) := by decide +kernel
theorem dL_anew_140 : decode cL_anew 140 = .ok (.iload 5, 2) := by decide +kernel
theorem dL_anew_142 : decode cL_anew 142 = .ok (.isub, 1) := by decide +kernel
theorem dL_anew_143 : decode cL_anew 143 = .ok (.ireturn, 1) := by decide +kernel
theorem dL_isTurned_0 : decode cL_isTurned 0 = .ok (.iload_n 3, 1) := by decide +kernel
theorem dL_isTurned_1 : decode cL_isTurned 1 = .ok (.ifCond .ne 65, 3) := by decide +kernel
theorem dL_isTurned_4 : decode cL_isTurned 4 = .ok (.aload_n 1, 1) := by decide +kernel
theorem dL_isTurned_5 : decode cL_isTurned 5 = .ok (.bipush 10, 2) := by decide +kernel
theorem dL_isTurned_7 : decode cL_isTurned 7 = .ok (.iload 4, 2) := by decide +kernel
theorem dL_isTurned_9 : decode cL_isTurned 9 = .ok (.iconst 2, 1) := by decide +kernel
theorem dL_isTurned_10 : decode cL_isTurned 10 = .ok (.irem, 1) := by decide +kernel
theorem dL_isTurned_11 : decode cL_isTurned 11 = .ok (.iadd, 1) := by decide +kernel
theorem dL_isTurned_12 : decode cL_isTurned 12 = .ok (.iaload, 1) := by decide +kernel
theorem dL_isTurned_13 : decode cL_isTurned 13 = .ok (.istore 5, 2) := by decide +kernel
theorem dL_isTurned_15 : decode cL_isTurned 15 = .ok (.aload_n 1, 1) := by decide +kernel
theorem dL_isTurned_16 : decode cL_isTurned 16 = .ok (.bipush 10, 2) := by decide +kernel
theorem dL_isTurned_18 : decode cL_isTurned 18 = .ok (.iload 4, 2) := by decide +kernel
theorem dL_isTurned_20 : decode cL_isTurned 20 = .ok (.iconst 2, 1) := by decide +kernel
theorem dL_isTurned_21 : decode cL_isTurned 21 = .ok (.irem, 1) := by decide +kernel
theorem dL_isTurned_22 : decode cL_isTurned 22 = .ok (.iadd, 1) := by decide +kernel
theorem dL_isTurned_23 : decode cL_isTurned 23 = .ok (.iload 4, 2) := by decide +kernel
theorem dL_isTurned_25 : decode cL_isTurned 25 = .ok (.iconst 2, 1) := by decide +kernel
theorem dL_isTurned_26 : decode cL_isTurned 26 = .ok (.idiv, 1) := by decide +kernel
theorem dL_isTurned_27 : decode cL_isTurned 27 = .ok (.iconst 3, 1) := by decide +kernel
theorem dL_isTurned_28 : decode cL_isTurned 28 = .ok (.irem, 1) := by decide +kernel
theorem dL_isTurned_29 : decode cL_isTurned 29 = .ok (.iastore, 1) := by decide +kernel
theorem dL_isTurned_30 : decode cL_isTurned 30 = .ok (.aload_n 0, 1) := by decide +kernel
theorem dL_isTurned_31 : decode cL_isTurned 31 = .ok (.iload 4, 2) := by decide +kernel
theorem dL_isTurned_33 : decode cL_isTurned 33 = .ok (.iconst 2, 1) := by decide +kernel
theorem dL_isTurned_34 : decode cL_isTurned 34 = .ok (.irem, 1) := by decide +kernel
theorem dL_isTurned_35 : decode cL_isTurned 35 = .ok (.iload 4, 2) := by decide +kernel
theorem dL_isTurned_37 : decode cL_isTurned 37 = .ok (.iconst 2, 1) := by decide +kernel
theorem dL_isTurned_38 : decode cL_isTurned 38 = .ok (.idiv, 1) := by decide +kernel
theorem dL_isTurned_39 : decode cL_isTurned 39 = .ok (.iconst 3, 1) := by decide +kernel
theorem dL_isTurned_40 : decode cL_isTurned 40 = .ok (.irem, 1) := by decide +kernel
theorem dL_isTurned_41 : decode cL_isTurned 41 = .ok (.invokevirtual 164, 3) := by decide +kernel
theorem dL_isTurned_44 : decode cL_isTurned 44 = .ok (.iload 5, 2) := by decide +kernel
theorem dL_isTurned_46 : decode cL_isTurned 46 = .ok (.if_icmp .ne 18, 3) := by decide +kernel
theorem dL_isTurned_49 : decode cL_isTurned 49 = .ok (.aload_n 0, 1) := by decide +kernel
theorem dL_isTurned_50 : decode cL_isTurned 50 = .ok (.invokevirtual 168, 3) := by decide +kernel
theorem dL_isTurned_53 : decode cL_isTurned 53 = .ok (.aload_n 2, 1) := by decide +kernel
theorem dL_isTurned_54 : decode cL_isTurned 54 = .ok (.bipush 20, 2) := by decide +kernel
theorem dL_isTurned_56 : decode cL_isTurned 56 = .ok (.iaload, 1) := by decide +kernel
theorem dL_isTurned_57 : decode cL_isTurned 57 = .ok (.if_icmp .ne 7, 3) := by decide +kernel
theorem dL_isTurned_60 : decode cL_isTurned 60 = .ok (.iconst 1, 1) := by decide +kernel
theorem dL_isTurned_61 : decode cL_isTurned 61 = .ok (.goto 4, 3) := by decide +kernel
theorem dL_isTurned_64 : decode cL_isTurned 64 = .ok (.iconst 0, 1) := by decide +kernel
theorem dL_isTurned_65 : decode cL_isTurned 65 = .ok (.ireturn, 1) := by decide +kernel
theorem dL_isTurned_66 : decode cL_isTurned 66 = .ok (.iload_n 3, 1) := by decide +kernel
theorem dL_isTurned_67 : decode cL_isTurned 67 = .ok (.iconst 1, 1) := by decide +kernel
theorem dL_isTurned_68 : decode cL_isTurned 68 = .ok (.if_icmp .eq 16, 3) := by decide +kernel
theorem dL_isTurned_71 : decode cL_isTurned 71 = .ok (.aload_n 1, 1) := by decide +kernel
theorem dL_isTurned_72 : decode cL_isTurned 72 = .ok (.bipush 8, 2) := by decide +kernel
theorem dL_isTurned_74 : decode cL_isTurned 74 = .ok (.iload 4, 2) := by decide +kernel
theorem dL_isTurned_76 : decode cL_isTurned 76 = .ok (.iconst 2, 1) := by decide +kernel
theorem dL_isTurned_77 : decode cL_isTurned 77 = .ok (.irem, 1) := by decide +kernel
theorem dL_isTurned_78 : decode cL_isTurned 78 = .ok (.iadd, 1) := by decide +kernel
theorem dL_isTurned_79 : decode cL_isTurned 79 = .ok (.iaload, 1) := by decide +kernel
theorem dL_isTurned_80 : decode cL_isTurned 80 = .ok (.iconst 4, 1) := by decide +kernel
theorem dL_isTurned_81 : decode cL_isTurned 81 = .ok (.if_icmp .ne 43, 3) := by decide +kernel
theorem dL_isTurned_84 : decode cL_isTurned 84 = .ok (.aload_n 1, 1) := by decide +kernel
theorem dL_isTurned_85 : decode cL_isTurned 85 = .ok (.bipush 8, 2) := by decide +kernel
theorem dL_isTurned_87 : decode cL_isTurned 87 = .ok (.iload 4, 2) := by decide +kernel
theorem dL_isTurned_89 : decode cL_isTurned 89 = .ok (.iconst 2, 1) := by decide +kernel
theorem dL_isTurned_90 : decode cL_isTurned 90 = .ok (.irem, 1) := by decide +kernel
theorem dL_isTurned_91 : decode cL_isTurned 91 = .ok (.iadd, 1) := by decide +kernel
theorem dL_isTurned_92 : decode cL_isTurned 92 = .ok (.iaload, 1) := by decide +kernel
theorem dL_isTurned_93 : decode cL_isTurned 93 = .ok (.istore 5, 2) := by decide +kernel
theorem dL_isTurned_95 : decode cL_isTurned 95 = .ok (.aload_n 1, 1) := by decide +kernel
theorem dL_isTurned_96 : decode cL_isTurned 96 = .ok (.bipush 8, 2) := by decide +kernel
theorem dL_isTurned_98 : decode cL_isTurned 98 = .ok (.iload 4, 2) := by decide +kernel
theorem dL_isTurned_100 : decode cL_isTurned 100 = .ok (.iconst 2, 1) := by decide +kernel
theorem dL_isTurned_101 : decode cL_isTurned 101 = .ok (.irem, 1) := by decide +kernel
theorem dL_isTurned_102 : decode cL_isTurned 102 = .ok (.iadd, 1) := by decide +kernel
theorem dL_isTurned_103 : decode cL_isTurned 103 = .ok (.iconst 0, 1) := by decide +kernel
theorem dL_isTurned_104 : decode cL_isTurned 104 = .ok (.iastore, 1) := by decide +kernel
theorem dL_isTurned_105 : decode cL_isTurned 105 = .ok (.aload_n 0, 1) := by decide +kernel
theorem dL_isTurned_106 : decode cL_isTurned 106 = .ok (.iload 4, 2) := by decide +kernel
theorem dL_isTurned_108 : decode cL_isTurned 108 = .ok (.iconst 2, 1) := by decide +kernel
theorem dL_isTurned_109 : decode cL_isTurned 109 = .ok (.irem, 1) := by decide +kernel
theorem dL_isTurned_110 : decode cL_isTurned 110 = .ok (.invokevirtual 171, 3) := by decide +kernel
theorem dL_isTurned_113 : decode cL_isTurned 113 = .ok (.iload 5, 2) := by decide +kernel
theorem dL_isTurned_115 : decode cL_isTurned 115 = .ok (.if_icmp .ne 7, 3) := by decide +kernel
theorem dL_isTurned_118 : decode cL_isTurned 118 = .ok (.iconst 1, 1) := by decide +kernel
theorem dL_isTurned_119 : decode cL_isTurned 119 = .ok (.goto 4, 3) := by decide +kernel
theorem dL_isTurned_122 : decode cL_isTurned 122 = .ok (.iconst 0, 1) := by decide +kernel
theorem dL_isTurned_123 : decode cL_isTurned 123 = .ok (.ireturn, 1) := by decide +kernel
theorem dL_isTurned_124 : decode cL_isTurned 124 = .ok (.iload 4, 2) := by decide +kernel
theorem dL_isTurned_126 : decode cL_isTurned 126 = .ok (.iconst 2, 1) := by decide +kernel
theorem dL_isTurned_127 : decode cL_isTurned 127 = .ok (.idiv, 1) := by decide +kernel
theorem dL_isTurned_128 : decode cL_isTurned 128 = .ok (.invokestatic 154, 3) := by decide +kernel
theorem dL_isTurned_131 : decode cL_isTurned 131 = .ok (.istore 5, 2) := by decide +kernel
theorem dL_isTurned_133 : decode cL_isTurned 133 = .ok (.aload_n 1, 1) := by decide +kernel
theorem dL_isTurned_134 : decode cL_isTurned 134 = .ok (.iconst 4, 1) := by decide +kernel
theorem dL_isTurned_135 : decode cL_isTurned 135 = .ok (.iload 4, 2) := by decide +kernel
theorem dL_isTurned_137 : decode cL_isTurned 137 = .ok (.iconst 2, 1) := by decide +kernel
theorem dL_isTurned_138 : decode cL_isTurned 138 = .ok (.irem, 1) := by decide +kernel
theorem dL_isTurned_139 : decode cL_isTurned 139 = .ok (.imul, 1) := by decide +kernel
theorem dL_isTurned_140 : decode cL_isTurned 140 = .ok (.aload_n 1, 1) := by decide +kernel
theorem dL_isTurned_141 : decode cL_isTurned 141 = .ok (.bipush 8, 2) := by decide +kernel
theorem dL_isTurned_143 : decode cL_isTurned 143 = .ok (.iload 4, 2) := by decide +kernel
theorem dL_isTurned_145 : decode cL_isTurned 145 = .ok (.iconst 2, 1) := by decide +kernel
theorem dL_isTurned_146 : decode cL_isTurned 146 = .ok (.irem, 1) := by decide +kernel
theorem dL_isTurned_147 : decode cL_isTurned 147 = .ok (.iadd, 1) := by decide +kernel
theorem dL_isTurned_148 : decode cL_isTurned 148 = .ok (.iaload, 1) := by decide +kernel
theorem dL_isTurned_149 : decode cL_isTurned 149 = .ok (.iadd, 1) := by decide +kernel
theorem dL_isTurned_150 : decode cL_isTurned 150 = .ok (.iload 5, 2) := by decide +kernel
theorem dL_isTurned_152 : decode cL_isTurned 152 = .ok (.iastore, 1) := by decide +kernel
theorem dL_isTurned_153 : decode cL_isTurned 153 = .ok (.aload_n 1, 1) := by decide +kernel
theorem dL_isTurned_154 : decode cL_isTurned 154 = .ok (.bipush 8, 2) := by decide +kernel
theorem dL_isTurned_156 : decode cL_isTurned 156 = .ok (.iload 4, 2) := by decide +kernel
theorem dL_isTurned_158 : decode cL_isTurned 158 = .ok (.iconst 2, 1) := by decide +kernel
theorem dL_isTurned_159 : decode cL_isTurned 159 = .ok (.irem, 1) := by decide +kernel
theorem dL_isTurned_160 : decode cL_isTurned 160 = .ok (.iadd, 1) := by decide +kernel
theorem dL_isTurned_161 : decode cL_isTurned 161 = .ok (.dup2, 1) := by decide +kernel
theorem dL_isTurned_162 : decode cL_isTurned 162 = .ok (.iaload, 1) := by decide +kernel
theorem dL_isTurned_163 : decode cL_isTurned 163 = .ok (.iconst 1, 1) := by decide +kernel
theorem dL_isTurned_164 : decode cL_isTurned 164 = .ok (.iadd, 1) := by decide +kernel
theorem dL_isTurned_165 : decode cL_isTurned 165 = .ok (.iastore, 1) := by decide +kernel
theorem dL_isTurned_166 : decode cL_isTurned 166 = .ok (.aload_n 0, 1) := by decide +kernel
theorem dL_isTurned_167 : decode cL_isTurned 167 = .ok (.iload 4, 2) := by decide +kernel
theorem dL_isTurned_169 : decode cL_isTurned 169 = .ok (.iconst 2, 1) := by decide +kernel
theorem dL_isTurned_170 : decode cL_isTurned 170 = .ok (.irem, 1) := by decide +kernel
theorem dL_isTurned_171 : decode cL_isTurned 171 = .ok (.iload 5, 2) := by decide +kernel
theorem dL_isTurned_173 : decode cL_isTurned 173 = .ok (.sipush 128, 3) := by decide +kernel
theorem dL_isTurned_176 : decode cL_isTurned 176 = .ok (.idiv, 1) := by decide +kernel
theorem dL_isTurned_177 : decode cL_isTurned 177 = .ok (.iload 5, 2) := by decide +kernel
theorem dL_isTurned_179 : decode cL_isTurned 179 = .ok (.sipush 128, 3) := by decide +kernel
theorem dL_isTurned_182 : decode cL_isTurned 182 = .ok (.irem, 1) := by decide +kernel
theorem dL_isTurned_183 : decode cL_isTurned 183 = .ok (.invokevirtual 174, 3) := by decide +kernel
theorem dL_isTurned_186 : decode cL_isTurned 186 = .ok (.aload_n 1, 1) := by decide +kernel
theorem dL_isTurned_187 : decode cL_isTurned 187 = .ok (.bipush 8, 2) := by decide +kernel
theorem dL_isTurned_189 : decode cL_isTurned 189 = .ok (.iload 4, 2) := by decide +kernel
theorem dL_isTurned_191 : decode cL_isTurned 191 = .ok (.iconst 2, 1) := by decide +kernel
theorem dL_isTurned_192 : decode cL_isTurned 192 = .ok (.irem, 1) := by decide +kernel
theorem dL_isTurned_193 : decode cL_isTurned 193 = .ok (.iadd, 1) := by decide +kernel
theorem dL_isTurned_194 : decode cL_isTurned 194 = .ok (.iaload, 1) := by decide +kernel
theorem dL_isTurned_195 : decode cL_isTurned 195 = .ok (.if_icmp .ne 7, 3) := by decide +kernel
theorem dL_isTurned_198 : decode cL_isTurned 198 = .ok (.iconst 1, 1) := by decide +kernel
theorem dL_isTurned_199 : decode cL_isTurned 199 = .ok (.goto 4, 3) := by decide +kernel
theorem dL_isTurned_202 : decode cL_isTurned 202 = .ok (.iconst 0, 1) := by decide +kernel
theorem dL_isTurned_203 : decode cL_isTurned 203 = .ok (.ireturn, 1) := by decide +kernel
theorem dL_holds_0 : decode cL_holds 0 = .ok (.new 76, 3) := by decide +kernel
theorem dL_holds_3 : decode cL_holds 3 = .ok (.dup, 1) := by decide +kernel
theorem dL_holds_4 : decode cL_holds 4 = .ok (.invokespecial 177, 3) := by decide +kernel
theorem dL_holds_7 : decode cL_holds 7 = .ok (.astore_n 1, 1) := by decide +kernel
theorem dL_holds_8 : decode cL_holds 8 = .ok (.bipush 20, 2) := by decide +kernel
theorem dL_holds_10 : decode cL_holds 10 = .ok (.newarray .int, 2) := by decide +kernel
theorem dL_holds_12 : decode cL_holds 12 = .ok (.astore_n 2, 1) := by decide +kernel
theorem dL_holds_13 : decode cL_holds 13 = .ok (.iconst 5, 1) := by decide +kernel
theorem dL_holds_14 : decode cL_holds 14 = .ok (.newarray .int, 2) := by decide +kernel
theorem dL_holds_16 : decode cL_holds 16 = .ok (.astore_n 3, 1) := by decide +kernel
theorem dL_holds_17 : decode cL_holds 17 = .ok (.iconst 5, 1) := by decide +kernel
theorem dL_holds_18 : decode cL_holds 18 = .ok (.newarray .int, 2) := by decide +kernel
theorem dL_holds_20 : decode cL_holds 20 = .ok (.astore 4, 2) := by decide +kernel
theorem dL_holds_22 : decode cL_holds 22 = .ok (.bipush 12, 2) := by decide +kernel
theorem dL_holds_24 : decode cL_holds 24 = .ok (.newarray .int, 2) := by decide +kernel
theorem dL_holds_26 : decode cL_holds 26 = .ok (.astore 5, 2) := by decide +kernel
theorem dL_holds_28 : decode cL_holds 28 = .ok (.bipush 21, 2) := by decide +kernel
theorem dL_holds_30 : decode cL_holds 30 = .ok (.newarray .int, 2) := by decide +kernel
theorem dL_holds_32 : decode cL_holds 32 = .ok (.astore 6, 2) := by decide +kernel
theorem dL_holds_34 : decode cL_holds 34 = .ok (.bipush 20, 2) := by decide +kernel
theorem dL_holds_36 : decode cL_holds 36 = .ok (.newarray .int, 2) := by decide +kernel
theorem dL_holds_38 : decode cL_holds 38 = .ok (.astore 7, 2) := by decide +kernel
theorem dL_holds_40 : decode cL_holds 40 = .ok (.bipush 40, 2) := by decide +kernel
theorem dL_holds_42 : decode cL_holds 42 = .ok (.newarray .int, 2) := by decide +kernel
theorem dL_holds_44 : decode cL_holds 44 = .ok (.astore 8, 2) := by decide +kernel
theorem dL_holds_46 : decode cL_holds 46 = .ok (.bipush 60, 2) := by decide +kernel
theorem dL_holds_48 : decode cL_holds 48 = .ok (.newarray .int, 2) := by decide +kernel
theorem dL_holds_50 : decode cL_holds 50 = .ok (.astore 9, 2) := by decide +kernel
theorem dL_holds_52 : decode cL_holds 52 = .ok (.bipush 60, 2) := by decide +kernel
theorem dL_holds_54 : decode cL_holds 54 = .ok (.newarray .int, 2) := by decide +kernel
theorem dL_holds_56 : decode cL_holds 56 = .ok (.astore 10, 2) := by decide +kernel
theorem dL_holds_58 : decode cL_holds 58 = .ok (.bipush 60, 2) := by decide +kernel
theorem dL_holds_60 : decode cL_holds 60 = .ok (.newarray .int, 2) := by decide +kernel
theorem dL_holds_62 : decode cL_holds 62 = .ok (.astore 11, 2) := by decide +kernel
theorem dL_holds_64 : decode cL_holds 64 = .ok (.bipush 60, 2) := by decide +kernel
theorem dL_holds_66 : decode cL_holds 66 = .ok (.newarray .int, 2) := by decide +kernel
theorem dL_holds_68 : decode cL_holds 68 = .ok (.astore 12, 2) := by decide +kernel
theorem dL_holds_70 : decode cL_holds 70 = .ok (.bipush 60, 2) := by decide +kernel
theorem dL_holds_72 : decode cL_holds 72 = .ok (.newarray .int, 2) := by decide +kernel
theorem dL_holds_74 : decode cL_holds 74 = .ok (.astore 13, 2) := by decide +kernel
theorem dL_holds_76 : decode cL_holds 76 = .ok (.bipush 60, 2) := by decide +kernel
theorem dL_holds_78 : decode cL_holds 78 = .ok (.newarray .int, 2) := by decide +kernel
theorem dL_holds_80 : decode cL_holds 80 = .ok (.astore 14, 2) := by decide +kernel
theorem dL_holds_82 : decode cL_holds 82 = .ok (.bipush 48, 2) := by decide +kernel
theorem dL_holds_84 : decode cL_holds 84 = .ok (.newarray .long, 2) := by decide +kernel
theorem dL_holds_86 : decode cL_holds 86 = .ok (.astore 15, 2) := by decide +kernel
theorem dL_holds_88 : decode cL_holds 88 = .ok (.bipush 48, 2) := by decide +kernel
theorem dL_holds_90 : decode cL_holds 90 = .ok (.newarray .long, 2) := by decide +kernel
theorem dL_holds_92 : decode cL_holds 92 = .ok (.astore 16, 2) := by decide +kernel
theorem dL_holds_94 : decode cL_holds 94 = .ok (.aload_n 1, 1) := by decide +kernel
theorem dL_holds_95 : decode cL_holds 95 = .ok (.invokevirtual 75, 3) := by decide +kernel
theorem dL_holds_98 : decode cL_holds 98 = .ok (.ifCond .ne 28, 3) := by decide +kernel
theorem dL_holds_101 : decode cL_holds 101 = .ok (.aload_n 1, 1) := by decide +kernel
theorem dL_holds_102 : decode cL_holds 102 = .ok (.invokevirtual 111, 3) := by decide +kernel
theorem dL_holds_105 : decode cL_holds 105 = .ok (.ifCond .ne 21, 3) := by decide +kernel
theorem dL_holds_108 : decode cL_holds 108 = .ok (.aload_n 1, 1) := by decide +kernel
theorem dL_holds_109 : decode cL_holds 109 = .ok (.invokevirtual 114, 3) := by decide +kernel
theorem dL_holds_112 : decode cL_holds 112 = .ok (.ifCond .eq 14, 3) := by decide +kernel
theorem dL_holds_115 : decode cL_holds 115 = .ok (.aload_n 1, 1) := by decide +kernel
theorem dL_holds_116 : decode cL_holds 116 = .ok (.invokevirtual 168, 3) := by decide +kernel
theorem dL_holds_119 : decode cL_holds 119 = .ok (.ifCond .ne 7, 3) := by decide +kernel
theorem dL_holds_122 : decode cL_holds 122 = .ok (.iconst 1, 1) := by decide +kernel
theorem dL_holds_123 : decode cL_holds 123 = .ok (.goto 4, 3) := by decide +kernel
theorem dL_holds_126 : decode cL_holds 126 = .ok (.iconst 0, 1) := by decide +kernel
theorem dL_holds_127 : decode cL_holds 127 = .ok (.istore 17, 2) := by decide +kernel
theorem dL_holds_129 : decode cL_holds 129 = .ok (.iconst 1, 1) := by decide +kernel
theorem dL_holds_130 : decode cL_holds 130 = .ok (.istore 18, 2) := by decide +kernel
theorem dL_holds_132 : decode cL_holds 132 = .ok (.aload_n 2, 1) := by decide +kernel
theorem dL_holds_133 : decode cL_holds 133 = .ok (.aload_n 3, 1) := by decide +kernel
theorem dL_holds_134 : decode cL_holds 134 = .ok (.aload 4, 2) := by decide +kernel
theorem dL_holds_136 : decode cL_holds 136 = .ok (.aload 5, 2) := by decide +kernel
theorem dL_holds_138 : decode cL_holds 138 = .ok (.aload 6, 2) := by decide +kernel
theorem dL_holds_140 : decode cL_holds 140 = .ok (.aload 7, 2) := by decide +kernel
theorem dL_holds_142 : decode cL_holds 142 = .ok (.aload 8, 2) := by decide +kernel
theorem dL_holds_144 : decode cL_holds 144 = .ok (.aload 9, 2) := by decide +kernel
theorem dL_holds_146 : decode cL_holds 146 = .ok (.aload 10, 2) := by decide +kernel
theorem dL_holds_148 : decode cL_holds 148 = .ok (.aload 11, 2) := by decide +kernel
theorem dL_holds_150 : decode cL_holds 150 = .ok (.aload 12, 2) := by decide +kernel
theorem dL_holds_152 : decode cL_holds 152 = .ok (.aload 13, 2) := by decide +kernel
theorem dL_holds_154 : decode cL_holds 154 = .ok (.aload 14, 2) := by decide +kernel
theorem dL_holds_156 : decode cL_holds 156 = .ok (.aload 15, 2) := by decide +kernel
theorem dL_holds_158 : decode cL_holds 158 = .ok (.invokestatic 178, 3) := by decide +kernel
theorem dL_holds_161 : decode cL_holds 161 = .ok (.iconst 0, 1) := by decide +kernel
theorem dL_holds_162 : decode cL_holds 162 = .ok (.istore 19, 2) := by decide +kernel
theorem dL_holds_164 : decode cL_holds 164 = .ok (.iload 19, 2) := by decide +kernel
theorem dL_holds_166 : decode cL_holds 166 = .ok (.bipush 90, 2) := by decide +kernel
theorem dL_holds_168 : decode cL_holds 168 = .ok (.if_icmp .ge 412, 3) := by decide +kernel
theorem dL_holds_171 : decode cL_holds 171 = .ok (.iload 17, 2) := by decide +kernel
theorem dL_holds_173 : decode cL_holds 173 = .ok (.ifCond .eq 407, 3) := by decide +kernel
theorem dL_holds_176 : decode cL_holds 176 = .ok (.aload_n 0, 1) := by decide +kernel
theorem dL_holds_177 : decode cL_holds 177 = .ok (.iconst 2, 1) := by decide +kernel
theorem dL_holds_178 : decode cL_holds 178 = .ok (.iload 19, 2) := by decide +kernel
theorem dL_holds_180 : decode cL_holds 180 = .ok (.imul, 1) := by decide +kernel
theorem dL_holds_181 : decode cL_holds 181 = .ok (.iconst 1, 1) := by decide +kernel
theorem dL_holds_182 : decode cL_holds 182 = .ok (.iadd, 1) := by decide +kernel
theorem dL_holds_183 : decode cL_holds 183 = .ok (.ldc 182, 2) := by decide +kernel
theorem dL_holds_185 : decode cL_holds 185 = .ok (.invokestatic 183, 3) := by decide +kernel
theorem dL_holds_188 : decode cL_holds 188 = .ok (.istore 20, 2) := by decide +kernel
theorem dL_holds_190 : decode cL_holds 190 = .ok (.iload 19, 2) := by decide +kernel
theorem dL_holds_192 : decode cL_holds 192 = .ok (.bipush 14, 2) := by decide +kernel
theorem dL_holds_194 : decode cL_holds 194 = .ok (.if_icmp .ge 12, 3) := by decide +kernel
theorem dL_holds_197 : decode cL_holds 197 = .ok (.iconst 3, 1) := by decide +kernel
theorem dL_holds_198 : decode cL_holds 198 = .ok (.iload 19, 2) := by decide +kernel
theorem dL_holds_200 : decode cL_holds 200 = .ok (.iconst 2, 1) := by decide +kernel
theorem dL_holds_201 : decode cL_holds 201 = .ok (.irem, 1) := by decide +kernel
theorem dL_holds_202 : decode cL_holds 202 = .ok (.iadd, 1) := by decide +kernel
theorem dL_holds_203 : decode cL_holds 203 = .ok (.goto 13, 3) := by decide +kernel
theorem dL_holds_206 : decode cL_holds 206 = .ok (.aload_n 0, 1) := by decide +kernel
theorem dL_holds_207 : decode cL_holds 207 = .ok (.iconst 2, 1) := by decide +kernel
theorem dL_holds_208 : decode cL_holds 208 = .ok (.iload 19, 2) := by decide +kernel
theorem dL_holds_210 : decode cL_holds 210 = .ok (.imul, 1) := by decide +kernel
theorem dL_holds_211 : decode cL_holds 211 = .ok (.bipush 30, 2) := by decide +kernel
theorem dL_holds_213 : decode cL_holds 213 = .ok (.invokestatic 183, 3) := by decide +kernel
theorem dL_holds_216 : decode cL_holds 216 = .ok (.istore 21, 2) := by decide +kernel
theorem dL_holds_218 : decode cL_holds 218 = .ok (.iload 20, 2) := by decide +kernel
theorem dL_holds_220 : decode cL_holds 220 = .ok (.aload 6, 2) := by decide +kernel
theorem dL_holds_222 : decode cL_holds 222 = .ok (.bipush 20, 2) := by decide +kernel
theorem dL_holds_224 : decode cL_holds 224 = .ok (.iaload, 1) := by decide +kernel
theorem dL_holds_225 : decode cL_holds 225 = .ok (.iconst 1, 1) := by decide +kernel
theorem dL_holds_226 : decode cL_holds 226 = .ok (.iadd, 1) := by decide +kernel
theorem dL_holds_227 : decode cL_holds 227 = .ok (.irem, 1) := by decide +kernel
theorem dL_holds_228 : decode cL_holds 228 = .ok (.istore 22, 2) := by decide +kernel
theorem dL_holds_230 : decode cL_holds 230 = .ok (.iconst 0, 1) := by decide +kernel
theorem dL_holds_231 : decode cL_holds 231 = .ok (.istore 23, 2) := by decide +kernel
theorem dL_holds_233 : decode cL_holds 233 = .ok (.iload 23, 2) := by decide +kernel
theorem dL_holds_235 : decode cL_holds 235 = .ok (.bipush 48, 2) := by decide +kernel
theorem dL_holds_237 : decode cL_holds 237 = .ok (.if_icmp .ge 19, 3) := by decide +kernel
theorem dL_holds_240 : decode cL_holds 240 = .ok (.aload 16, 2) := by decide +kernel
theorem dL_holds_242 : decode cL_holds 242 = .ok (.iload 23, 2) := by decide +kernel
theorem dL_holds_244 : decode cL_holds 244 = .ok (.aload 15, 2) := by decide +kernel
theorem dL_holds_246 : decode cL_holds 246 = .ok (.iload 23, 2) := by decide +kernel
theorem dL_holds_248 : decode cL_holds 248 = .ok (.laload, 1) := by decide +kernel
theorem dL_holds_249 : decode cL_holds 249 = .ok (.lastore, 1) := by decide +kernel
theorem dL_holds_250 : decode cL_holds 250 = .ok (.iinc 23 1, 3) := by decide +kernel
theorem dL_holds_253 : decode cL_holds 253 = .ok (.goto (-20), 3) := by decide +kernel
theorem dL_holds_256 : decode cL_holds 256 = .ok (.iload 18, 2) := by decide +kernel
theorem dL_holds_258 : decode cL_holds 258 = .ok (.istore 23, 2) := by decide +kernel
theorem dL_holds_260 : decode cL_holds 260 = .ok (.iload 21, 2) := by decide +kernel
theorem dL_holds_262 : decode cL_holds 262 = .ok (.bipush 8, 2) := by decide +kernel
theorem dL_holds_264 : decode cL_holds 264 = .ok (.if_icmp .le 24, 3) := by decide +kernel
theorem dL_holds_267 : decode cL_holds 267 = .ok (.aload 6, 2) := by decide +kernel
theorem dL_holds_269 : decode cL_holds 269 = .ok (.bipush 20, 2) := by decide +kernel
theorem dL_holds_271 : decode cL_holds 271 = .ok (.iaload, 1) := by decide +kernel
theorem dL_holds_272 : decode cL_holds 272 = .ok (.bipush 18, 2) := by decide +kernel
theorem dL_holds_274 : decode cL_holds 274 = .ok (.if_icmp .ge 14, 3) := by decide +kernel
theorem dL_holds_277 : decode cL_holds 277 = .ok (.iload 21, 2) := by decide +kernel
theorem dL_holds_279 : decode cL_holds 279 = .ok (.bipush 24, 2) := by decide +kernel
theorem dL_holds_281 : decode cL_holds 281 = .ok (.if_icmp .ge 7, 3) := by decide +kernel
theorem dL_holds_284 : decode cL_holds 284 = .ok (.iconst 1, 1) := by decide +kernel
theorem dL_holds_285 : decode cL_holds 285 = .ok (.goto 30, 3) := by decide +kernel
theorem dL_holds_288 : decode cL_holds 288 = .ok (.iload 21, 2) := by decide +kernel
theorem dL_holds_290 : decode cL_holds 290 = .ok (.bipush 8, 2) := by decide +kernel
theorem dL_holds_292 : decode cL_holds 292 = .ok (.if_icmp .le 22, 3) := by decide +kernel
theorem dL_holds_295 : decode cL_holds 295 = .ok (.iload 21, 2) := by decide +kernel
theorem dL_holds_297 : decode cL_holds 297 = .ok (.bipush 27, 2) := by decide +kernel
theorem dL_holds_299 : decode cL_holds 299 = .ok (.if_icmp .ge 15, 3) := by decide +kernel
theorem dL_holds_302 : decode cL_holds 302 = .ok (.aload 6, 2) := by decide +kernel
theorem dL_holds_304 : decode cL_holds 304 = .ok (.bipush 20, 2) := by decide +kernel
theorem dL_holds_306 : decode cL_holds 306 = .ok (.iaload, 1) := by decide +kernel
theorem dL_holds_307 : decode cL_holds 307 = .ok (.ifCond .le 7, 3) := by decide +kernel
theorem dL_holds_310 : decode cL_holds 310 = .ok (.iconst (-1), 1) := by decide +kernel
theorem dL_holds_311 : decode cL_holds 311 = .ok (.goto 4, 3) := by decide +kernel
theorem dL_holds_314 : decode cL_holds 314 = .ok (.iconst 0, 1) := by decide +kernel
theorem dL_holds_315 : decode cL_holds 315 = .ok (.istore 24, 2) := by decide +kernel
theorem dL_holds_317 : decode cL_holds 317 = .ok (.iload 24, 2) := by decide +kernel
theorem dL_holds_319 : decode cL_holds 319 = .ok (.ifCond .ge 14, 3) := by decide +kernel
theorem dL_holds_322 : decode cL_holds 322 = .ok (.iload 20, 2) := by decide +kernel
theorem dL_holds_324 : decode cL_holds 324 = .ok (.aload 6, 2) := by decide +kernel
theorem dL_holds_326 : decode cL_holds 326 = .ok (.bipush 20, 2) := by decide +kernel
theorem dL_holds_328 : decode cL_holds 328 = .ok (.iaload, 1) := by decide +kernel
theorem dL_holds_329 : decode cL_holds 329 = .ok (.irem, 1) := by decide +kernel
theorem dL_holds_330 : decode cL_holds 330 = .ok (.goto 5, 3) := by decide +kernel
theorem dL_holds_333 : decode cL_holds 333 = .ok (.iload 22, 2) := by decide +kernel
theorem dL_holds_335 : decode cL_holds 335 = .ok (.istore 22, 2) := by decide +kernel
theorem dL_holds_337 : decode cL_holds 337 = .ok (.iload 24, 2) := by decide +kernel
theorem dL_holds_339 : decode cL_holds 339 = .ok (.ifCond .eq 24, 3) := by decide +kernel
theorem dL_holds_342 : decode cL_holds 342 = .ok (.aload_n 1, 1) := by decide +kernel
theorem dL_holds_343 : decode cL_holds 343 = .ok (.aload 6, 2) := by decide +kernel
theorem dL_holds_345 : decode cL_holds 345 = .ok (.iload 24, 2) := by decide +kernel
theorem dL_holds_347 : decode cL_holds 347 = .ok (.ifCond .le 7, 3) := by decide +kernel
theorem dL_holds_350 : decode cL_holds 350 = .ok (.iconst 1, 1) := by decide +kernel
theorem dL_holds_351 : decode cL_holds 351 = .ok (.goto 4, 3) := by decide +kernel
theorem dL_holds_354 : decode cL_holds 354 = .ok (.iconst 0, 1) := by decide +kernel
theorem dL_holds_355 : decode cL_holds 355 = .ok (.iload 20, 2) := by decide +kernel
theorem dL_holds_357 : decode cL_holds 357 = .ok (.invokestatic 186, 3) := by decide +kernel
theorem dL_holds_360 : decode cL_holds 360 = .ok (.goto 77, 3) := by decide +kernel
theorem dL_holds_363 : decode cL_holds 363 = .ok (.iload 21, 2) := by decide +kernel
theorem dL_holds_365 : decode cL_holds 365 = .ok (.bipush 8, 2) := by decide +kernel
theorem dL_holds_367 : decode cL_holds 367 = .ok (.if_icmp .le 33, 3) := by decide +kernel
theorem dL_holds_370 : decode cL_holds 370 = .ok (.aload_n 1, 1) := by decide +kernel
theorem dL_holds_371 : decode cL_holds 371 = .ok (.aload 5, 2) := by decide +kernel
theorem dL_holds_373 : decode cL_holds 373 = .ok (.aload 6, 2) := by decide +kernel
theorem dL_holds_375 : decode cL_holds 375 = .ok (.iload 21, 2) := by decide +kernel
theorem dL_holds_377 : decode cL_holds 377 = .ok (.bipush 27, 2) := by decide +kernel
theorem dL_holds_379 : decode cL_holds 379 = .ok (.isub, 1) := by decide +kernel
theorem dL_holds_380 : decode cL_holds 380 = .ok (.ifCond .ge 7, 3) := by decide +kernel
theorem dL_holds_383 : decode cL_holds 383 = .ok (.iconst 2, 1) := by decide +kernel
theorem dL_holds_384 : decode cL_holds 384 = .ok (.goto 8, 3) := by decide +kernel
theorem dL_holds_387 : decode cL_holds 387 = .ok (.iload 21, 2) := by decide +kernel
theorem dL_holds_389 : decode cL_holds 389 = .ok (.bipush 27, 2) := by decide +kernel
theorem dL_holds_391 : decode cL_holds 391 = .ok (.isub, 1) := by decide +kernel
theorem dL_holds_392 : decode cL_holds 392 = .ok (.iload 20, 2) := by decide +kernel
theorem dL_holds_394 : decode cL_holds 394 = .ok (.invokestatic 190, 3) := by decide +kernel
theorem dL_holds_397 : decode cL_holds 397 = .ok (.goto 40, 3) := by decide +kernel
theorem dL_holds_400 : decode cL_holds 400 = .ok (.aload_n 1, 1) := by decide +kernel
theorem dL_holds_401 : decode cL_holds 401 = .ok (.aload_n 2, 1) := by decide +kernel
theorem dL_holds_402 : decode cL_holds 402 = .ok (.aload_n 3, 1) := by decide +kernel
theorem dL_holds_403 : decode cL_holds 403 = .ok (.aload 4, 2) := by decide +kernel
theorem dL_holds_405 : decode cL_holds 405 = .ok (.iload 21, 2) := by decide +kernel
theorem dL_holds_407 : decode cL_holds 407 = .ok (.iconst 3, 1) := by decide +kernel
theorem dL_holds_408 : decode cL_holds 408 = .ok (.if_icmp .le 7, 3) := by decide +kernel
theorem dL_holds_411 : decode cL_holds 411 = .ok (.iconst 3, 1) := by decide +kernel
theorem dL_holds_412 : decode cL_holds 412 = .ok (.goto 5, 3) := by decide +kernel
theorem dL_holds_415 : decode cL_holds 415 = .ok (.iload 21, 2) := by decide +kernel
theorem dL_holds_417 : decode cL_holds 417 = .ok (.iload 21, 2) := by decide +kernel
theorem dL_holds_419 : decode cL_holds 419 = .ok (.iconst 4, 1) := by decide +kernel
theorem dL_holds_420 : decode cL_holds 420 = .ok (.if_icmp .ne 12, 3) := by decide +kernel
theorem dL_holds_423 : decode cL_holds 423 = .ok (.iload 20, 2) := by decide +kernel
theorem dL_holds_425 : decode cL_holds 425 = .ok (.iconst 5, 1) := by decide +kernel
theorem dL_holds_426 : decode cL_holds 426 = .ok (.idiv, 1) := by decide +kernel
theorem dL_holds_427 : decode cL_holds 427 = .ok (.iconst 5, 1) := by decide +kernel
theorem dL_holds_428 : decode cL_holds 428 = .ok (.imul, 1) := by decide +kernel
theorem dL_holds_429 : decode cL_holds 429 = .ok (.goto 5, 3) := by decide +kernel
theorem dL_holds_432 : decode cL_holds 432 = .ok (.iload 20, 2) := by decide +kernel
theorem dL_holds_434 : decode cL_holds 434 = .ok (.invokestatic 194, 3) := by decide +kernel
theorem dL_holds_437 : decode cL_holds 437 = .ok (.istore 17, 2) := by decide +kernel
theorem dL_holds_439 : decode cL_holds 439 = .ok (.aload_n 2, 1) := by decide +kernel
theorem dL_holds_440 : decode cL_holds 440 = .ok (.aload_n 3, 1) := by decide +kernel
theorem dL_holds_441 : decode cL_holds 441 = .ok (.aload 4, 2) := by decide +kernel
theorem dL_holds_443 : decode cL_holds 443 = .ok (.aload 5, 2) := by decide +kernel
theorem dL_holds_445 : decode cL_holds 445 = .ok (.aload 6, 2) := by decide +kernel
theorem dL_holds_447 : decode cL_holds 447 = .ok (.aload 7, 2) := by decide +kernel
theorem dL_holds_449 : decode cL_holds 449 = .ok (.aload 8, 2) := by decide +kernel
theorem dL_holds_451 : decode cL_holds 451 = .ok (.aload 9, 2) := by decide +kernel
theorem dL_holds_453 : decode cL_holds 453 = .ok (.aload 10, 2) := by decide +kernel
theorem dL_holds_455 : decode cL_holds 455 = .ok (.aload 11, 2) := by decide +kernel
theorem dL_holds_457 : decode cL_holds 457 = .ok (.aload 12, 2) := by decide +kernel
theorem dL_holds_459 : decode cL_holds 459 = .ok (.aload 13, 2) := by decide +kernel
theorem dL_holds_461 : decode cL_holds 461 = .ok (.aload 14, 2) := by decide +kernel
theorem dL_holds_463 : decode cL_holds 463 = .ok (.aload 15, 2) := by decide +kernel
theorem dL_holds_465 : decode cL_holds 465 = .ok (.invokestatic 178, 3) := by decide +kernel
theorem dL_holds_468 : decode cL_holds 468 = .ok (.aload 7, 2) := by decide +kernel
theorem dL_holds_470 : decode cL_holds 470 = .ok (.bipush 6, 2) := by decide +kernel
theorem dL_holds_472 : decode cL_holds 472 = .ok (.iaload, 1) := by decide +kernel
theorem dL_holds_473 : decode cL_holds 473 = .ok (.ifCond .ne 7, 3) := by decide +kernel
theorem dL_holds_476 : decode cL_holds 476 = .ok (.iconst 1, 1) := by decide +kernel
theorem dL_holds_477 : decode cL_holds 477 = .ok (.goto 4, 3) := by decide +kernel
theorem dL_holds_480 : decode cL_holds 480 = .ok (.iconst 0, 1) := by decide +kernel
theorem dL_holds_481 : decode cL_holds 481 = .ok (.istore 18, 2) := by decide +kernel
theorem dL_holds_483 : decode cL_holds 483 = .ok (.iload 17, 2) := by decide +kernel
theorem dL_holds_485 : decode cL_holds 485 = .ok (.ifCond .eq 89, 3) := by decide +kernel
theorem dL_holds_488 : decode cL_holds 488 = .ok (.iload 18, 2) := by decide +kernel
theorem dL_holds_490 : decode cL_holds 490 = .ok (.ifCond .eq 84, 3) := by decide +kernel
theorem dL_holds_493 : decode cL_holds 493 = .ok (.iload 24, 2) := by decide +kernel
theorem dL_holds_495 : decode cL_holds 495 = .ok (.ifCond .eq 28, 3) := by decide +kernel
theorem dL_holds_498 : decode cL_holds 498 = .ok (.iload 23, 2) := by decide +kernel
theorem dL_holds_500 : decode cL_holds 500 = .ok (.ifCond .eq 23, 3) := by decide +kernel
theorem dL_holds_503 : decode cL_holds 503 = .ok (.aload_n 1, 1) := by decide +kernel
theorem dL_holds_504 : decode cL_holds 504 = .ok (.invokevirtual 168, 3) := by decide +kernel
theorem dL_holds_507 : decode cL_holds 507 = .ok (.aload 6, 2) := by decide +kernel
theorem dL_holds_509 : decode cL_holds 509 = .ok (.aload 15, 2) := by decide +kernel
theorem dL_holds_511 : decode cL_holds 511 = .ok (.aload 16, 2) := by decide +kernel
theorem dL_holds_513 : decode cL_holds 513 = .ok (.iload 22, 2) := by decide +kernel
theorem dL_holds_515 : decode cL_holds 515 = .ok (.iload 24, 2) := by decide +kernel
theorem dL_holds_517 : decode cL_holds 517 = .ok (.invokestatic 198, 3) := by decide +kernel
theorem dL_holds_520 : decode cL_holds 520 = .ok (.if_icmp .ne 51, 3) := by decide +kernel
theorem dL_holds_523 : decode cL_holds 523 = .ok (.aload_n 1, 1) := by decide +kernel
theorem dL_holds_524 : decode cL_holds 524 = .ok (.aload_n 2, 1) := by decide +kernel
theorem dL_holds_525 : decode cL_holds 525 = .ok (.aload_n 3, 1) := by decide +kernel
theorem dL_holds_526 : decode cL_holds 526 = .ok (.aload 6, 2) := by decide +kernel
theorem dL_holds_528 : decode cL_holds 528 = .ok (.aload 15, 2) := by decide +kernel
theorem dL_holds_530 : decode cL_holds 530 = .ok (.iload 20, 2) := by decide +kernel
theorem dL_holds_532 : decode cL_holds 532 = .ok (.bipush 7, 2) := by decide +kernel
theorem dL_holds_534 : decode cL_holds 534 = .ok (.idiv, 1) := by decide +kernel
theorem dL_holds_535 : decode cL_holds 535 = .ok (.invokestatic 201, 3) := by decide +kernel
theorem dL_holds_538 : decode cL_holds 538 = .ok (.ifCond .eq 33, 3) := by decide +kernel
theorem dL_holds_541 : decode cL_holds 541 = .ok (.iload 19, 2) := by decide +kernel
theorem dL_holds_543 : decode cL_holds 543 = .ok (.iconst 3, 1) := by decide +kernel
theorem dL_holds_544 : decode cL_holds 544 = .ok (.irem, 1) := by decide +kernel
theorem dL_holds_545 : decode cL_holds 545 = .ok (.ifCond .gt 22, 3) := by decide +kernel
theorem dL_holds_548 : decode cL_holds 548 = .ok (.aload_n 1, 1) := by decide +kernel
theorem dL_holds_549 : decode cL_holds 549 = .ok (.aload 7, 2) := by decide +kernel
theorem dL_holds_551 : decode cL_holds 551 = .ok (.aload 10, 2) := by decide +kernel
theorem dL_holds_553 : decode cL_holds 553 = .ok (.aload 11, 2) := by decide +kernel
theorem dL_holds_555 : decode cL_holds 555 = .ok (.aload 12, 2) := by decide +kernel
theorem dL_holds_557 : decode cL_holds 557 = .ok (.aload 13, 2) := by decide +kernel
theorem dL_holds_559 : decode cL_holds 559 = .ok (.aload 14, 2) := by decide +kernel
theorem dL_holds_561 : decode cL_holds 561 = .ok (.invokestatic 205, 3) := by decide +kernel
theorem dL_holds_564 : decode cL_holds 564 = .ok (.ifCond .eq 7, 3) := by decide +kernel
theorem dL_holds_567 : decode cL_holds 567 = .ok (.iconst 1, 1) := by decide +kernel
theorem dL_holds_568 : decode cL_holds 568 = .ok (.goto 4, 3) := by decide +kernel
theorem dL_holds_571 : decode cL_holds 571 = .ok (.iconst 0, 1) := by decide +kernel
theorem dL_holds_572 : decode cL_holds 572 = .ok (.istore 17, 2) := by decide +kernel
theorem dL_holds_574 : decode cL_holds 574 = .ok (.iinc 19 1, 3) := by decide +kernel
theorem dL_holds_577 : decode cL_holds 577 = .ok (.goto (-413), 3) := by decide +kernel
theorem dL_holds_580 : decode cL_holds 580 = .ok (.iload 17, 2) := by decide +kernel
theorem dL_holds_582 : decode cL_holds 582 = .ok (.ireturn, 1) := by decide +kernel
theorem dL_isHeld_0 : decode cL_isHeld 0 = .ok (.aload_n 0, 1) := by decide +kernel
theorem dL_isHeld_1 : decode cL_isHeld 1 = .ok (.invokestatic 209, 3) := by decide +kernel
theorem dL_isHeld_4 : decode cL_isHeld 4 = .ok (.ireturn, 1) := by decide +kernel
theorem dL_isHeld_5 : decode cL_isHeld 5 = .ok (.astore_n 1, 1) := by decide +kernel
theorem dL_isHeld_6 : decode cL_isHeld 6 = .ok (.iconst 0, 1) := by decide +kernel
theorem dL_isHeld_7 : decode cL_isHeld 7 = .ok (.ireturn, 1) := by decide +kernel
theorem dL_isHeld_8 : decode cL_isHeld 8 = .ok (.astore_n 1, 1) := by decide +kernel
theorem dL_isHeld_9 : decode cL_isHeld 9 = .ok (.iconst 0, 1) := by decide +kernel
theorem dL_isHeld_10 : decode cL_isHeld 10 = .ok (.ireturn, 1) := by decide +kernel
theorem dL_isHeld_11 : decode cL_isHeld 11 = .ok (.astore_n 1, 1) := by decide +kernel
theorem dL_isHeld_12 : decode cL_isHeld 12 = .ok (.iconst 0, 1) := by decide +kernel
theorem dL_isHeld_13 : decode cL_isHeld 13 = .ok (.ireturn, 1) := by decide +kernel
theorem dL_law_0 : decode cL_law 0 = .ok (.aload_n 0, 1) := by decide +kernel
theorem dL_law_1 : decode cL_law 1 = .ok (.invokestatic 217, 3) := by decide +kernel
theorem dL_law_4 : decode cL_law 4 = .ok (.ireturn, 1) := by decide +kernel
