theorem dL_next_0 : decode cL_next 0 = .ok (.iconst 0, 1) := by decide +kernel
theorem dL_next_1 : decode cL_next 1 = .ok (.istore_n 3, 1) := by decide +kernel
theorem dL_next_2 : decode cL_next 2 = .ok (.iconst 0, 1) := by decide +kernel
theorem dL_next_3 : decode cL_next 3 = .ok (.istore 4, 2) := by decide +kernel
theorem dL_next_5 : decode cL_next 5 = .ok (.iload 4, 2) := by decide +kernel
theorem dL_next_7 : decode cL_next 7 = .ok (.bipush 11, 2) := by decide +kernel
theorem dL_next_9 : decode cL_next 9 = .ok (.if_icmp .ge 31, 3) := by decide +kernel
theorem dL_next_12 : decode cL_next 12 = .ok (.iload_n 3, 1) := by decide +kernel
theorem dL_next_13 : decode cL_next 13 = .ok (.aload_n 0, 1) := by decide +kernel
theorem dL_next_14 : decode cL_next 14 = .ok (.aload_n 1, 1) := by decide +kernel
theorem dL_next_15 : decode cL_next 15 = .ok (.iload_n 2, 1) := by decide +kernel
theorem dL_next_16 : decode cL_next 16 = .ok (.iload 4, 2) := by decide +kernel
theorem dL_next_18 : decode cL_next 18 = .ok (.invokestatic 15, 3) := by decide +kernel
theorem dL_next_21 : decode cL_next 21 = .ok (.ifCond .ge 7, 3) := by decide +kernel
theorem dL_next_24 : decode cL_next 24 = .ok (.iconst 0, 1) := by decide +kernel
theorem dL_next_25 : decode cL_next 25 = .ok (.goto 7, 3) := by decide +kernel
theorem dL_next_28 : decode cL_next 28 = .ok (.iconst 1, 1) := by decide +kernel
theorem dL_next_29 : decode cL_next 29 = .ok (.iload 4, 2) := by decide +kernel
theorem dL_next_31 : decode cL_next 31 = .ok (.ishl, 1) := by decide +kernel
theorem dL_next_32 : decode cL_next 32 = .ok (.ior, 1) := by decide +kernel
theorem dL_next_33 : decode cL_next 33 = .ok (.istore_n 3, 1) := by decide +kernel
theorem dL_next_34 : decode cL_next 34 = .ok (.iinc 4 1, 3) := by decide +kernel
theorem dL_next_37 : decode cL_next 37 = .ok (.goto (-32), 3) := by decide +kernel
theorem dL_next_40 : decode cL_next 40 = .ok (.iload_n 3, 1) := by decide +kernel
theorem dL_next_41 : decode cL_next 41 = .ok (.ireturn, 1) := by decide +kernel
theorem dL_fails_0 : decode cL_fails 0 = .ok (.aload_n 0, 1) := by decide +kernel
theorem dL_fails_1 : decode cL_fails 1 = .ok (.iconst 5, 1) := by decide +kernel
theorem dL_fails_2 : decode cL_fails 2 = .ok (.iaload, 1) := by decide +kernel
theorem dL_fails_3 : decode cL_fails 3 = .ok (.bipush 60, 2) := by decide +kernel
theorem dL_fails_5 : decode cL_fails 5 = .ok (.if_icmp .ne 11, 3) := by decide +kernel
theorem dL_fails_8 : decode cL_fails 8 = .ok (.aload_n 0, 1) := by decide +kernel
theorem dL_fails_9 : decode cL_fails 9 = .ok (.bipush 6, 2) := by decide +kernel
theorem dL_fails_11 : decode cL_fails 11 = .ok (.iconst 1, 1) := by decide +kernel
theorem dL_fails_12 : decode cL_fails 12 = .ok (.iastore, 1) := by decide +kernel
theorem dL_fails_13 : decode cL_fails 13 = .ok (.goto 24, 3) := by decide +kernel
theorem dL_fails_16 : decode cL_fails 16 = .ok (.aload_n 1, 1) := by decide +kernel
theorem dL_fails_17 : decode cL_fails 17 = .ok (.aload_n 0, 1) := by decide +kernel
theorem dL_fails_18 : decode cL_fails 18 = .ok (.iconst 5, 1) := by decide +kernel
theorem dL_fails_19 : decode cL_fails 19 = .ok (.iaload, 1) := by decide +kernel
theorem dL_fails_20 : decode cL_fails 20 = .ok (.bipush 64, 2) := by decide +kernel
theorem dL_fails_22 : decode cL_fails 22 = .ok (.iload_n 2, 1) := by decide +kernel
theorem dL_fails_23 : decode cL_fails 23 = .ok (.imul, 1) := by decide +kernel
theorem dL_fails_24 : decode cL_fails 24 = .ok (.aload_n 0, 1) := by decide +kernel
theorem dL_fails_25 : decode cL_fails 25 = .ok (.bipush 18, 2) := by decide +kernel
theorem dL_fails_27 : decode cL_fails 27 = .ok (.iaload, 1) := by decide +kernel
theorem dL_fails_28 : decode cL_fails 28 = .ok (.iadd, 1) := by decide +kernel
theorem dL_fails_29 : decode cL_fails 29 = .ok (.iastore, 1) := by decide +kernel
theorem dL_fails_30 : decode cL_fails 30 = .ok (.aload_n 0, 1) := by decide +kernel
theorem dL_fails_31 : decode cL_fails 31 = .ok (.iconst 5, 1) := by decide +kernel
theorem dL_fails_32 : decode cL_fails 32 = .ok (.dup2, 1) := by decide +kernel
theorem dL_fails_33 : decode cL_fails 33 = .ok (.iaload, 1) := by decide +kernel
theorem dL_fails_34 : decode cL_fails 34 = .ok (.iconst 1, 1) := by decide +kernel
theorem dL_fails_35 : decode cL_fails 35 = .ok (.iadd, 1) := by decide +kernel
theorem dL_fails_36 : decode cL_fails 36 = .ok (.iastore, 1) := by decide +kernel
theorem dL_fails_37 : decode cL_fails 37 = .ok (.return_, 1) := by decide +kernel
theorem dL_put_0 : decode cL_put 0 = .ok (.aload_n 0, 1) := by decide +kernel
theorem dL_put_1 : decode cL_put 1 = .ok (.iconst 3, 1) := by decide +kernel
theorem dL_put_2 : decode cL_put 2 = .ok (.iaload, 1) := by decide +kernel
theorem dL_put_3 : decode cL_put 3 = .ok (.bipush 60, 2) := by decide +kernel
theorem dL_put_5 : decode cL_put 5 = .ok (.if_icmp .ne 9, 3) := by decide +kernel
theorem dL_put_8 : decode cL_put 8 = .ok (.aload_n 0, 1) := by decide +kernel
theorem dL_put_9 : decode cL_put 9 = .ok (.bipush 6, 2) := by decide +kernel
theorem dL_put_11 : decode cL_put 11 = .ok (.iconst 1, 1) := by decide +kernel
theorem dL_put_12 : decode cL_put 12 = .ok (.iastore, 1) := by decide +kernel
theorem dL_put_13 : decode cL_put 13 = .ok (.return_, 1) := by decide +kernel
theorem dL_put_14 : decode cL_put 14 = .ok (.aload_n 2, 1) := by decide +kernel
theorem dL_put_15 : decode cL_put 15 = .ok (.aload_n 0, 1) := by decide +kernel
theorem dL_put_16 : decode cL_put 16 = .ok (.iconst 3, 1) := by decide +kernel
theorem dL_put_17 : decode cL_put 17 = .ok (.iaload, 1) := by decide +kernel
theorem dL_put_18 : decode cL_put 18 = .ok (.iload 6, 2) := by decide +kernel
theorem dL_put_20 : decode cL_put 20 = .ok (.iastore, 1) := by decide +kernel
theorem dL_put_21 : decode cL_put 21 = .ok (.aload_n 3, 1) := by decide +kernel
theorem dL_put_22 : decode cL_put 22 = .ok (.aload_n 0, 1) := by decide +kernel
theorem dL_put_23 : decode cL_put 23 = .ok (.iconst 3, 1) := by decide +kernel
theorem dL_put_24 : decode cL_put 24 = .ok (.iaload, 1) := by decide +kernel
theorem dL_put_25 : decode cL_put 25 = .ok (.aload_n 0, 1) := by decide +kernel
theorem dL_put_26 : decode cL_put 26 = .ok (.iconst 0, 1) := by decide +kernel
theorem dL_put_27 : decode cL_put 27 = .ok (.iaload, 1) := by decide +kernel
theorem dL_put_28 : decode cL_put 28 = .ok (.ifCond .ne 7, 3) := by decide +kernel
theorem dL_put_31 : decode cL_put 31 = .ok (.iconst (-1), 1) := by decide +kernel
theorem dL_put_32 : decode cL_put 32 = .ok (.goto 11, 3) := by decide +kernel
theorem dL_put_35 : decode cL_put 35 = .ok (.aload_n 1, 1) := by decide +kernel
theorem dL_put_36 : decode cL_put 36 = .ok (.bipush 19, 2) := by decide +kernel
theorem dL_put_38 : decode cL_put 38 = .ok (.aload_n 0, 1) := by decide +kernel
theorem dL_put_39 : decode cL_put 39 = .ok (.iconst 0, 1) := by decide +kernel
theorem dL_put_40 : decode cL_put 40 = .ok (.iaload, 1) := by decide +kernel
theorem dL_put_41 : decode cL_put 41 = .ok (.iadd, 1) := by decide +kernel
theorem dL_put_42 : decode cL_put 42 = .ok (.iaload, 1) := by decide +kernel
theorem dL_put_43 : decode cL_put 43 = .ok (.iastore, 1) := by decide +kernel
theorem dL_put_44 : decode cL_put 44 = .ok (.aload 4, 2) := by decide +kernel
theorem dL_put_46 : decode cL_put 46 = .ok (.aload_n 0, 1) := by decide +kernel
theorem dL_put_47 : decode cL_put 47 = .ok (.iconst 3, 1) := by decide +kernel
theorem dL_put_48 : decode cL_put 48 = .ok (.iaload, 1) := by decide +kernel
theorem dL_put_49 : decode cL_put 49 = .ok (.iload 7, 2) := by decide +kernel
theorem dL_put_51 : decode cL_put 51 = .ok (.iastore, 1) := by decide +kernel
theorem dL_put_52 : decode cL_put 52 = .ok (.aload 5, 2) := by decide +kernel
theorem dL_put_54 : decode cL_put 54 = .ok (.aload_n 0, 1) := by decide +kernel
theorem dL_put_55 : decode cL_put 55 = .ok (.iconst 3, 1) := by decide +kernel
theorem dL_put_56 : decode cL_put 56 = .ok (.iaload, 1) := by decide +kernel
theorem dL_put_57 : decode cL_put 57 = .ok (.aload_n 0, 1) := by decide +kernel
theorem dL_put_58 : decode cL_put 58 = .ok (.bipush 18, 2) := by decide +kernel
theorem dL_put_60 : decode cL_put 60 = .ok (.iaload, 1) := by decide +kernel
theorem dL_put_61 : decode cL_put 61 = .ok (.iastore, 1) := by decide +kernel
theorem dL_put_62 : decode cL_put 62 = .ok (.aload_n 0, 1) := by decide +kernel
theorem dL_put_63 : decode cL_put 63 = .ok (.iconst 3, 1) := by decide +kernel
theorem dL_put_64 : decode cL_put 64 = .ok (.dup2, 1) := by decide +kernel
theorem dL_put_65 : decode cL_put 65 = .ok (.iaload, 1) := by decide +kernel
theorem dL_put_66 : decode cL_put 66 = .ok (.iconst 1, 1) := by decide +kernel
theorem dL_put_67 : decode cL_put 67 = .ok (.iadd, 1) := by decide +kernel
theorem dL_put_68 : decode cL_put 68 = .ok (.iastore, 1) := by decide +kernel
theorem dL_put_69 : decode cL_put 69 = .ok (.return_, 1) := by decide +kernel
theorem dL_open_0 : decode cL_open 0 = .ok (.aload_n 1, 1) := by decide +kernel
theorem dL_open_1 : decode cL_open 1 = .ok (.aload_n 2, 1) := by decide +kernel
theorem dL_open_2 : decode cL_open 2 = .ok (.aload_n 3, 1) := by decide +kernel
theorem dL_open_3 : decode cL_open 3 = .ok (.aload 4, 2) := by decide +kernel
theorem dL_open_5 : decode cL_open 5 = .ok (.aload 5, 2) := by decide +kernel
theorem dL_open_7 : decode cL_open 7 = .ok (.aload 6, 2) := by decide +kernel
theorem dL_open_9 : decode cL_open 9 = .ok (.iload 8, 2) := by decide +kernel
theorem dL_open_11 : decode cL_open 11 = .ok (.ifCond .eq 11, 3) := by decide +kernel
theorem dL_open_14 : decode cL_open 14 = .ok (.iload 7, 2) := by decide +kernel
theorem dL_open_16 : decode cL_open 16 = .ok (.bipush 32, 2) := by decide +kernel
theorem dL_open_18 : decode cL_open 18 = .ok (.iadd, 1) := by decide +kernel
theorem dL_open_19 : decode cL_open 19 = .ok (.goto 5, 3) := by decide +kernel
theorem dL_open_22 : decode cL_open 22 = .ok (.iload 7, 2) := by decide +kernel
theorem dL_open_24 : decode cL_open 24 = .ok (.bipush 60, 2) := by decide +kernel
theorem dL_open_26 : decode cL_open 26 = .ok (.invokestatic 19, 3) := by decide +kernel
theorem dL_open_29 : decode cL_open 29 = .ok (.aload_n 1, 1) := by decide +kernel
theorem dL_open_30 : decode cL_open 30 = .ok (.bipush 17, 2) := by decide +kernel
theorem dL_open_32 : decode cL_open 32 = .ok (.dup2, 1) := by decide +kernel
theorem dL_open_33 : decode cL_open 33 = .ok (.iaload, 1) := by decide +kernel
theorem dL_open_34 : decode cL_open 34 = .ok (.iload 8, 2) := by decide +kernel
theorem dL_open_36 : decode cL_open 36 = .ok (.ifCond .eq 7, 3) := by decide +kernel
theorem dL_open_39 : decode cL_open 39 = .ok (.iconst 1, 1) := by decide +kernel
theorem dL_open_40 : decode cL_open 40 = .ok (.goto 4, 3) := by decide +kernel
theorem dL_open_43 : decode cL_open 43 = .ok (.iconst 0, 1) := by decide +kernel
theorem dL_open_44 : decode cL_open 44 = .ok (.iadd, 1) := by decide +kernel
theorem dL_open_45 : decode cL_open 45 = .ok (.iastore, 1) := by decide +kernel
theorem dL_open_46 : decode cL_open 46 = .ok (.aload_n 1, 1) := by decide +kernel
theorem dL_open_47 : decode cL_open 47 = .ok (.iconst 1, 1) := by decide +kernel
theorem dL_open_48 : decode cL_open 48 = .ok (.iload 7, 2) := by decide +kernel
theorem dL_open_50 : decode cL_open 50 = .ok (.iconst 1, 1) := by decide +kernel
theorem dL_open_51 : decode cL_open 51 = .ok (.iadd, 1) := by decide +kernel
theorem dL_open_52 : decode cL_open 52 = .ok (.iastore, 1) := by decide +kernel
theorem dL_open_53 : decode cL_open 53 = .ok (.aload_n 1, 1) := by decide +kernel
theorem dL_open_54 : decode cL_open 54 = .ok (.iconst 2, 1) := by decide +kernel
theorem dL_open_55 : decode cL_open 55 = .ok (.iconst 1, 1) := by decide +kernel
theorem dL_open_56 : decode cL_open 56 = .ok (.iastore, 1) := by decide +kernel
theorem dL_open_57 : decode cL_open 57 = .ok (.aload_n 0, 1) := by decide +kernel
theorem dL_open_58 : decode cL_open 58 = .ok (.iload 7, 2) := by decide +kernel
theorem dL_open_60 : decode cL_open 60 = .ok (.iaload, 1) := by decide +kernel
theorem dL_open_61 : decode cL_open 61 = .ok (.ifCond .le 49, 3) := by decide +kernel
theorem dL_open_64 : decode cL_open 64 = .ok (.aload_n 1, 1) := by decide +kernel
theorem dL_open_65 : decode cL_open 65 = .ok (.iconst 0, 1) := by decide +kernel
theorem dL_open_66 : decode cL_open 66 = .ok (.iaload, 1) := by decide +kernel
theorem dL_open_67 : decode cL_open 67 = .ok (.bipush 8, 2) := by decide +kernel
theorem dL_open_69 : decode cL_open 69 = .ok (.if_icmp .le 11, 3) := by decide +kernel
theorem dL_open_72 : decode cL_open 72 = .ok (.aload_n 1, 1) := by decide +kernel
theorem dL_open_73 : decode cL_open 73 = .ok (.bipush 6, 2) := by decide +kernel
theorem dL_open_75 : decode cL_open 75 = .ok (.iconst 1, 1) := by decide +kernel
theorem dL_open_76 : decode cL_open 76 = .ok (.iastore, 1) := by decide +kernel
theorem dL_open_77 : decode cL_open 77 = .ok (.goto 33, 3) := by decide +kernel
theorem dL_open_80 : decode cL_open 80 = .ok (.aload_n 2, 1) := by decide +kernel
theorem dL_open_81 : decode cL_open 81 = .ok (.aload_n 1, 1) := by decide +kernel
theorem dL_open_82 : decode cL_open 82 = .ok (.iconst 0, 1) := by decide +kernel
theorem dL_open_83 : decode cL_open 83 = .ok (.iaload, 1) := by decide +kernel
theorem dL_open_84 : decode cL_open 84 = .ok (.bipush 16, 2) := by decide +kernel
theorem dL_open_86 : decode cL_open 86 = .ok (.iload 7, 2) := by decide +kernel
theorem dL_open_88 : decode cL_open 88 = .ok (.imul, 1) := by decide +kernel
theorem dL_open_89 : decode cL_open 89 = .ok (.iastore, 1) := by decide +kernel
theorem dL_open_90 : decode cL_open 90 = .ok (.aload_n 2, 1) := by decide +kernel
theorem dL_open_91 : decode cL_open 91 = .ok (.bipush 20, 2) := by decide +kernel
theorem dL_open_93 : decode cL_open 93 = .ok (.aload_n 1, 1) := by decide +kernel
theorem dL_open_94 : decode cL_open 94 = .ok (.iconst 0, 1) := by decide +kernel
theorem dL_open_95 : decode cL_open 95 = .ok (.iaload, 1) := by decide +kernel
theorem dL_open_96 : decode cL_open 96 = .ok (.iadd, 1) := by decide +kernel
theorem dL_open_97 : decode cL_open 97 = .ok (.aload_n 1, 1) := by decide +kernel
theorem dL_open_98 : decode cL_open 98 = .ok (.iconst 3, 1) := by decide +kernel
theorem dL_open_99 : decode cL_open 99 = .ok (.iaload, 1) := by decide +kernel
theorem dL_open_100 : decode cL_open 100 = .ok (.iconst 1, 1) := by decide +kernel
theorem dL_open_101 : decode cL_open 101 = .ok (.isub, 1) := by decide +kernel
theorem dL_open_102 : decode cL_open 102 = .ok (.iastore, 1) := by decide +kernel
theorem dL_open_103 : decode cL_open 103 = .ok (.aload_n 1, 1) := by decide +kernel
theorem dL_open_104 : decode cL_open 104 = .ok (.iconst 0, 1) := by decide +kernel
theorem dL_open_105 : decode cL_open 105 = .ok (.dup2, 1) := by decide +kernel
theorem dL_open_106 : decode cL_open 106 = .ok (.iaload, 1) := by decide +kernel
theorem dL_open_107 : decode cL_open 107 = .ok (.iconst 1, 1) := by decide +kernel
theorem dL_open_108 : decode cL_open 108 = .ok (.iadd, 1) := by decide +kernel
theorem dL_open_109 : decode cL_open 109 = .ok (.iastore, 1) := by decide +kernel
theorem dL_open_110 : decode cL_open 110 = .ok (.return_, 1) := by decide +kernel
theorem dL_has_0 : decode cL_has 0 = .ok (.iconst 0, 1) := by decide +kernel
theorem dL_has_1 : decode cL_has 1 = .ok (.istore 5, 2) := by decide +kernel
theorem dL_has_3 : decode cL_has 3 = .ok (.iconst 0, 1) := by decide +kernel
theorem dL_has_4 : decode cL_has 4 = .ok (.istore 6, 2) := by decide +kernel
theorem dL_has_6 : decode cL_has 6 = .ok (.iload 6, 2) := by decide +kernel
theorem dL_has_8 : decode cL_has 8 = .ok (.aload_n 1, 1) := by decide +kernel
theorem dL_has_9 : decode cL_has 9 = .ok (.iconst 0, 1) := by decide +kernel
theorem dL_has_10 : decode cL_has 10 = .ok (.iaload, 1) := by decide +kernel
theorem dL_has_11 : decode cL_has 11 = .ok (.if_icmp .ge 41, 3) := by decide +kernel
theorem dL_has_14 : decode cL_has 14 = .ok (.iload 5, 2) := by decide +kernel
theorem dL_has_16 : decode cL_has 16 = .ok (.ifCond .ne 23, 3) := by decide +kernel
theorem dL_has_19 : decode cL_has 19 = .ok (.aload_n 0, 1) := by decide +kernel
theorem dL_has_20 : decode cL_has 20 = .ok (.aload_n 2, 1) := by decide +kernel
theorem dL_has_21 : decode cL_has 21 = .ok (.iload 6, 2) := by decide +kernel
theorem dL_has_23 : decode cL_has 23 = .ok (.iaload, 1) := by decide +kernel
theorem dL_has_24 : decode cL_has 24 = .ok (.bipush 16, 2) := by decide +kernel
theorem dL_has_26 : decode cL_has 26 = .ok (.idiv, 1) := by decide +kernel
theorem dL_has_27 : decode cL_has 27 = .ok (.iaload, 1) := by decide +kernel
theorem dL_has_28 : decode cL_has 28 = .ok (.iload 4, 2) := by decide +kernel
theorem dL_has_30 : decode cL_has 30 = .ok (.iload_n 3, 1) := by decide +kernel
theorem dL_has_31 : decode cL_has 31 = .ok (.iadd, 1) := by decide +kernel
theorem dL_has_32 : decode cL_has 32 = .ok (.ishr, 1) := by decide +kernel
theorem dL_has_33 : decode cL_has 33 = .ok (.iconst 1, 1) := by decide +kernel
theorem dL_has_34 : decode cL_has 34 = .ok (.iand, 1) := by decide +kernel
theorem dL_has_35 : decode cL_has 35 = .ok (.iconst 1, 1) := by decide +kernel
theorem dL_has_36 : decode cL_has 36 = .ok (.if_icmp .ne 7, 3) := by decide +kernel
theorem dL_has_39 : decode cL_has 39 = .ok (.iconst 1, 1) := by decide +kernel
theorem dL_has_40 : decode cL_has 40 = .ok (.goto 4, 3) := by decide +kernel
theorem dL_has_43 : decode cL_has 43 = .ok (.iconst 0, 1) := by decide +kernel
theorem dL_has_44 : decode cL_has 44 = .ok (.istore 5, 2) := by decide +kernel
theorem dL_has_46 : decode cL_has 46 = .ok (.iinc 6 1, 3) := by decide +kernel
theorem dL_has_49 : decode cL_has 49 = .ok (.goto (-43), 3) := by decide +kernel
theorem dL_has_52 : decode cL_has 52 = .ok (.iload 5, 2) := by decide +kernel
theorem dL_has_54 : decode cL_has 54 = .ok (.ireturn, 1) := by decide +kernel
theorem dL_takes_0 : decode cL_takes 0 = .ok (.aload_n 3, 1) := by decide +kernel
theorem dL_takes_1 : decode cL_takes 1 = .ok (.iconst 0, 1) := by decide +kernel
theorem dL_takes_2 : decode cL_takes 2 = .ok (.iaload, 1) := by decide +kernel
theorem dL_takes_3 : decode cL_takes 3 = .ok (.ifCond .ne 20, 3) := by decide +kernel
theorem dL_takes_6 : decode cL_takes 6 = .ok (.aload_n 3, 1) := by decide +kernel
theorem dL_takes_7 : decode cL_takes 7 = .ok (.iconst 2, 1) := by decide +kernel
theorem dL_takes_8 : decode cL_takes 8 = .ok (.iaload, 1) := by decide +kernel
theorem dL_takes_9 : decode cL_takes 9 = .ok (.ifCond .ne 12, 3) := by decide +kernel
theorem dL_takes_12 : decode cL_takes 12 = .ok (.iload 5, 2) := by decide +kernel
theorem dL_takes_14 : decode cL_takes 14 = .ok (.ifCond .ne 7, 3) := by decide +kernel
theorem dL_takes_17 : decode cL_takes 17 = .ok (.iconst 1, 1) := by decide +kernel
theorem dL_takes_18 : decode cL_takes 18 = .ok (.goto 4, 3) := by decide +kernel
theorem dL_takes_21 : decode cL_takes 21 = .ok (.iconst 0, 1) := by decide +kernel
theorem dL_takes_22 : decode cL_takes 22 = .ok (.ireturn, 1) := by decide +kernel
theorem dL_takes_23 : decode cL_takes 23 = .ok (.aload_n 0, 1) := by decide +kernel
theorem dL_takes_24 : decode cL_takes 24 = .ok (.aload_n 1, 1) := by decide +kernel
theorem dL_takes_25 : decode cL_takes 25 = .ok (.aload 4, 2) := by decide +kernel
theorem dL_takes_27 : decode cL_takes 27 = .ok (.aload_n 3, 1) := by decide +kernel
theorem dL_takes_28 : decode cL_takes 28 = .ok (.iconst 0, 1) := by decide +kernel
theorem dL_takes_29 : decode cL_takes 29 = .ok (.iaload, 1) := by decide +kernel
theorem dL_takes_30 : decode cL_takes 30 = .ok (.iconst 1, 1) := by decide +kernel
theorem dL_takes_31 : decode cL_takes 31 = .ok (.isub, 1) := by decide +kernel
theorem dL_takes_32 : decode cL_takes 32 = .ok (.iaload, 1) := by decide +kernel
theorem dL_takes_33 : decode cL_takes 33 = .ok (.iload 5, 2) := by decide +kernel
theorem dL_takes_35 : decode cL_takes 35 = .ok (.invokestatic 15, 3) := by decide +kernel
theorem dL_takes_38 : decode cL_takes 38 = .ok (.istore 6, 2) := by decide +kernel
theorem dL_takes_40 : decode cL_takes 40 = .ok (.iload 5, 2) := by decide +kernel
theorem dL_takes_42 : decode cL_takes 42 = .ok (.bipush 10, 2) := by decide +kernel
theorem dL_takes_44 : decode cL_takes 44 = .ok (.if_icmp .ge 21, 3) := by decide +kernel
theorem dL_takes_47 : decode cL_takes 47 = .ok (.aload_n 2, 1) := by decide +kernel
theorem dL_takes_48 : decode cL_takes 48 = .ok (.aload_n 3, 1) := by decide +kernel
theorem dL_takes_49 : decode cL_takes 49 = .ok (.aload 4, 2) := by decide +kernel
theorem dL_takes_51 : decode cL_takes 51 = .ok (.iload 5, 2) := by decide +kernel
theorem dL_takes_53 : decode cL_takes 53 = .ok (.bipush 10, 2) := by decide +kernel
theorem dL_takes_55 : decode cL_takes 55 = .ok (.invokestatic 23, 3) := by decide +kernel
theorem dL_takes_58 : decode cL_takes 58 = .ok (.ifCond .eq 7, 3) := by decide +kernel
theorem dL_takes_61 : decode cL_takes 61 = .ok (.iconst 1, 1) := by decide +kernel
theorem dL_takes_62 : decode cL_takes 62 = .ok (.goto 4, 3) := by decide +kernel
theorem dL_takes_65 : decode cL_takes 65 = .ok (.iconst 0, 1) := by decide +kernel
theorem dL_takes_66 : decode cL_takes 66 = .ok (.istore 7, 2) := by decide +kernel
theorem dL_takes_68 : decode cL_takes 68 = .ok (.iload 7, 2) := by decide +kernel
theorem dL_takes_70 : decode cL_takes 70 = .ok (.ifCond .ne 18, 3) := by decide +kernel
theorem dL_takes_73 : decode cL_takes 73 = .ok (.iload 6, 2) := by decide +kernel
theorem dL_takes_75 : decode cL_takes 75 = .ok (.ifCond .lt 13, 3) := by decide +kernel
theorem dL_takes_78 : decode cL_takes 78 = .ok (.aload 4, 2) := by decide +kernel
theorem dL_takes_80 : decode cL_takes 80 = .ok (.aload_n 3, 1) := by decide +kernel
theorem dL_takes_81 : decode cL_takes 81 = .ok (.iconst 0, 1) := by decide +kernel
theorem dL_takes_82 : decode cL_takes 82 = .ok (.iaload, 1) := by decide +kernel
theorem dL_takes_83 : decode cL_takes 83 = .ok (.iconst 1, 1) := by decide +kernel
theorem dL_takes_84 : decode cL_takes 84 = .ok (.isub, 1) := by decide +kernel
theorem dL_takes_85 : decode cL_takes 85 = .ok (.iload 6, 2) := by decide +kernel
theorem dL_takes_87 : decode cL_takes 87 = .ok (.iastore, 1) := by decide +kernel
theorem dL_takes_88 : decode cL_takes 88 = .ok (.iload 7, 2) := by decide +kernel
theorem dL_takes_90 : decode cL_takes 90 = .ok (.ifCond .ne 32, 3) := by decide +kernel
theorem dL_takes_93 : decode cL_takes 93 = .ok (.iload 6, 2) := by decide +kernel
theorem dL_takes_95 : decode cL_takes 95 = .ok (.ifCond .ge 23, 3) := by decide +kernel
theorem dL_takes_98 : decode cL_takes 98 = .ok (.iload 5, 2) := by decide +kernel
theorem dL_takes_100 : decode cL_takes 100 = .ok (.bipush 10, 2) := by decide +kernel
theorem dL_takes_102 : decode cL_takes 102 = .ok (.if_icmp .ge 20, 3) := by decide +kernel
theorem dL_takes_105 : decode cL_takes 105 = .ok (.aload_n 2, 1) := by decide +kernel
theorem dL_takes_106 : decode cL_takes 106 = .ok (.aload_n 3, 1) := by decide +kernel
theorem dL_takes_107 : decode cL_takes 107 = .ok (.aload 4, 2) := by decide +kernel
theorem dL_takes_109 : decode cL_takes 109 = .ok (.iload 5, 2) := by decide +kernel
theorem dL_takes_111 : decode cL_takes 111 = .ok (.iconst 0, 1) := by decide +kernel
theorem dL_takes_112 : decode cL_takes 112 = .ok (.invokestatic 23, 3) := by decide +kernel
theorem dL_takes_115 : decode cL_takes 115 = .ok (.ifCond .eq 7, 3) := by decide +kernel
theorem dL_takes_118 : decode cL_takes 118 = .ok (.iconst 1, 1) := by decide +kernel
theorem dL_takes_119 : decode cL_takes 119 = .ok (.goto 4, 3) := by decide +kernel
theorem dL_takes_122 : decode cL_takes 122 = .ok (.iconst 0, 1) := by decide +kernel
theorem dL_takes_123 : decode cL_takes 123 = .ok (.ireturn, 1) := by decide +kernel
theorem dL_wanted_0 : decode cL_wanted 0 = .ok (.aload_n 3, 1) := by decide +kernel
theorem dL_wanted_1 : decode cL_wanted 1 = .ok (.iconst 0, 1) := by decide +kernel
theorem dL_wanted_2 : decode cL_wanted 2 = .ok (.iaload, 1) := by decide +kernel
theorem dL_wanted_3 : decode cL_wanted 3 = .ok (.ifCond .eq 19, 3) := by decide +kernel
theorem dL_wanted_6 : decode cL_wanted 6 = .ok (.aload_n 0, 1) := by decide +kernel
theorem dL_wanted_7 : decode cL_wanted 7 = .ok (.aload_n 1, 1) := by decide +kernel
theorem dL_wanted_8 : decode cL_wanted 8 = .ok (.aload 4, 2) := by decide +kernel
theorem dL_wanted_10 : decode cL_wanted 10 = .ok (.aload_n 3, 1) := by decide +kernel
theorem dL_wanted_11 : decode cL_wanted 11 = .ok (.iconst 0, 1) := by decide +kernel
theorem dL_wanted_12 : decode cL_wanted 12 = .ok (.iaload, 1) := by decide +kernel
theorem dL_wanted_13 : decode cL_wanted 13 = .ok (.iconst 1, 1) := by decide +kernel
theorem dL_wanted_14 : decode cL_wanted 14 = .ok (.isub, 1) := by decide +kernel
theorem dL_wanted_15 : decode cL_wanted 15 = .ok (.iaload, 1) := by decide +kernel
theorem dL_wanted_16 : decode cL_wanted 16 = .ok (.invokestatic 27, 3) := by decide +kernel
theorem dL_wanted_19 : decode cL_wanted 19 = .ok (.ifCond .eq 7, 3) := by decide +kernel
theorem dL_wanted_22 : decode cL_wanted 22 = .ok (.iconst 0, 1) := by decide +kernel
theorem dL_wanted_23 : decode cL_wanted 23 = .ok (.goto 16, 3) := by decide +kernel
theorem dL_wanted_26 : decode cL_wanted 26 = .ok (.aload_n 0, 1) := by decide +kernel
theorem dL_wanted_27 : decode cL_wanted 27 = .ok (.aload_n 1, 1) := by decide +kernel
theorem dL_wanted_28 : decode cL_wanted 28 = .ok (.aload 4, 2) := by decide +kernel
theorem dL_wanted_30 : decode cL_wanted 30 = .ok (.aload_n 3, 1) := by decide +kernel
theorem dL_wanted_31 : decode cL_wanted 31 = .ok (.iconst 0, 1) := by decide +kernel
theorem dL_wanted_32 : decode cL_wanted 32 = .ok (.iaload, 1) := by decide +kernel
theorem dL_wanted_33 : decode cL_wanted 33 = .ok (.iconst 1, 1) := by decide +kernel
theorem dL_wanted_34 : decode cL_wanted 34 = .ok (.isub, 1) := by decide +kernel
theorem dL_wanted_35 : decode cL_wanted 35 = .ok (.iaload, 1) := by decide +kernel
theorem dL_wanted_36 : decode cL_wanted 36 = .ok (.invokestatic 31, 3) := by decide +kernel
theorem dL_wanted_39 : decode cL_wanted 39 = .ok (.istore 5, 2) := by decide +kernel
theorem dL_wanted_41 : decode cL_wanted 41 = .ok (.iconst (-1), 1) := by decide +kernel
theorem dL_wanted_42 : decode cL_wanted 42 = .ok (.istore 6, 2) := by decide +kernel
theorem dL_wanted_44 : decode cL_wanted 44 = .ok (.iconst 0, 1) := by decide +kernel
theorem dL_wanted_45 : decode cL_wanted 45 = .ok (.istore 7, 2) := by decide +kernel
theorem dL_wanted_47 : decode cL_wanted 47 = .ok (.iload 7, 2) := by decide +kernel
theorem dL_wanted_49 : decode cL_wanted 49 = .ok (.iconst 5, 1) := by decide +kernel
theorem dL_wanted_50 : decode cL_wanted 50 = .ok (.if_icmp .ge 61, 3) := by decide +kernel
theorem dL_wanted_53 : decode cL_wanted 53 = .ok (.iload 5, 2) := by decide +kernel
theorem dL_wanted_55 : decode cL_wanted 55 = .ok (.iconst 1, 1) := by decide +kernel
theorem dL_wanted_56 : decode cL_wanted 56 = .ok (.iload 7, 2) := by decide +kernel
theorem dL_wanted_58 : decode cL_wanted 58 = .ok (.ishl, 1) := by decide +kernel
theorem dL_wanted_59 : decode cL_wanted 59 = .ok (.if_icmp .ne 42, 3) := by decide +kernel
theorem dL_wanted_62 : decode cL_wanted 62 = .ok (.aload_n 1, 1) := by decide +kernel
theorem dL_wanted_63 : decode cL_wanted 63 = .ok (.iload 7, 2) := by decide +kernel
theorem dL_wanted_65 : decode cL_wanted 65 = .ok (.iaload, 1) := by decide +kernel
theorem dL_wanted_66 : decode cL_wanted 66 = .ok (.ifCond .le 35, 3) := by decide +kernel
theorem dL_wanted_69 : decode cL_wanted 69 = .ok (.aload_n 2, 1) := by decide +kernel
theorem dL_wanted_70 : decode cL_wanted 70 = .ok (.iload 7, 2) := by decide +kernel
theorem dL_wanted_72 : decode cL_wanted 72 = .ok (.iaload, 1) := by decide +kernel
theorem dL_wanted_73 : decode cL_wanted 73 = .ok (.bipush 20, 2) := by decide +kernel
theorem dL_wanted_75 : decode cL_wanted 75 = .ok (.ishr, 1) := by decide +kernel
theorem dL_wanted_76 : decode cL_wanted 76 = .ok (.iconst 1, 1) := by decide +kernel
theorem dL_wanted_77 : decode cL_wanted 77 = .ok (.iand, 1) := by decide +kernel
theorem dL_wanted_78 : decode cL_wanted 78 = .ok (.iconst 1, 1) := by decide +kernel
theorem dL_wanted_79 : decode cL_wanted 79 = .ok (.if_icmp .ne 22, 3) := by decide +kernel
theorem dL_wanted_82 : decode cL_wanted 82 = .ok (.aload_n 2, 1) := by decide +kernel
theorem dL_wanted_83 : decode cL_wanted 83 = .ok (.aload_n 3, 1) := by decide +kernel
theorem dL_wanted_84 : decode cL_wanted 84 = .ok (.aload 4, 2) := by decide +kernel
theorem dL_wanted_86 : decode cL_wanted 86 = .ok (.iload 7, 2) := by decide +kernel
theorem dL_wanted_88 : decode cL_wanted 88 = .ok (.bipush 10, 2) := by decide +kernel
theorem dL_wanted_90 : decode cL_wanted 90 = .ok (.invokestatic 23, 3) := by decide +kernel
theorem dL_wanted_93 : decode cL_wanted 93 = .ok (.ifCond .ne 8, 3) := by decide +kernel
theorem dL_wanted_96 : decode cL_wanted 96 = .ok (.iload 7, 2) := by decide +kernel
theorem dL_wanted_98 : decode cL_wanted 98 = .ok (.goto 5, 3) := by decide +kernel
theorem dL_wanted_101 : decode cL_wanted 101 = .ok (.iload 6, 2) := by decide +kernel
theorem dL_wanted_103 : decode cL_wanted 103 = .ok (.istore 6, 2) := by decide +kernel
theorem dL_wanted_105 : decode cL_wanted 105 = .ok (.iinc 7 1, 3) := by decide +kernel
theorem dL_wanted_108 : decode cL_wanted 108 = .ok (.goto (-61), 3) := by decide +kernel
theorem dL_wanted_111 : decode cL_wanted 111 = .ok (.iload 6, 2) := by decide +kernel
theorem dL_wanted_113 : decode cL_wanted 113 = .ok (.ireturn, 1) := by decide +kernel
theorem dL_thing_0 : decode cL_thing 0 = .ok (.iconst 1, 1) := by decide +kernel
theorem dL_thing_1 : decode cL_thing 1 = .ok (.istore 12, 2) := by decide +kernel
theorem dL_thing_3 : decode cL_thing 3 = .ok (.iconst 0, 1) := by decide +kernel
theorem dL_thing_4 : decode cL_thing 4 = .ok (.istore 13, 2) := by decide +kernel
theorem dL_thing_6 : decode cL_thing 6 = .ok (.iload 12, 2) := by decide +kernel
theorem dL_thing_8 : decode cL_thing 8 = .ok (.ifCond .eq 263, 3) := by decide +kernel
theorem dL_thing_11 : decode cL_thing 11 = .ok (.aload_n 3, 1) := by decide +kernel
theorem dL_thing_12 : decode cL_thing 12 = .ok (.bipush 6, 2) := by decide +kernel
theorem dL_thing_14 : decode cL_thing 14 = .ok (.iaload, 1) := by decide +kernel
theorem dL_thing_15 : decode cL_thing 15 = .ok (.ifCond .ne 256, 3) := by decide +kernel
theorem dL_thing_18 : decode cL_thing 18 = .ok (.iload 13, 2) := by decide +kernel
theorem dL_thing_20 : decode cL_thing 20 = .ok (.bipush 8, 2) := by decide +kernel
theorem dL_thing_22 : decode cL_thing 22 = .ok (.if_icmp .ge 15, 3) := by decide +kernel
theorem dL_thing_25 : decode cL_thing 25 = .ok (.aload_n 0, 1) := by decide +kernel
theorem dL_thing_26 : decode cL_thing 26 = .ok (.aload_n 1, 1) := by decide +kernel
theorem dL_thing_27 : decode cL_thing 27 = .ok (.aload_n 2, 1) := by decide +kernel
theorem dL_thing_28 : decode cL_thing 28 = .ok (.aload_n 3, 1) := by decide +kernel
theorem dL_thing_29 : decode cL_thing 29 = .ok (.aload 4, 2) := by decide +kernel
theorem dL_thing_31 : decode cL_thing 31 = .ok (.invokestatic 35, 3) := by decide +kernel
theorem dL_thing_34 : decode cL_thing 34 = .ok (.goto 4, 3) := by decide +kernel
theorem dL_thing_37 : decode cL_thing 37 = .ok (.iconst (-1), 1) := by decide +kernel
theorem dL_thing_38 : decode cL_thing 38 = .ok (.istore 14, 2) := by decide +kernel
theorem dL_thing_40 : decode cL_thing 40 = .ok (.aload_n 0, 1) := by decide +kernel
theorem dL_thing_41 : decode cL_thing 41 = .ok (.aload_n 1, 1) := by decide +kernel
theorem dL_thing_42 : decode cL_thing 42 = .ok (.aload_n 2, 1) := by decide +kernel
theorem dL_thing_43 : decode cL_thing 43 = .ok (.aload_n 3, 1) := by decide +kernel
theorem dL_thing_44 : decode cL_thing 44 = .ok (.aload 4, 2) := by decide +kernel
theorem dL_thing_46 : decode cL_thing 46 = .ok (.iload 10, 2) := by decide +kernel
theorem dL_thing_48 : decode cL_thing 48 = .ok (.invokestatic 39, 3) := by decide +kernel
theorem dL_thing_51 : decode cL_thing 51 = .ok (.ifCond .eq 55, 3) := by decide +kernel
theorem dL_thing_54 : decode cL_thing 54 = .ok (.iload 10, 2) := by decide +kernel
theorem dL_thing_56 : decode cL_thing 56 = .ok (.bipush 10, 2) := by decide +kernel
theorem dL_thing_58 : decode cL_thing 58 = .ok (.if_icmp .ge 24, 3) := by decide +kernel
theorem dL_thing_61 : decode cL_thing 61 = .ok (.aload_n 1, 1) := by decide +kernel
theorem dL_thing_62 : decode cL_thing 62 = .ok (.aload_n 3, 1) := by decide +kernel
theorem dL_thing_63 : decode cL_thing 63 = .ok (.aload 4, 2) := by decide +kernel
theorem dL_thing_65 : decode cL_thing 65 = .ok (.aload 5, 2) := by decide +kernel
theorem dL_thing_67 : decode cL_thing 67 = .ok (.aload 6, 2) := by decide +kernel
theorem dL_thing_69 : decode cL_thing 69 = .ok (.aload 7, 2) := by decide +kernel
theorem dL_thing_71 : decode cL_thing 71 = .ok (.aload 8, 2) := by decide +kernel
theorem dL_thing_73 : decode cL_thing 73 = .ok (.iload 10, 2) := by decide +kernel
theorem dL_thing_75 : decode cL_thing 75 = .ok (.iconst 0, 1) := by decide +kernel
theorem dL_thing_76 : decode cL_thing 76 = .ok (.invokestatic 43, 3) := by decide +kernel
theorem dL_thing_79 : decode cL_thing 79 = .ok (.goto 21, 3) := by decide +kernel
theorem dL_thing_82 : decode cL_thing 82 = .ok (.aload_n 3, 1) := by decide +kernel
theorem dL_thing_83 : decode cL_thing 83 = .ok (.aload 4, 2) := by decide +kernel
theorem dL_thing_85 : decode cL_thing 85 = .ok (.aload 5, 2) := by decide +kernel
theorem dL_thing_87 : decode cL_thing 87 = .ok (.aload 6, 2) := by decide +kernel
theorem dL_thing_89 : decode cL_thing 89 = .ok (.aload 7, 2) := by decide +kernel
theorem dL_thing_91 : decode cL_thing 91 = .ok (.aload 8, 2) := by decide +kernel
theorem dL_thing_93 : decode cL_thing 93 = .ok (.bipush 10, 2) := by decide +kernel
theorem dL_thing_95 : decode cL_thing 95 = .ok (.iload 11, 2) := by decide +kernel
theorem dL_thing_97 : decode cL_thing 97 = .ok (.invokestatic 19, 3) := by decide +kernel
theorem dL_thing_100 : decode cL_thing 100 = .ok (.iconst 0, 1) := by decide +kernel
theorem dL_thing_101 : decode cL_thing 101 = .ok (.istore 12, 2) := by decide +kernel
theorem dL_thing_103 : decode cL_thing 103 = .ok (.goto 165, 3) := by decide +kernel
theorem dL_thing_106 : decode cL_thing 106 = .ok (.aload_n 3, 1) := by decide +kernel
theorem dL_thing_107 : decode cL_thing 107 = .ok (.iconst 2, 1) := by decide +kernel
theorem dL_thing_108 : decode cL_thing 108 = .ok (.iaload, 1) := by decide +kernel
theorem dL_thing_109 : decode cL_thing 109 = .ok (.ifCond .ne 35, 3) := by decide +kernel
theorem dL_thing_112 : decode cL_thing 112 = .ok (.aload_n 2, 1) := by decide +kernel
theorem dL_thing_113 : decode cL_thing 113 = .ok (.iconst 0, 1) := by decide +kernel
theorem dL_thing_114 : decode cL_thing 114 = .ok (.iaload, 1) := by decide +kernel
theorem dL_thing_115 : decode cL_thing 115 = .ok (.bipush 20, 2) := by decide +kernel
theorem dL_thing_117 : decode cL_thing 117 = .ok (.ishr, 1) := by decide +kernel
theorem dL_thing_118 : decode cL_thing 118 = .ok (.iconst 1, 1) := by decide +kernel
theorem dL_thing_119 : decode cL_thing 119 = .ok (.iand, 1) := by decide +kernel
theorem dL_thing_120 : decode cL_thing 120 = .ok (.iconst 1, 1) := by decide +kernel
theorem dL_thing_121 : decode cL_thing 121 = .ok (.if_icmp .ne 23, 3) := by decide +kernel
theorem dL_thing_124 : decode cL_thing 124 = .ok (.aload_n 1, 1) := by decide +kernel
theorem dL_thing_125 : decode cL_thing 125 = .ok (.aload_n 3, 1) := by decide +kernel
theorem dL_thing_126 : decode cL_thing 126 = .ok (.aload 4, 2) := by decide +kernel
theorem dL_thing_128 : decode cL_thing 128 = .ok (.aload 5, 2) := by decide +kernel
theorem dL_thing_130 : decode cL_thing 130 = .ok (.aload 6, 2) := by decide +kernel
theorem dL_thing_132 : decode cL_thing 132 = .ok (.aload 7, 2) := by decide +kernel
theorem dL_thing_134 : decode cL_thing 134 = .ok (.aload 8, 2) := by decide +kernel
theorem dL_thing_136 : decode cL_thing 136 = .ok (.iconst 0, 1) := by decide +kernel
theorem dL_thing_137 : decode cL_thing 137 = .ok (.iconst 1, 1) := by decide +kernel
theorem dL_thing_138 : decode cL_thing 138 = .ok (.invokestatic 43, 3) := by decide +kernel
theorem dL_thing_141 : decode cL_thing 141 = .ok (.goto 127, 3) := by decide +kernel
theorem dL_thing_144 : decode cL_thing 144 = .ok (.iload 14, 2) := by decide +kernel
theorem dL_thing_146 : decode cL_thing 146 = .ok (.ifCond .lt 50, 3) := by decide +kernel
theorem dL_thing_149 : decode cL_thing 149 = .ok (.aload 4, 2) := by decide +kernel
theorem dL_thing_151 : decode cL_thing 151 = .ok (.aload_n 3, 1) := by decide +kernel
theorem dL_thing_152 : decode cL_thing 152 = .ok (.iconst 0, 1) := by decide +kernel
theorem dL_thing_153 : decode cL_thing 153 = .ok (.iaload, 1) := by decide +kernel
theorem dL_thing_154 : decode cL_thing 154 = .ok (.iconst 1, 1) := by decide +kernel
theorem dL_thing_155 : decode cL_thing 155 = .ok (.isub, 1) := by decide +kernel
theorem dL_thing_156 : decode cL_thing 156 = .ok (.aload_n 0, 1) := by decide +kernel
theorem dL_thing_157 : decode cL_thing 157 = .ok (.aload_n 1, 1) := by decide +kernel
theorem dL_thing_158 : decode cL_thing 158 = .ok (.aload 4, 2) := by decide +kernel
theorem dL_thing_160 : decode cL_thing 160 = .ok (.aload_n 3, 1) := by decide +kernel
theorem dL_thing_161 : decode cL_thing 161 = .ok (.iconst 0, 1) := by decide +kernel
theorem dL_thing_162 : decode cL_thing 162 = .ok (.iaload, 1) := by decide +kernel
theorem dL_thing_163 : decode cL_thing 163 = .ok (.iconst 1, 1) := by decide +kernel
theorem dL_thing_164 : decode cL_thing 164 = .ok (.isub, 1) := by decide +kernel
theorem dL_thing_165 : decode cL_thing 165 = .ok (.iaload, 1) := by decide +kernel
theorem dL_thing_166 : decode cL_thing 166 = .ok (.iload 14, 2) := by decide +kernel
theorem dL_thing_168 : decode cL_thing 168 = .ok (.invokestatic 15, 3) := by decide +kernel
theorem dL_thing_171 : decode cL_thing 171 = .ok (.iastore, 1) := by decide +kernel
theorem dL_thing_172 : decode cL_thing 172 = .ok (.aload_n 1, 1) := by decide +kernel
theorem dL_thing_173 : decode cL_thing 173 = .ok (.aload_n 3, 1) := by decide +kernel
theorem dL_thing_174 : decode cL_thing 174 = .ok (.aload 4, 2) := by decide +kernel
theorem dL_thing_176 : decode cL_thing 176 = .ok (.aload 5, 2) := by decide +kernel
theorem dL_thing_178 : decode cL_thing 178 = .ok (.aload 6, 2) := by decide +kernel
theorem dL_thing_180 : decode cL_thing 180 = .ok (.aload 7, 2) := by decide +kernel
theorem dL_thing_182 : decode cL_thing 182 = .ok (.aload 8, 2) := by decide +kernel
theorem dL_thing_184 : decode cL_thing 184 = .ok (.iload 14, 2) := by decide +kernel
theorem dL_thing_186 : decode cL_thing 186 = .ok (.iconst 1, 1) := by decide +kernel
theorem dL_thing_187 : decode cL_thing 187 = .ok (.invokestatic 43, 3) := by decide +kernel
theorem dL_thing_190 : decode cL_thing 190 = .ok (.iinc 13 1, 3) := by decide +kernel
theorem dL_thing_193 : decode cL_thing 193 = .ok (.goto 75, 3) := by decide +kernel
theorem dL_thing_196 : decode cL_thing 196 = .ok (.aload_n 3, 1) := by decide +kernel
theorem dL_thing_197 : decode cL_thing 197 = .ok (.iconst 0, 1) := by decide +kernel
theorem dL_thing_198 : decode cL_thing 198 = .ok (.iaload, 1) := by decide +kernel
theorem dL_thing_199 : decode cL_thing 199 = .ok (.iconst 1, 1) := by decide +kernel
theorem dL_thing_200 : decode cL_thing 200 = .ok (.if_icmp .le 58, 3) := by decide +kernel
theorem dL_thing_203 : decode cL_thing 203 = .ok (.aload_n 0, 1) := by decide +kernel
theorem dL_thing_204 : decode cL_thing 204 = .ok (.aload_n 1, 1) := by decide +kernel
theorem dL_thing_205 : decode cL_thing 205 = .ok (.aload 4, 2) := by decide +kernel
theorem dL_thing_207 : decode cL_thing 207 = .ok (.aload_n 3, 1) := by decide +kernel
theorem dL_thing_208 : decode cL_thing 208 = .ok (.iconst 0, 1) := by decide +kernel
theorem dL_thing_209 : decode cL_thing 209 = .ok (.iaload, 1) := by decide +kernel
theorem dL_thing_210 : decode cL_thing 210 = .ok (.iconst 1, 1) := by decide +kernel
theorem dL_thing_211 : decode cL_thing 211 = .ok (.isub, 1) := by decide +kernel
theorem dL_thing_212 : decode cL_thing 212 = .ok (.iaload, 1) := by decide +kernel
theorem dL_thing_213 : decode cL_thing 213 = .ok (.invokestatic 27, 3) := by decide +kernel
theorem dL_thing_216 : decode cL_thing 216 = .ok (.ifCond .eq 42, 3) := by decide +kernel
theorem dL_thing_219 : decode cL_thing 219 = .ok (.aload_n 2, 1) := by decide +kernel
theorem dL_thing_220 : decode cL_thing 220 = .ok (.aload 4, 2) := by decide +kernel
theorem dL_thing_222 : decode cL_thing 222 = .ok (.aload_n 3, 1) := by decide +kernel
theorem dL_thing_223 : decode cL_thing 223 = .ok (.iconst 0, 1) := by decide +kernel
theorem dL_thing_224 : decode cL_thing 224 = .ok (.iaload, 1) := by decide +kernel
theorem dL_thing_225 : decode cL_thing 225 = .ok (.iconst 1, 1) := by decide +kernel
theorem dL_thing_226 : decode cL_thing 226 = .ok (.isub, 1) := by decide +kernel
theorem dL_thing_227 : decode cL_thing 227 = .ok (.iaload, 1) := by decide +kernel
theorem dL_thing_228 : decode cL_thing 228 = .ok (.bipush 16, 2) := by decide +kernel
theorem dL_thing_230 : decode cL_thing 230 = .ok (.idiv, 1) := by decide +kernel
theorem dL_thing_231 : decode cL_thing 231 = .ok (.iaload, 1) := by decide +kernel
theorem dL_thing_232 : decode cL_thing 232 = .ok (.bipush 21, 2) := by decide +kernel
theorem dL_thing_234 : decode cL_thing 234 = .ok (.ishr, 1) := by decide +kernel
theorem dL_thing_235 : decode cL_thing 235 = .ok (.iconst 1, 1) := by decide +kernel
theorem dL_thing_236 : decode cL_thing 236 = .ok (.iand, 1) := by decide +kernel
theorem dL_thing_237 : decode cL_thing 237 = .ok (.iconst 1, 1) := by decide +kernel
theorem dL_thing_238 : decode cL_thing 238 = .ok (.if_icmp .ne 20, 3) := by decide +kernel
theorem dL_thing_241 : decode cL_thing 241 = .ok (.aload_n 3, 1) := by decide +kernel
theorem dL_thing_242 : decode cL_thing 242 = .ok (.iconst 0, 1) := by decide +kernel
theorem dL_thing_243 : decode cL_thing 243 = .ok (.dup2, 1) := by decide +kernel
theorem dL_thing_244 : decode cL_thing 244 = .ok (.iaload, 1) := by decide +kernel
theorem dL_thing_245 : decode cL_thing 245 = .ok (.iconst 1, 1) := by decide +kernel
theorem dL_thing_246 : decode cL_thing 246 = .ok (.isub, 1) := by decide +kernel
theorem dL_thing_247 : decode cL_thing 247 = .ok (.iastore, 1) := by decide +kernel
theorem dL_thing_248 : decode cL_thing 248 = .ok (.aload_n 3, 1) := by decide +kernel
theorem dL_thing_249 : decode cL_thing 249 = .ok (.iconst 4, 1) := by decide +kernel
theorem dL_thing_250 : decode cL_thing 250 = .ok (.dup2, 1) := by decide +kernel
theorem dL_thing_251 : decode cL_thing 251 = .ok (.iaload, 1) := by decide +kernel
theorem dL_thing_252 : decode cL_thing 252 = .ok (.iconst 1, 1) := by decide +kernel
theorem dL_thing_253 : decode cL_thing 253 = .ok (.iadd, 1) := by decide +kernel
theorem dL_thing_254 : decode cL_thing 254 = .ok (.iastore, 1) := by decide +kernel
theorem dL_thing_255 : decode cL_thing 255 = .ok (.goto 13, 3) := by decide +kernel
theorem dL_thing_258 : decode cL_thing 258 = .ok (.aload_n 3, 1) := by decide +kernel
theorem dL_thing_259 : decode cL_thing 259 = .ok (.aload 9, 2) := by decide +kernel
theorem dL_thing_261 : decode cL_thing 261 = .ok (.iconst 0, 1) := by decide +kernel
theorem dL_thing_262 : decode cL_thing 262 = .ok (.invokestatic 47, 3) := by decide +kernel
theorem dL_thing_265 : decode cL_thing 265 = .ok (.iconst 0, 1) := by decide +kernel
theorem dL_thing_266 : decode cL_thing 266 = .ok (.istore 12, 2) := by decide +kernel
theorem dL_thing_268 : decode cL_thing 268 = .ok (.goto (-262), 3) := by decide +kernel
theorem dL_thing_271 : decode cL_thing 271 = .ok (.return_, 1) := by decide +kernel
theorem dL_close_0 : decode cL_close 0 = .ok (.aload_n 3, 1) := by decide +kernel
theorem dL_close_1 : decode cL_close 1 = .ok (.iconst 0, 1) := by decide +kernel
theorem dL_close_2 : decode cL_close 2 = .ok (.iaload, 1) := by decide +kernel
theorem dL_close_3 : decode cL_close 3 = .ok (.iload 6, 2) := by decide +kernel
theorem dL_close_5 : decode cL_close 5 = .ok (.if_icmp .le 105, 3) := by decide +kernel
theorem dL_close_8 : decode cL_close 8 = .ok (.aload 4, 2) := by decide +kernel
theorem dL_close_10 : decode cL_close 10 = .ok (.aload_n 3, 1) := by decide +kernel
theorem dL_close_11 : decode cL_close 11 = .ok (.iconst 0, 1) := by decide +kernel
theorem dL_close_12 : decode cL_close 12 = .ok (.iaload, 1) := by decide +kernel
theorem dL_close_13 : decode cL_close 13 = .ok (.iconst 1, 1) := by decide +kernel
theorem dL_close_14 : decode cL_close 14 = .ok (.isub, 1) := by decide +kernel
theorem dL_close_15 : decode cL_close 15 = .ok (.iaload, 1) := by decide +kernel
theorem dL_close_16 : decode cL_close 16 = .ok (.istore 8, 2) := by decide +kernel
theorem dL_close_18 : decode cL_close 18 = .ok (.aload_n 3, 1) := by decide +kernel
theorem dL_close_19 : decode cL_close 19 = .ok (.iconst 0, 1) := by decide +kernel
theorem dL_close_20 : decode cL_close 20 = .ok (.iaload, 1) := by decide +kernel
theorem dL_close_21 : decode cL_close 21 = .ok (.iload 6, 2) := by decide +kernel
theorem dL_close_23 : decode cL_close 23 = .ok (.iconst 1, 1) := by decide +kernel
theorem dL_close_24 : decode cL_close 24 = .ok (.iadd, 1) := by decide +kernel
theorem dL_close_25 : decode cL_close 25 = .ok (.if_icmp .gt 8, 3) := by decide +kernel
theorem dL_close_28 : decode cL_close 28 = .ok (.iload 7, 2) := by decide +kernel
theorem dL_close_30 : decode cL_close 30 = .ok (.ifCond .ne 7, 3) := by decide +kernel
theorem dL_close_33 : decode cL_close 33 = .ok (.iconst 1, 1) := by decide +kernel
theorem dL_close_34 : decode cL_close 34 = .ok (.goto 4, 3) := by decide +kernel
theorem dL_close_37 : decode cL_close 37 = .ok (.iconst 0, 1) := by decide +kernel
theorem dL_close_38 : decode cL_close 38 = .ok (.istore 9, 2) := by decide +kernel
theorem dL_close_40 : decode cL_close 40 = .ok (.aload_n 0, 1) := by decide +kernel
theorem dL_close_41 : decode cL_close 41 = .ok (.aload_n 1, 1) := by decide +kernel
theorem dL_close_42 : decode cL_close 42 = .ok (.iload 8, 2) := by decide +kernel
theorem dL_close_44 : decode cL_close 44 = .ok (.invokestatic 27, 3) := by decide +kernel
theorem dL_close_47 : decode cL_close 47 = .ok (.ifCond .ne 10, 3) := by decide +kernel
theorem dL_close_50 : decode cL_close 50 = .ok (.aload_n 3, 1) := by decide +kernel
theorem dL_close_51 : decode cL_close 51 = .ok (.aload 5, 2) := by decide +kernel
theorem dL_close_53 : decode cL_close 53 = .ok (.iconst 2, 1) := by decide +kernel
theorem dL_close_54 : decode cL_close 54 = .ok (.invokestatic 47, 3) := by decide +kernel
theorem dL_close_57 : decode cL_close 57 = .ok (.aload_n 3, 1) := by decide +kernel
theorem dL_close_58 : decode cL_close 58 = .ok (.iconst 4, 1) := by decide +kernel
theorem dL_close_59 : decode cL_close 59 = .ok (.dup2, 1) := by decide +kernel
theorem dL_close_60 : decode cL_close 60 = .ok (.iaload, 1) := by decide +kernel
theorem dL_close_61 : decode cL_close 61 = .ok (.iload 9, 2) := by decide +kernel
theorem dL_close_63 : decode cL_close 63 = .ok (.ifCond .eq 7, 3) := by decide +kernel
theorem dL_close_66 : decode cL_close 66 = .ok (.iconst 1, 1) := by decide +kernel
theorem dL_close_67 : decode cL_close 67 = .ok (.goto 4, 3) := by decide +kernel
theorem dL_close_70 : decode cL_close 70 = .ok (.iconst 0, 1) := by decide +kernel
theorem dL_close_71 : decode cL_close 71 = .ok (.iadd, 1) := by decide +kernel
theorem dL_close_72 : decode cL_close 72 = .ok (.iastore, 1) := by decide +kernel
theorem dL_close_73 : decode cL_close 73 = .ok (.iload 9, 2) := by decide +kernel
theorem dL_close_75 : decode cL_close 75 = .ok (.ifCond .eq 25, 3) := by decide +kernel
theorem dL_close_78 : decode cL_close 78 = .ok (.aload_n 2, 1) := by decide +kernel
theorem dL_close_79 : decode cL_close 79 = .ok (.iload 8, 2) := by decide +kernel
theorem dL_close_81 : decode cL_close 81 = .ok (.bipush 16, 2) := by decide +kernel
theorem dL_close_83 : decode cL_close 83 = .ok (.idiv, 1) := by decide +kernel
theorem dL_close_84 : decode cL_close 84 = .ok (.iaload, 1) := by decide +kernel
theorem dL_close_85 : decode cL_close 85 = .ok (.bipush 21, 2) := by decide +kernel
theorem dL_close_87 : decode cL_close 87 = .ok (.ishr, 1) := by decide +kernel
theorem dL_close_88 : decode cL_close 88 = .ok (.iconst 1, 1) := by decide +kernel
theorem dL_close_89 : decode cL_close 89 = .ok (.iand, 1) := by decide +kernel
theorem dL_close_90 : decode cL_close 90 = .ok (.ifCond .ne 10, 3) := by decide +kernel
theorem dL_close_93 : decode cL_close 93 = .ok (.aload_n 3, 1) := by decide +kernel
theorem dL_close_94 : decode cL_close 94 = .ok (.aload 5, 2) := by decide +kernel
theorem dL_close_96 : decode cL_close 96 = .ok (.iconst 3, 1) := by decide +kernel
theorem dL_close_97 : decode cL_close 97 = .ok (.invokestatic 47, 3) := by decide +kernel
theorem dL_close_100 : decode cL_close 100 = .ok (.aload_n 3, 1) := by decide +kernel
theorem dL_close_101 : decode cL_close 101 = .ok (.iconst 0, 1) := by decide +kernel
theorem dL_close_102 : decode cL_close 102 = .ok (.dup2, 1) := by decide +kernel
theorem dL_close_103 : decode cL_close 103 = .ok (.iaload, 1) := by decide +kernel
theorem dL_close_104 : decode cL_close 104 = .ok (.iconst 1, 1) := by decide +kernel
theorem dL_close_105 : decode cL_close 105 = .ok (.isub, 1) := by decide +kernel
theorem dL_close_106 : decode cL_close 106 = .ok (.iastore, 1) := by decide +kernel
theorem dL_close_107 : decode cL_close 107 = .ok (.goto (-107), 3) := by decide +kernel
theorem dL_close_110 : decode cL_close 110 = .ok (.return_, 1) := by decide +kernel
theorem dL_token_0 : decode cL_token 0 = .ok (.aload_n 2, 1) := by decide +kernel
theorem dL_token_1 : decode cL_token 1 = .ok (.bipush 7, 2) := by decide +kernel
theorem dL_token_3 : decode cL_token 3 = .ok (.iaload, 1) := by decide +kernel
theorem dL_token_4 : decode cL_token 4 = .ok (.ifCond .ne 23, 3) := by decide +kernel
theorem dL_token_7 : decode cL_token 7 = .ok (.iload_n 3, 1) := by decide +kernel
theorem dL_token_8 : decode cL_token 8 = .ok (.ifCond .lt 11, 3) := by decide +kernel
theorem dL_token_11 : decode cL_token 11 = .ok (.iload_n 3, 1) := by decide +kernel
theorem dL_token_12 : decode cL_token 12 = .ok (.aload_n 1, 1) := by decide +kernel
theorem dL_token_13 : decode cL_token 13 = .ok (.bipush 20, 2) := by decide +kernel
theorem dL_token_15 : decode cL_token 15 = .ok (.iaload, 1) := by decide +kernel
theorem dL_token_16 : decode cL_token 16 = .ok (.if_icmp .lt 7, 3) := by decide +kernel
theorem dL_token_19 : decode cL_token 19 = .ok (.iconst (-1), 1) := by decide +kernel
theorem dL_token_20 : decode cL_token 20 = .ok (.goto 6, 3) := by decide +kernel
theorem dL_token_23 : decode cL_token 23 = .ok (.aload_n 1, 1) := by decide +kernel
theorem dL_token_24 : decode cL_token 24 = .ok (.iload_n 3, 1) := by decide +kernel
theorem dL_token_25 : decode cL_token 25 = .ok (.iaload, 1) := by decide +kernel
theorem dL_token_26 : decode cL_token 26 = .ok (.ireturn, 1) := by decide +kernel
theorem dL_token_27 : decode cL_token 27 = .ok (.aload_n 2, 1) := by decide +kernel
theorem dL_token_28 : decode cL_token 28 = .ok (.bipush 11, 2) := by decide +kernel
theorem dL_token_30 : decode cL_token 30 = .ok (.aload_n 2, 1) := by decide +kernel
theorem dL_token_31 : decode cL_token 31 = .ok (.bipush 7, 2) := by decide +kernel
theorem dL_token_33 : decode cL_token 33 = .ok (.iaload, 1) := by decide +kernel
theorem dL_token_34 : decode cL_token 34 = .ok (.iadd, 1) := by decide +kernel
theorem dL_token_35 : decode cL_token 35 = .ok (.iaload, 1) := by decide +kernel
theorem dL_token_36 : decode cL_token 36 = .ok (.istore 4, 2) := by decide +kernel
theorem dL_token_38 : decode cL_token 38 = .ok (.iload_n 3, 1) := by decide +kernel
theorem dL_token_39 : decode cL_token 39 = .ok (.ifCond .lt 14, 3) := by decide +kernel
theorem dL_token_42 : decode cL_token 42 = .ok (.iload_n 3, 1) := by decide +kernel
theorem dL_token_43 : decode cL_token 43 = .ok (.aload_n 0, 1) := by decide +kernel
theorem dL_token_44 : decode cL_token 44 = .ok (.bipush 8, 2) := by decide +kernel
theorem dL_token_46 : decode cL_token 46 = .ok (.iload 4, 2) := by decide +kernel
theorem dL_token_48 : decode cL_token 48 = .ok (.iadd, 1) := by decide +kernel
theorem dL_token_49 : decode cL_token 49 = .ok (.iaload, 1) := by decide +kernel
theorem dL_token_50 : decode cL_token 50 = .ok (.if_icmp .lt 7, 3) := by decide +kernel
theorem dL_token_53 : decode cL_token 53 = .ok (.iconst (-1), 1) := by decide +kernel
theorem dL_token_54 : decode cL_token 54 = .ok (.goto 11, 3) := by decide +kernel
theorem dL_token_57 : decode cL_token 57 = .ok (.aload_n 0, 1) := by decide +kernel
theorem dL_token_58 : decode cL_token 58 = .ok (.iconst 4, 1) := by decide +kernel
theorem dL_token_59 : decode cL_token 59 = .ok (.iload 4, 2) := by decide +kernel
theorem dL_token_61 : decode cL_token 61 = .ok (.imul, 1) := by decide +kernel
theorem dL_token_62 : decode cL_token 62 = .ok (.iload_n 3, 1) := by decide +kernel
theorem dL_token_63 : decode cL_token 63 = .ok (.iadd, 1) := by decide +kernel
theorem dL_token_64 : decode cL_token 64 = .ok (.iaload, 1) := by decide +kernel
theorem dL_token_65 : decode cL_token 65 = .ok (.ireturn, 1) := by decide +kernel
theorem dL_one_0 : decode cL_one 0 = .ok (.aload 5, 2) := by decide +kernel
theorem dL_one_2 : decode cL_one 2 = .ok (.bipush 8, 2) := by decide +kernel
theorem dL_one_4 : decode cL_one 4 = .ok (.aload 5, 2) := by decide +kernel
theorem dL_one_6 : decode cL_one 6 = .ok (.bipush 7, 2) := by decide +kernel
theorem dL_one_8 : decode cL_one 8 = .ok (.iaload, 1) := by decide +kernel
theorem dL_one_9 : decode cL_one 9 = .ok (.iadd, 1) := by decide +kernel
theorem dL_one_10 : decode cL_one 10 = .ok (.iaload, 1) := by decide +kernel
theorem dL_one_11 : decode cL_one 11 = .ok (.istore 13, 2) := by decide +kernel
theorem dL_one_13 : decode cL_one 13 = .ok (.aload_n 3, 1) := by decide +kernel
theorem dL_one_14 : decode cL_one 14 = .ok (.aload 4, 2) := by decide +kernel
theorem dL_one_16 : decode cL_one 16 = .ok (.aload 5, 2) := by decide +kernel
theorem dL_one_18 : decode cL_one 18 = .ok (.iload 13, 2) := by decide +kernel
theorem dL_one_20 : decode cL_one 20 = .ok (.invokestatic 51, 3) := by decide +kernel
theorem dL_one_23 : decode cL_one 23 = .ok (.istore 14, 2) := by decide +kernel
theorem dL_one_25 : decode cL_one 25 = .ok (.aload 5, 2) := by decide +kernel
theorem dL_one_27 : decode cL_one 27 = .ok (.bipush 18, 2) := by decide +kernel
theorem dL_one_29 : decode cL_one 29 = .ok (.aload 5, 2) := by decide +kernel
theorem dL_one_31 : decode cL_one 31 = .ok (.bipush 7, 2) := by decide +kernel
theorem dL_one_33 : decode cL_one 33 = .ok (.iaload, 1) := by decide +kernel
theorem dL_one_34 : decode cL_one 34 = .ok (.ifCond .ne 8, 3) := by decide +kernel
theorem dL_one_37 : decode cL_one 37 = .ok (.iload 13, 2) := by decide +kernel
theorem dL_one_39 : decode cL_one 39 = .ok (.goto 8, 3) := by decide +kernel
theorem dL_one_42 : decode cL_one 42 = .ok (.aload 5, 2) := by decide +kernel
theorem dL_one_44 : decode cL_one 44 = .ok (.bipush 18, 2) := by decide +kernel
theorem dL_one_46 : decode cL_one 46 = .ok (.iaload, 1) := by decide +kernel
theorem dL_one_47 : decode cL_one 47 = .ok (.iastore, 1) := by decide +kernel
theorem dL_one_48 : decode cL_one 48 = .ok (.iload 14, 2) := by decide +kernel
theorem dL_one_50 : decode cL_one 50 = .ok (.sipush 128, 3) := by decide +kernel
theorem dL_one_53 : decode cL_one 53 = .ok (.idiv, 1) := by decide +kernel
theorem dL_one_54 : decode cL_one 54 = .ok (.istore 15, 2) := by decide +kernel
theorem dL_one_56 : decode cL_one 56 = .ok (.iload 14, 2) := by decide +kernel
theorem dL_one_58 : decode cL_one 58 = .ok (.sipush 128, 3) := by decide +kernel
theorem dL_one_61 : decode cL_one 61 = .ok (.irem, 1) := by decide +kernel
theorem dL_one_62 : decode cL_one 62 = .ok (.istore 16, 2) := by decide +kernel
theorem dL_one_64 : decode cL_one 64 = .ok (.aload 5, 2) := by decide +kernel
theorem dL_one_66 : decode cL_one 66 = .ok (.bipush 14, 2) := by decide +kernel
theorem dL_one_68 : decode cL_one 68 = .ok (.aload 5, 2) := by decide +kernel
theorem dL_one_70 : decode cL_one 70 = .ok (.bipush 7, 2) := by decide +kernel
theorem dL_one_72 : decode cL_one 72 = .ok (.iaload, 1) := by decide +kernel
theorem dL_one_73 : decode cL_one 73 = .ok (.iadd, 1) := by decide +kernel
theorem dL_one_74 : decode cL_one 74 = .ok (.iaload, 1) := by decide +kernel
theorem dL_one_75 : decode cL_one 75 = .ok (.ifCond .ne 7, 3) := by decide +kernel
theorem dL_one_78 : decode cL_one 78 = .ok (.iconst 0, 1) := by decide +kernel
theorem dL_one_79 : decode cL_one 79 = .ok (.goto 28, 3) := by decide +kernel
theorem dL_one_82 : decode cL_one 82 = .ok (.aload 7, 2) := by decide +kernel
theorem dL_one_84 : decode cL_one 84 = .ok (.bipush 20, 2) := by decide +kernel
theorem dL_one_86 : decode cL_one 86 = .ok (.aload 5, 2) := by decide +kernel
theorem dL_one_88 : decode cL_one 88 = .ok (.bipush 7, 2) := by decide +kernel
theorem dL_one_90 : decode cL_one 90 = .ok (.iaload, 1) := by decide +kernel
theorem dL_one_91 : decode cL_one 91 = .ok (.imul, 1) := by decide +kernel
theorem dL_one_92 : decode cL_one 92 = .ok (.aload 5, 2) := by decide +kernel
theorem dL_one_94 : decode cL_one 94 = .ok (.bipush 14, 2) := by decide +kernel
theorem dL_one_96 : decode cL_one 96 = .ok (.aload 5, 2) := by decide +kernel
theorem dL_one_98 : decode cL_one 98 = .ok (.bipush 7, 2) := by decide +kernel
theorem dL_one_100 : decode cL_one 100 = .ok (.iaload, 1) := by decide +kernel
theorem dL_one_101 : decode cL_one 101 = .ok (.iadd, 1) := by decide +kernel
theorem dL_one_102 : decode cL_one 102 = .ok (.iaload, 1) := by decide +kernel
theorem dL_one_103 : decode cL_one 103 = .ok (.iadd, 1) := by decide +kernel
theorem dL_one_104 : decode cL_one 104 = .ok (.iconst 1, 1) := by decide +kernel
theorem dL_one_105 : decode cL_one 105 = .ok (.isub, 1) := by decide +kernel
theorem dL_one_106 : decode cL_one 106 = .ok (.iaload, 1) := by decide +kernel
theorem dL_one_107 : decode cL_one 107 = .ok (.istore 17, 2) := by decide +kernel
theorem dL_one_109 : decode cL_one 109 = .ok (.aload 5, 2) := by decide +kernel
theorem dL_one_111 : decode cL_one 111 = .ok (.bipush 8, 2) := by decide +kernel
theorem dL_one_113 : decode cL_one 113 = .ok (.aload 5, 2) := by decide +kernel
theorem dL_one_115 : decode cL_one 115 = .ok (.bipush 7, 2) := by decide +kernel
theorem dL_one_117 : decode cL_one 117 = .ok (.iaload, 1) := by decide +kernel
theorem dL_one_118 : decode cL_one 118 = .ok (.iadd, 1) := by decide +kernel
theorem dL_one_119 : decode cL_one 119 = .ok (.dup2, 1) := by decide +kernel
theorem dL_one_120 : decode cL_one 120 = .ok (.iaload, 1) := by decide +kernel
theorem dL_one_121 : decode cL_one 121 = .ok (.iconst 1, 1) := by decide +kernel
theorem dL_one_122 : decode cL_one 122 = .ok (.iadd, 1) := by decide +kernel
theorem dL_one_123 : decode cL_one 123 = .ok (.iastore, 1) := by decide +kernel
theorem dL_one_124 : decode cL_one 124 = .ok (.iload 17, 2) := by decide +kernel
theorem dL_one_126 : decode cL_one 126 = .ok (.ifCond .ne 7, 3) := by decide +kernel
theorem dL_one_129 : decode cL_one 129 = .ok (.iconst (-1), 1) := by decide +kernel
theorem dL_one_130 : decode cL_one 130 = .ok (.goto 18, 3) := by decide +kernel
theorem dL_one_133 : decode cL_one 133 = .ok (.iload 17, 2) := by decide +kernel
theorem dL_one_135 : decode cL_one 135 = .ok (.iconst 2, 1) := by decide +kernel
theorem dL_one_136 : decode cL_one 136 = .ok (.if_icmp .le 8, 3) := by decide +kernel
theorem dL_one_139 : decode cL_one 139 = .ok (.iload 17, 2) := by decide +kernel
theorem dL_one_141 : decode cL_one 141 = .ok (.goto 7, 3) := by decide +kernel
theorem dL_one_144 : decode cL_one 144 = .ok (.iload 17, 2) := by decide +kernel
theorem dL_one_146 : decode cL_one 146 = .ok (.iconst 2, 1) := by decide +kernel
theorem dL_one_147 : decode cL_one 147 = .ok (.iadd, 1) := by decide +kernel
theorem dL_one_148 : decode cL_one 148 = .ok (.istore 18, 2) := by decide +kernel
theorem dL_one_150 : decode cL_one 150 = .ok (.iload 15, 2) := by decide +kernel
theorem dL_one_152 : decode cL_one 152 = .ok (.bipush 7, 2) := by decide +kernel
theorem dL_one_154 : decode cL_one 154 = .ok (.if_icmp .ne 58, 3) := by decide +kernel
theorem dL_one_157 : decode cL_one 157 = .ok (.aload 7, 2) := by decide +kernel
theorem dL_one_159 : decode cL_one 159 = .ok (.bipush 20, 2) := by decide +kernel
theorem dL_one_161 : decode cL_one 161 = .ok (.aload 5, 2) := by decide +kernel
theorem dL_one_163 : decode cL_one 163 = .ok (.bipush 7, 2) := by decide +kernel
theorem dL_one_165 : decode cL_one 165 = .ok (.iaload, 1) := by decide +kernel
theorem dL_one_166 : decode cL_one 166 = .ok (.imul, 1) := by decide +kernel
theorem dL_one_167 : decode cL_one 167 = .ok (.aload 5, 2) := by decide +kernel
theorem dL_one_169 : decode cL_one 169 = .ok (.bipush 14, 2) := by decide +kernel
theorem dL_one_171 : decode cL_one 171 = .ok (.aload 5, 2) := by decide +kernel
theorem dL_one_173 : decode cL_one 173 = .ok (.bipush 7, 2) := by decide +kernel
theorem dL_one_175 : decode cL_one 175 = .ok (.iaload, 1) := by decide +kernel
theorem dL_one_176 : decode cL_one 176 = .ok (.iadd, 1) := by decide +kernel
theorem dL_one_177 : decode cL_one 177 = .ok (.iaload, 1) := by decide +kernel
theorem dL_one_178 : decode cL_one 178 = .ok (.iadd, 1) := by decide +kernel
theorem dL_one_179 : decode cL_one 179 = .ok (.iload 18, 2) := by decide +kernel
theorem dL_one_181 : decode cL_one 181 = .ok (.ifCond .ge 13, 3) := by decide +kernel
theorem dL_one_184 : decode cL_one 184 = .ok (.aload_n 3, 1) := by decide +kernel
theorem dL_one_185 : decode cL_one 185 = .ok (.bipush 10, 2) := by decide +kernel
theorem dL_one_187 : decode cL_one 187 = .ok (.iload 16, 2) := by decide +kernel
theorem dL_one_189 : decode cL_one 189 = .ok (.iadd, 1) := by decide +kernel
theorem dL_one_190 : decode cL_one 190 = .ok (.iaload, 1) := by decide +kernel
theorem dL_one_191 : decode cL_one 191 = .ok (.goto 5, 3) := by decide +kernel
theorem dL_one_194 : decode cL_one 194 = .ok (.iload 18, 2) := by decide +kernel
theorem dL_one_196 : decode cL_one 196 = .ok (.iastore, 1) := by decide +kernel
theorem dL_one_197 : decode cL_one 197 = .ok (.aload 5, 2) := by decide +kernel
theorem dL_one_199 : decode cL_one 199 = .ok (.bipush 14, 2) := by decide +kernel
theorem dL_one_201 : decode cL_one 201 = .ok (.aload 5, 2) := by decide +kernel
theorem dL_one_203 : decode cL_one 203 = .ok (.bipush 7, 2) := by decide +kernel
theorem dL_one_205 : decode cL_one 205 = .ok (.iaload, 1) := by decide +kernel
theorem dL_one_206 : decode cL_one 206 = .ok (.iadd, 1) := by decide +kernel
theorem dL_one_207 : decode cL_one 207 = .ok (.dup2, 1) := by decide +kernel
theorem dL_one_208 : decode cL_one 208 = .ok (.iaload, 1) := by decide +kernel
theorem dL_one_209 : decode cL_one 209 = .ok (.iconst 1, 1) := by decide +kernel
theorem dL_one_210 : decode cL_one 210 = .ok (.iadd, 1) := by decide +kernel
theorem dL_one_211 : decode cL_one 211 = .ok (.iastore, 1) := by decide +kernel
theorem dL_one_212 : decode cL_one 212 = .ok (.iload 15, 2) := by decide +kernel
theorem dL_one_214 : decode cL_one 214 = .ok (.bipush 8, 2) := by decide +kernel
theorem dL_one_216 : decode cL_one 216 = .ok (.if_icmp .ne 35, 3) := by decide +kernel
theorem dL_one_219 : decode cL_one 219 = .ok (.aload 5, 2) := by decide +kernel
theorem dL_one_221 : decode cL_one 221 = .ok (.bipush 14, 2) := by decide +kernel
theorem dL_one_223 : decode cL_one 223 = .ok (.aload 5, 2) := by decide +kernel
theorem dL_one_225 : decode cL_one 225 = .ok (.bipush 7, 2) := by decide +kernel
theorem dL_one_227 : decode cL_one 227 = .ok (.iaload, 1) := by decide +kernel
theorem dL_one_228 : decode cL_one 228 = .ok (.iadd, 1) := by decide +kernel
theorem dL_one_229 : decode cL_one 229 = .ok (.iaload, 1) := by decide +kernel
theorem dL_one_230 : decode cL_one 230 = .ok (.ifCond .le 21, 3) := by decide +kernel
theorem dL_one_233 : decode cL_one 233 = .ok (.aload 5, 2) := by decide +kernel
theorem dL_one_235 : decode cL_one 235 = .ok (.bipush 14, 2) := by decide +kernel
theorem dL_one_237 : decode cL_one 237 = .ok (.aload 5, 2) := by decide +kernel
theorem dL_one_239 : decode cL_one 239 = .ok (.bipush 7, 2) := by decide +kernel
theorem dL_one_241 : decode cL_one 241 = .ok (.iaload, 1) := by decide +kernel
theorem dL_one_242 : decode cL_one 242 = .ok (.iadd, 1) := by decide +kernel
theorem dL_one_243 : decode cL_one 243 = .ok (.dup2, 1) := by decide +kernel
theorem dL_one_244 : decode cL_one 244 = .ok (.iaload, 1) := by decide +kernel
theorem dL_one_245 : decode cL_one 245 = .ok (.iconst 1, 1) := by decide +kernel
theorem dL_one_246 : decode cL_one 246 = .ok (.isub, 1) := by decide +kernel
theorem dL_one_247 : decode cL_one 247 = .ok (.iastore, 1) := by decide +kernel
theorem dL_one_248 : decode cL_one 248 = .ok (.goto 18, 3) := by decide +kernel
theorem dL_one_251 : decode cL_one 251 = .ok (.iload 15, 2) := by decide +kernel
theorem dL_one_253 : decode cL_one 253 = .ok (.bipush 8, 2) := by decide +kernel
theorem dL_one_255 : decode cL_one 255 = .ok (.if_icmp .ne 11, 3) := by decide +kernel
theorem dL_one_258 : decode cL_one 258 = .ok (.aload 5, 2) := by decide +kernel
theorem dL_one_260 : decode cL_one 260 = .ok (.aload 12, 2) := by decide +kernel
theorem dL_one_262 : decode cL_one 262 = .ok (.iconst 5, 1) := by decide +kernel
theorem dL_one_263 : decode cL_one 263 = .ok (.invokestatic 47, 3) := by decide +kernel
theorem dL_one_266 : decode cL_one 266 = .ok (.iload 17, 2) := by decide +kernel
theorem dL_one_268 : decode cL_one 268 = .ok (.iconst 2, 1) := by decide +kernel
theorem dL_one_269 : decode cL_one 269 = .ok (.if_icmp .eq 9, 3) := by decide +kernel
theorem dL_one_272 : decode cL_one 272 = .ok (.iload 17, 2) := by decide +kernel
theorem dL_one_274 : decode cL_one 274 = .ok (.iconst 4, 1) := by decide +kernel
theorem dL_one_275 : decode cL_one 275 = .ok (.if_icmp .ne 7, 3) := by decide +kernel
theorem dL_one_278 : decode cL_one 278 = .ok (.iconst 1, 1) := by decide +kernel
theorem dL_one_279 : decode cL_one 279 = .ok (.goto 4, 3) := by decide +kernel
theorem dL_one_282 : decode cL_one 282 = .ok (.iconst 0, 1) := by decide +kernel
theorem dL_one_283 : decode cL_one 283 = .ok (.istore 19, 2) := by decide +kernel
theorem dL_one_285 : decode cL_one 285 = .ok (.iload 19, 2) := by decide +kernel
theorem dL_one_287 : decode cL_one 287 = .ok (.ifCond .eq 65, 3) := by decide +kernel
theorem dL_one_290 : decode cL_one 290 = .ok (.iload 15, 2) := by decide +kernel
theorem dL_one_292 : decode cL_one 292 = .ok (.bipush 8, 2) := by decide +kernel
theorem dL_one_294 : decode cL_one 294 = .ok (.if_icmp .ne 9, 3) := by decide +kernel
theorem dL_one_297 : decode cL_one 297 = .ok (.iload 17, 2) := by decide +kernel
theorem dL_one_299 : decode cL_one 299 = .ok (.iconst 4, 1) := by decide +kernel
theorem dL_one_300 : decode cL_one 300 = .ok (.if_icmp .ne 52, 3) := by decide +kernel
theorem dL_one_303 : decode cL_one 303 = .ok (.aload_n 0, 1) := by decide +kernel
theorem dL_one_304 : decode cL_one 304 = .ok (.aload_n 1, 1) := by decide +kernel
theorem dL_one_305 : decode cL_one 305 = .ok (.aload_n 2, 1) := by decide +kernel
theorem dL_one_306 : decode cL_one 306 = .ok (.aload 5, 2) := by decide +kernel
theorem dL_one_308 : decode cL_one 308 = .ok (.aload 6, 2) := by decide +kernel
theorem dL_one_310 : decode cL_one 310 = .ok (.aload 8, 2) := by decide +kernel
theorem dL_one_312 : decode cL_one 312 = .ok (.aload 9, 2) := by decide +kernel
theorem dL_one_314 : decode cL_one 314 = .ok (.aload 10, 2) := by decide +kernel
theorem dL_one_316 : decode cL_one 316 = .ok (.aload 11, 2) := by decide +kernel
theorem dL_one_318 : decode cL_one 318 = .ok (.aload 12, 2) := by decide +kernel
theorem dL_one_320 : decode cL_one 320 = .ok (.bipush 10, 2) := by decide +kernel
theorem dL_one_322 : decode cL_one 322 = .ok (.iload 15, 2) := by decide +kernel
theorem dL_one_324 : decode cL_one 324 = .ok (.iconst 4, 1) := by decide +kernel
theorem dL_one_325 : decode cL_one 325 = .ok (.if_icmp .ne 8, 3) := by decide +kernel
theorem dL_one_328 : decode cL_one 328 = .ok (.iload 16, 2) := by decide +kernel
theorem dL_one_330 : decode cL_one 330 = .ok (.goto 16, 3) := by decide +kernel
theorem dL_one_333 : decode cL_one 333 = .ok (.iload 15, 2) := by decide +kernel
theorem dL_one_335 : decode cL_one 335 = .ok (.iconst 5, 1) := by decide +kernel
theorem dL_one_336 : decode cL_one 336 = .ok (.if_icmp .ne 8, 3) := by decide +kernel
theorem dL_one_339 : decode cL_one 339 = .ok (.bipush 32, 2) := by decide +kernel
theorem dL_one_341 : decode cL_one 341 = .ok (.goto 5, 3) := by decide +kernel
theorem dL_one_344 : decode cL_one 344 = .ok (.bipush 42, 2) := by decide +kernel
theorem dL_one_346 : decode cL_one 346 = .ok (.invokestatic 55, 3) := by decide +kernel
theorem dL_one_349 : decode cL_one 349 = .ok (.goto 477, 3) := by decide +kernel
theorem dL_one_352 : decode cL_one 352 = .ok (.iload 17, 2) := by decide +kernel
theorem dL_one_354 : decode cL_one 354 = .ok (.ifCond .ne 61, 3) := by decide +kernel
theorem dL_one_357 : decode cL_one 357 = .ok (.iload 15, 2) := by decide +kernel
theorem dL_one_359 : decode cL_one 359 = .ok (.ifCond .eq 16, 3) := by decide +kernel
theorem dL_one_362 : decode cL_one 362 = .ok (.iload 15, 2) := by decide +kernel
theorem dL_one_364 : decode cL_one 364 = .ok (.iconst 2, 1) := by decide +kernel
theorem dL_one_365 : decode cL_one 365 = .ok (.if_icmp .ne 50, 3) := by decide +kernel
theorem dL_one_368 : decode cL_one 368 = .ok (.aload 5, 2) := by decide +kernel
theorem dL_one_370 : decode cL_one 370 = .ok (.iconst 1, 1) := by decide +kernel
theorem dL_one_371 : decode cL_one 371 = .ok (.iaload, 1) := by decide +kernel
theorem dL_one_372 : decode cL_one 372 = .ok (.ifCond .le 43, 3) := by decide +kernel
theorem dL_one_375 : decode cL_one 375 = .ok (.aload_n 0, 1) := by decide +kernel
theorem dL_one_376 : decode cL_one 376 = .ok (.aload_n 1, 1) := by decide +kernel
theorem dL_one_377 : decode cL_one 377 = .ok (.aload_n 2, 1) := by decide +kernel
theorem dL_one_378 : decode cL_one 378 = .ok (.aload 5, 2) := by decide +kernel
theorem dL_one_380 : decode cL_one 380 = .ok (.aload 6, 2) := by decide +kernel
theorem dL_one_382 : decode cL_one 382 = .ok (.aload 8, 2) := by decide +kernel
theorem dL_one_384 : decode cL_one 384 = .ok (.aload 9, 2) := by decide +kernel
theorem dL_one_386 : decode cL_one 386 = .ok (.aload 10, 2) := by decide +kernel
theorem dL_one_388 : decode cL_one 388 = .ok (.aload 11, 2) := by decide +kernel
theorem dL_one_390 : decode cL_one 390 = .ok (.aload 12, 2) := by decide +kernel
theorem dL_one_392 : decode cL_one 392 = .ok (.iload 15, 2) := by decide +kernel
theorem dL_one_394 : decode cL_one 394 = .ok (.ifCond .ne 8, 3) := by decide +kernel
theorem dL_one_397 : decode cL_one 397 = .ok (.iload 16, 2) := by decide +kernel
theorem dL_one_399 : decode cL_one 399 = .ok (.goto 9, 3) := by decide +kernel
theorem dL_one_402 : decode cL_one 402 = .ok (.aload 5, 2) := by decide +kernel
theorem dL_one_404 : decode cL_one 404 = .ok (.iconst 1, 1) := by decide +kernel
theorem dL_one_405 : decode cL_one 405 = .ok (.iaload, 1) := by decide +kernel
theorem dL_one_406 : decode cL_one 406 = .ok (.iconst 1, 1) := by decide +kernel
theorem dL_one_407 : decode cL_one 407 = .ok (.isub, 1) := by decide +kernel
theorem dL_one_408 : decode cL_one 408 = .ok (.iconst 0, 1) := by decide +kernel
theorem dL_one_409 : decode cL_one 409 = .ok (.invokestatic 55, 3) := by decide +kernel
theorem dL_one_412 : decode cL_one 412 = .ok (.goto 414, 3) := by decide +kernel
theorem dL_one_415 : decode cL_one 415 = .ok (.iload 17, 2) := by decide +kernel
theorem dL_one_417 : decode cL_one 417 = .ok (.ifCond .ne 20, 3) := by decide +kernel
theorem dL_one_420 : decode cL_one 420 = .ok (.iload 15, 2) := by decide +kernel
theorem dL_one_422 : decode cL_one 422 = .ok (.iconst 2, 1) := by decide +kernel
theorem dL_one_423 : decode cL_one 423 = .ok (.if_icmp .ne 14, 3) := by decide +kernel
theorem dL_one_426 : decode cL_one 426 = .ok (.aload 5, 2) := by decide +kernel
theorem dL_one_428 : decode cL_one 428 = .ok (.aload 12, 2) := by decide +kernel
theorem dL_one_430 : decode cL_one 430 = .ok (.iconst 1, 1) := by decide +kernel
theorem dL_one_431 : decode cL_one 431 = .ok (.invokestatic 47, 3) := by decide +kernel
theorem dL_one_434 : decode cL_one 434 = .ok (.goto 392, 3) := by decide +kernel
theorem dL_one_437 : decode cL_one 437 = .ok (.iload 17, 2) := by decide +kernel
theorem dL_one_439 : decode cL_one 439 = .ok (.ifCond .ne 113, 3) := by decide +kernel
theorem dL_one_442 : decode cL_one 442 = .ok (.iload 15, 2) := by decide +kernel
theorem dL_one_444 : decode cL_one 444 = .ok (.iconst 1, 1) := by decide +kernel
theorem dL_one_445 : decode cL_one 445 = .ok (.if_icmp .eq 9, 3) := by decide +kernel
theorem dL_one_448 : decode cL_one 448 = .ok (.iload 15, 2) := by decide +kernel
theorem dL_one_450 : decode cL_one 450 = .ok (.iconst 3, 1) := by decide +kernel
theorem dL_one_451 : decode cL_one 451 = .ok (.if_icmp .ne 101, 3) := by decide +kernel
theorem dL_one_454 : decode cL_one 454 = .ok (.iload 15, 2) := by decide +kernel
theorem dL_one_456 : decode cL_one 456 = .ok (.iconst 3, 1) := by decide +kernel
theorem dL_one_457 : decode cL_one 457 = .ok (.if_icmp .ne 12, 3) := by decide +kernel
theorem dL_one_460 : decode cL_one 460 = .ok (.aload 5, 2) := by decide +kernel
theorem dL_one_462 : decode cL_one 462 = .ok (.iconst 0, 1) := by decide +kernel
theorem dL_one_463 : decode cL_one 463 = .ok (.iaload, 1) := by decide +kernel
theorem dL_one_464 : decode cL_one 464 = .ok (.iconst 1, 1) := by decide +kernel
theorem dL_one_465 : decode cL_one 465 = .ok (.isub, 1) := by decide +kernel
theorem dL_one_466 : decode cL_one 466 = .ok (.goto 4, 3) := by decide +kernel
theorem dL_one_469 : decode cL_one 469 = .ok (.iconst (-1), 1) := by decide +kernel
theorem dL_one_470 : decode cL_one 470 = .ok (.istore 20, 2) := by decide +kernel
theorem dL_one_472 : decode cL_one 472 = .ok (.iconst 0, 1) := by decide +kernel
theorem dL_one_473 : decode cL_one 473 = .ok (.istore 21, 2) := by decide +kernel
theorem dL_one_475 : decode cL_one 475 = .ok (.iload 21, 2) := by decide +kernel
theorem dL_one_477 : decode cL_one 477 = .ok (.aload 5, 2) := by decide +kernel
theorem dL_one_479 : decode cL_one 479 = .ok (.iconst 0, 1) := by decide +kernel
theorem dL_one_480 : decode cL_one 480 = .ok (.iaload, 1) := by decide +kernel
theorem dL_one_481 : decode cL_one 481 = .ok (.if_icmp .ge 37, 3) := by decide +kernel
theorem dL_one_484 : decode cL_one 484 = .ok (.iload 15, 2) := by decide +kernel
theorem dL_one_486 : decode cL_one 486 = .ok (.iconst 1, 1) := by decide +kernel
theorem dL_one_487 : decode cL_one 487 = .ok (.if_icmp .ne 31, 3) := by decide +kernel
theorem dL_one_490 : decode cL_one 490 = .ok (.aload 6, 2) := by decide +kernel
theorem dL_one_492 : decode cL_one 492 = .ok (.iload 21, 2) := by decide +kernel
theorem dL_one_494 : decode cL_one 494 = .ok (.iaload, 1) := by decide +kernel
theorem dL_one_495 : decode cL_one 495 = .ok (.bipush 16, 2) := by decide +kernel
theorem dL_one_497 : decode cL_one 497 = .ok (.idiv, 1) := by decide +kernel
theorem dL_one_498 : decode cL_one 498 = .ok (.iload 16, 2) := by decide +kernel
theorem dL_one_500 : decode cL_one 500 = .ok (.if_icmp .ne 8, 3) := by decide +kernel
theorem dL_one_503 : decode cL_one 503 = .ok (.iload 21, 2) := by decide +kernel
theorem dL_one_505 : decode cL_one 505 = .ok (.goto 5, 3) := by decide +kernel
theorem dL_one_508 : decode cL_one 508 = .ok (.iload 20, 2) := by decide +kernel
theorem dL_one_510 : decode cL_one 510 = .ok (.istore 20, 2) := by decide +kernel
theorem dL_one_512 : decode cL_one 512 = .ok (.iinc 21 1, 3) := by decide +kernel
theorem dL_one_515 : decode cL_one 515 = .ok (.goto (-40), 3) := by decide +kernel
theorem dL_one_518 : decode cL_one 518 = .ok (.iload 20, 2) := by decide +kernel
theorem dL_one_520 : decode cL_one 520 = .ok (.ifCond .ge 14, 3) := by decide +kernel
theorem dL_one_523 : decode cL_one 523 = .ok (.aload 5, 2) := by decide +kernel
theorem dL_one_525 : decode cL_one 525 = .ok (.aload 12, 2) := by decide +kernel
theorem dL_one_527 : decode cL_one 527 = .ok (.iconst 1, 1) := by decide +kernel
theorem dL_one_528 : decode cL_one 528 = .ok (.invokestatic 47, 3) := by decide +kernel
theorem dL_one_531 : decode cL_one 531 = .ok (.goto 18, 3) := by decide +kernel
theorem dL_one_534 : decode cL_one 534 = .ok (.aload_n 0, 1) := by decide +kernel
theorem dL_one_535 : decode cL_one 535 = .ok (.aload_n 1, 1) := by decide +kernel
theorem dL_one_536 : decode cL_one 536 = .ok (.aload_n 2, 1) := by decide +kernel
theorem dL_one_537 : decode cL_one 537 = .ok (.aload 5, 2) := by decide +kernel
theorem dL_one_539 : decode cL_one 539 = .ok (.aload 6, 2) := by decide +kernel
theorem dL_one_541 : decode cL_one 541 = .ok (.aload 12, 2) := by decide +kernel
theorem dL_one_543 : decode cL_one 543 = .ok (.iload 20, 2) := by decide +kernel
theorem dL_one_545 : decode cL_one 545 = .ok (.iconst 1, 1) := by decide +kernel
theorem dL_one_546 : decode cL_one 546 = .ok (.invokestatic 59, 3) := by decide +kernel
theorem dL_one_549 : decode cL_one 549 = .ok (.goto 277, 3) := by decide +kernel
theorem dL_one_552 : decode cL_one 552 = .ok (.iload 17, 2) := by decide +kernel
theorem dL_one_554 : decode cL_one 554 = .ok (.ifCond .ne 36, 3) := by decide +kernel
theorem dL_one_557 : decode cL_one 557 = .ok (.iload 15, 2) := by decide +kernel
theorem dL_one_559 : decode cL_one 559 = .ok (.iconst 4, 1) := by decide +kernel
theorem dL_one_560 : decode cL_one 560 = .ok (.if_icmp .ne 30, 3) := by decide +kernel
theorem dL_one_563 : decode cL_one 563 = .ok (.aload_n 0, 1) := by decide +kernel
theorem dL_one_564 : decode cL_one 564 = .ok (.aload_n 1, 1) := by decide +kernel
theorem dL_one_565 : decode cL_one 565 = .ok (.aload_n 2, 1) := by decide +kernel
theorem dL_one_566 : decode cL_one 566 = .ok (.aload 5, 2) := by decide +kernel
theorem dL_one_568 : decode cL_one 568 = .ok (.aload 6, 2) := by decide +kernel
theorem dL_one_570 : decode cL_one 570 = .ok (.aload 8, 2) := by decide +kernel
theorem dL_one_572 : decode cL_one 572 = .ok (.aload 9, 2) := by decide +kernel
theorem dL_one_574 : decode cL_one 574 = .ok (.aload 10, 2) := by decide +kernel
theorem dL_one_576 : decode cL_one 576 = .ok (.aload 11, 2) := by decide +kernel
theorem dL_one_578 : decode cL_one 578 = .ok (.aload 12, 2) := by decide +kernel
theorem dL_one_580 : decode cL_one 580 = .ok (.bipush 10, 2) := by decide +kernel
theorem dL_one_582 : decode cL_one 582 = .ok (.iload 16, 2) := by decide +kernel
theorem dL_one_584 : decode cL_one 584 = .ok (.invokestatic 55, 3) := by decide +kernel
theorem dL_one_587 : decode cL_one 587 = .ok (.goto 239, 3) := by decide +kernel
theorem dL_one_590 : decode cL_one 590 = .ok (.iload 17, 2) := by decide +kernel
theorem dL_one_592 : decode cL_one 592 = .ok (.ifCond .ne 125, 3) := by decide +kernel
theorem dL_one_595 : decode cL_one 595 = .ok (.iload 15, 2) := by decide +kernel
theorem dL_one_597 : decode cL_one 597 = .ok (.iconst 5, 1) := by decide +kernel
theorem dL_one_598 : decode cL_one 598 = .ok (.if_icmp .ne 119, 3) := by decide +kernel
theorem dL_one_601 : decode cL_one 601 = .ok (.aload_n 3, 1) := by decide +kernel
theorem dL_one_602 : decode cL_one 602 = .ok (.aload 4, 2) := by decide +kernel
theorem dL_one_604 : decode cL_one 604 = .ok (.aload 5, 2) := by decide +kernel
theorem dL_one_606 : decode cL_one 606 = .ok (.iload 13, 2) := by decide +kernel
theorem dL_one_608 : decode cL_one 608 = .ok (.iconst 1, 1) := by decide +kernel
theorem dL_one_609 : decode cL_one 609 = .ok (.isub, 1) := by decide +kernel
theorem dL_one_610 : decode cL_one 610 = .ok (.invokestatic 51, 3) := by decide +kernel
theorem dL_one_613 : decode cL_one 613 = .ok (.istore 20, 2) := by decide +kernel
theorem dL_one_615 : decode cL_one 615 = .ok (.aload_n 3, 1) := by decide +kernel
theorem dL_one_616 : decode cL_one 616 = .ok (.aload 4, 2) := by decide +kernel
theorem dL_one_618 : decode cL_one 618 = .ok (.aload 5, 2) := by decide +kernel
theorem dL_one_620 : decode cL_one 620 = .ok (.iload 13, 2) := by decide +kernel
theorem dL_one_622 : decode cL_one 622 = .ok (.iconst 1, 1) := by decide +kernel
theorem dL_one_623 : decode cL_one 623 = .ok (.iadd, 1) := by decide +kernel
theorem dL_one_624 : decode cL_one 624 = .ok (.invokestatic 51, 3) := by decide +kernel
theorem dL_one_627 : decode cL_one 627 = .ok (.istore 21, 2) := by decide +kernel
theorem dL_one_629 : decode cL_one 629 = .ok (.iload 20, 2) := by decide +kernel
theorem dL_one_631 : decode cL_one 631 = .ok (.ifCond .lt 22, 3) := by decide +kernel
theorem dL_one_634 : decode cL_one 634 = .ok (.iload 20, 2) := by decide +kernel
theorem dL_one_636 : decode cL_one 636 = .ok (.sipush 128, 3) := by decide +kernel
theorem dL_one_639 : decode cL_one 639 = .ok (.idiv, 1) := by decide +kernel
theorem dL_one_640 : decode cL_one 640 = .ok (.ifCond .eq 38, 3) := by decide +kernel
theorem dL_one_643 : decode cL_one 643 = .ok (.iload 20, 2) := by decide +kernel
theorem dL_one_645 : decode cL_one 645 = .ok (.sipush 128, 3) := by decide +kernel
theorem dL_one_648 : decode cL_one 648 = .ok (.idiv, 1) := by decide +kernel
theorem dL_one_649 : decode cL_one 649 = .ok (.iconst 2, 1) := by decide +kernel
theorem dL_one_650 : decode cL_one 650 = .ok (.if_icmp .eq 28, 3) := by decide +kernel
theorem dL_one_653 : decode cL_one 653 = .ok (.iload 21, 2) := by decide +kernel
theorem dL_one_655 : decode cL_one 655 = .ok (.ifCond .lt 27, 3) := by decide +kernel
theorem dL_one_658 : decode cL_one 658 = .ok (.iload 21, 2) := by decide +kernel
theorem dL_one_660 : decode cL_one 660 = .ok (.sipush 128, 3) := by decide +kernel
theorem dL_one_663 : decode cL_one 663 = .ok (.idiv, 1) := by decide +kernel
theorem dL_one_664 : decode cL_one 664 = .ok (.iconst 1, 1) := by decide +kernel
theorem dL_one_665 : decode cL_one 665 = .ok (.if_icmp .eq 13, 3) := by decide +kernel
theorem dL_one_668 : decode cL_one 668 = .ok (.iload 21, 2) := by decide +kernel
theorem dL_one_670 : decode cL_one 670 = .ok (.sipush 128, 3) := by decide +kernel
theorem dL_one_673 : decode cL_one 673 = .ok (.idiv, 1) := by decide +kernel
theorem dL_one_674 : decode cL_one 674 = .ok (.iconst 3, 1) := by decide +kernel
theorem dL_one_675 : decode cL_one 675 = .ok (.if_icmp .ne 7, 3) := by decide +kernel
theorem dL_one_678 : decode cL_one 678 = .ok (.iconst 1, 1) := by decide +kernel
theorem dL_one_679 : decode cL_one 679 = .ok (.goto 4, 3) := by decide +kernel
theorem dL_one_682 : decode cL_one 682 = .ok (.iconst 0, 1) := by decide +kernel
theorem dL_one_683 : decode cL_one 683 = .ok (.istore 22, 2) := by decide +kernel
theorem dL_one_685 : decode cL_one 685 = .ok (.iload 22, 2) := by decide +kernel
theorem dL_one_687 : decode cL_one 687 = .ok (.ifCond .ne 27, 3) := by decide +kernel
theorem dL_one_690 : decode cL_one 690 = .ok (.aload_n 0, 1) := by decide +kernel
theorem dL_one_691 : decode cL_one 691 = .ok (.aload_n 1, 1) := by decide +kernel
theorem dL_one_692 : decode cL_one 692 = .ok (.aload_n 2, 1) := by decide +kernel
theorem dL_one_693 : decode cL_one 693 = .ok (.aload 5, 2) := by decide +kernel
theorem dL_one_695 : decode cL_one 695 = .ok (.aload 6, 2) := by decide +kernel
theorem dL_one_697 : decode cL_one 697 = .ok (.aload 8, 2) := by decide +kernel
theorem dL_one_699 : decode cL_one 699 = .ok (.aload 9, 2) := by decide +kernel
theorem dL_one_701 : decode cL_one 701 = .ok (.aload 10, 2) := by decide +kernel
theorem dL_one_703 : decode cL_one 703 = .ok (.aload 11, 2) := by decide +kernel
theorem dL_one_705 : decode cL_one 705 = .ok (.aload 12, 2) := by decide +kernel
theorem dL_one_707 : decode cL_one 707 = .ok (.bipush 10, 2) := by decide +kernel
theorem dL_one_709 : decode cL_one 709 = .ok (.bipush 32, 2) := by decide +kernel
theorem dL_one_711 : decode cL_one 711 = .ok (.invokestatic 55, 3) := by decide +kernel
theorem dL_one_714 : decode cL_one 714 = .ok (.goto 112, 3) := by decide +kernel
theorem dL_one_717 : decode cL_one 717 = .ok (.iload 17, 2) := by decide +kernel
theorem dL_one_719 : decode cL_one 719 = .ok (.ifCond .ne 49, 3) := by decide +kernel
theorem dL_one_722 : decode cL_one 722 = .ok (.iload 15, 2) := by decide +kernel
theorem dL_one_724 : decode cL_one 724 = .ok (.bipush 6, 2) := by decide +kernel
theorem dL_one_726 : decode cL_one 726 = .ok (.if_icmp .ne 42, 3) := by decide +kernel
theorem dL_one_729 : decode cL_one 729 = .ok (.aload 5, 2) := by decide +kernel
theorem dL_one_731 : decode cL_one 731 = .ok (.bipush 7, 2) := by decide +kernel
theorem dL_one_733 : decode cL_one 733 = .ok (.iaload, 1) := by decide +kernel
theorem dL_one_734 : decode cL_one 734 = .ok (.iconst 2, 1) := by decide +kernel
theorem dL_one_735 : decode cL_one 735 = .ok (.if_icmp .eq 22, 3) := by decide +kernel
theorem dL_one_738 : decode cL_one 738 = .ok (.aload 5, 2) := by decide +kernel
theorem dL_one_740 : decode cL_one 740 = .ok (.bipush 7, 2) := by decide +kernel
theorem dL_one_742 : decode cL_one 742 = .ok (.iaload, 1) := by decide +kernel
theorem dL_one_743 : decode cL_one 743 = .ok (.iconst 1, 1) := by decide +kernel
theorem dL_one_744 : decode cL_one 744 = .ok (.if_icmp .ne 24, 3) := by decide +kernel
theorem dL_one_747 : decode cL_one 747 = .ok (.aload 5, 2) := by decide +kernel
theorem dL_one_749 : decode cL_one 749 = .ok (.bipush 12, 2) := by decide +kernel
theorem dL_one_751 : decode cL_one 751 = .ok (.iaload, 1) := by decide +kernel
theorem dL_one_752 : decode cL_one 752 = .ok (.iload 16, 2) := by decide +kernel
theorem dL_one_754 : decode cL_one 754 = .ok (.if_icmp .ne 14, 3) := by decide +kernel
theorem dL_one_757 : decode cL_one 757 = .ok (.aload 5, 2) := by decide +kernel
theorem dL_one_759 : decode cL_one 759 = .ok (.aload 12, 2) := by decide +kernel
theorem dL_one_761 : decode cL_one 761 = .ok (.iconst 4, 1) := by decide +kernel
theorem dL_one_762 : decode cL_one 762 = .ok (.invokestatic 47, 3) := by decide +kernel
theorem dL_one_765 : decode cL_one 765 = .ok (.goto 61, 3) := by decide +kernel
theorem dL_one_768 : decode cL_one 768 = .ok (.iload 17, 2) := by decide +kernel
theorem dL_one_770 : decode cL_one 770 = .ok (.ifCond .ne 56, 3) := by decide +kernel
theorem dL_one_773 : decode cL_one 773 = .ok (.iload 15, 2) := by decide +kernel
theorem dL_one_775 : decode cL_one 775 = .ok (.bipush 6, 2) := by decide +kernel
theorem dL_one_777 : decode cL_one 777 = .ok (.if_icmp .ne 49, 3) := by decide +kernel
theorem dL_one_780 : decode cL_one 780 = .ok (.aload 5, 2) := by decide +kernel
theorem dL_one_782 : decode cL_one 782 = .ok (.bipush 7, 2) := by decide +kernel
theorem dL_one_784 : decode cL_one 784 = .ok (.dup2, 1) := by decide +kernel
theorem dL_one_785 : decode cL_one 785 = .ok (.iaload, 1) := by decide +kernel
theorem dL_one_786 : decode cL_one 786 = .ok (.iconst 1, 1) := by decide +kernel
theorem dL_one_787 : decode cL_one 787 = .ok (.iadd, 1) := by decide +kernel
theorem dL_one_788 : decode cL_one 788 = .ok (.iastore, 1) := by decide +kernel
theorem dL_one_789 : decode cL_one 789 = .ok (.aload 5, 2) := by decide +kernel
theorem dL_one_791 : decode cL_one 791 = .ok (.bipush 8, 2) := by decide +kernel
theorem dL_one_793 : decode cL_one 793 = .ok (.aload 5, 2) := by decide +kernel
theorem dL_one_795 : decode cL_one 795 = .ok (.bipush 7, 2) := by decide +kernel
theorem dL_one_797 : decode cL_one 797 = .ok (.iaload, 1) := by decide +kernel
theorem dL_one_798 : decode cL_one 798 = .ok (.iadd, 1) := by decide +kernel
theorem dL_one_799 : decode cL_one 799 = .ok (.iconst 0, 1) := by decide +kernel
theorem dL_one_800 : decode cL_one 800 = .ok (.iastore, 1) := by decide +kernel
theorem dL_one_801 : decode cL_one 801 = .ok (.aload 5, 2) := by decide +kernel
theorem dL_one_803 : decode cL_one 803 = .ok (.bipush 11, 2) := by decide +kernel
theorem dL_one_805 : decode cL_one 805 = .ok (.aload 5, 2) := by decide +kernel
theorem dL_one_807 : decode cL_one 807 = .ok (.bipush 7, 2) := by decide +kernel
theorem dL_one_809 : decode cL_one 809 = .ok (.iaload, 1) := by decide +kernel
theorem dL_one_810 : decode cL_one 810 = .ok (.iadd, 1) := by decide +kernel
theorem dL_one_811 : decode cL_one 811 = .ok (.iload 16, 2) := by decide +kernel
theorem dL_one_813 : decode cL_one 813 = .ok (.iastore, 1) := by decide +kernel
theorem dL_one_814 : decode cL_one 814 = .ok (.aload 5, 2) := by decide +kernel
theorem dL_one_816 : decode cL_one 816 = .ok (.bipush 14, 2) := by decide +kernel
theorem dL_one_818 : decode cL_one 818 = .ok (.aload 5, 2) := by decide +kernel
theorem dL_one_820 : decode cL_one 820 = .ok (.bipush 7, 2) := by decide +kernel
theorem dL_one_822 : decode cL_one 822 = .ok (.iaload, 1) := by decide +kernel
theorem dL_one_823 : decode cL_one 823 = .ok (.iadd, 1) := by decide +kernel
theorem dL_one_824 : decode cL_one 824 = .ok (.iconst 0, 1) := by decide +kernel
theorem dL_one_825 : decode cL_one 825 = .ok (.iastore, 1) := by decide +kernel
theorem dL_one_826 : decode cL_one 826 = .ok (.return_, 1) := by decide +kernel
theorem dL_keep_0 : decode cL_keep 0 = .ok (.aload_n 0, 1) := by decide +kernel
theorem dL_keep_1 : decode cL_keep 1 = .ok (.bipush 7, 2) := by decide +kernel
theorem dL_keep_3 : decode cL_keep 3 = .ok (.iaload, 1) := by decide +kernel
theorem dL_keep_4 : decode cL_keep 4 = .ok (.ifCond .ne 71, 3) := by decide +kernel
theorem dL_keep_7 : decode cL_keep 7 = .ok (.lconst 1, 1) := by decide +kernel
theorem dL_keep_8 : decode cL_keep 8 = .ok (.lstore_n 3, 1) := by decide +kernel
theorem dL_keep_9 : decode cL_keep 9 = .ok (.iconst 0, 1) := by decide +kernel
theorem dL_keep_10 : decode cL_keep 10 = .ok (.istore 5, 2) := by decide +kernel
theorem dL_keep_12 : decode cL_keep 12 = .ok (.iload 5, 2) := by decide +kernel
theorem dL_keep_14 : decode cL_keep 14 = .ok (.aload_n 0, 1) := by decide +kernel
theorem dL_keep_15 : decode cL_keep 15 = .ok (.iconst 0, 1) := by decide +kernel
theorem dL_keep_16 : decode cL_keep 16 = .ok (.iaload, 1) := by decide +kernel
theorem dL_keep_17 : decode cL_keep 17 = .ok (.if_icmp .ge 21, 3) := by decide +kernel
theorem dL_keep_20 : decode cL_keep 20 = .ok (.lload_n 3, 1) := by decide +kernel
theorem dL_keep_21 : decode cL_keep 21 = .ok (.ldc2_w 63, 3) := by decide +kernel
theorem dL_keep_24 : decode cL_keep 24 = .ok (.lmul, 1) := by decide +kernel
theorem dL_keep_25 : decode cL_keep 25 = .ok (.aload_n 1, 1) := by decide +kernel
theorem dL_keep_26 : decode cL_keep 26 = .ok (.iload 5, 2) := by decide +kernel
theorem dL_keep_28 : decode cL_keep 28 = .ok (.iaload, 1) := by decide +kernel
theorem dL_keep_29 : decode cL_keep 29 = .ok (.i2l, 1) := by decide +kernel
theorem dL_keep_30 : decode cL_keep 30 = .ok (.ladd, 1) := by decide +kernel
theorem dL_keep_31 : decode cL_keep 31 = .ok (.lstore_n 3, 1) := by decide +kernel
theorem dL_keep_32 : decode cL_keep 32 = .ok (.iinc 5 1, 3) := by decide +kernel
theorem dL_keep_35 : decode cL_keep 35 = .ok (.goto (-23), 3) := by decide +kernel
theorem dL_keep_38 : decode cL_keep 38 = .ok (.aload_n 2, 1) := by decide +kernel
theorem dL_keep_39 : decode cL_keep 39 = .ok (.aload_n 0, 1) := by decide +kernel
theorem dL_keep_40 : decode cL_keep 40 = .ok (.bipush 8, 2) := by decide +kernel
theorem dL_keep_42 : decode cL_keep 42 = .ok (.iaload, 1) := by decide +kernel
theorem dL_keep_43 : decode cL_keep 43 = .ok (.lload_n 3, 1) := by decide +kernel
theorem dL_keep_44 : decode cL_keep 44 = .ok (.lastore, 1) := by decide +kernel
theorem dL_keep_45 : decode cL_keep 45 = .ok (.aload_n 2, 1) := by decide +kernel
theorem dL_keep_46 : decode cL_keep 46 = .ok (.bipush 24, 2) := by decide +kernel
theorem dL_keep_48 : decode cL_keep 48 = .ok (.aload_n 0, 1) := by decide +kernel
theorem dL_keep_49 : decode cL_keep 49 = .ok (.bipush 8, 2) := by decide +kernel
theorem dL_keep_51 : decode cL_keep 51 = .ok (.iaload, 1) := by decide +kernel
theorem dL_keep_52 : decode cL_keep 52 = .ok (.iadd, 1) := by decide +kernel
theorem dL_keep_53 : decode cL_keep 53 = .ok (.ldc2_w 65, 3) := by decide +kernel
theorem dL_keep_56 : decode cL_keep 56 = .ok (.aload_n 0, 1) := by decide +kernel
theorem dL_keep_57 : decode cL_keep 57 = .ok (.iconst 1, 1) := by decide +kernel
theorem dL_keep_58 : decode cL_keep 58 = .ok (.iaload, 1) := by decide +kernel
theorem dL_keep_59 : decode cL_keep 59 = .ok (.i2l, 1) := by decide +kernel
theorem dL_keep_60 : decode cL_keep 60 = .ok (.lmul, 1) := by decide +kernel
theorem dL_keep_61 : decode cL_keep 61 = .ok (.aload_n 0, 1) := by decide +kernel
theorem dL_keep_62 : decode cL_keep 62 = .ok (.bipush 14, 2) := by decide +kernel
theorem dL_keep_64 : decode cL_keep 64 = .ok (.iaload, 1) := by decide +kernel
theorem dL_keep_65 : decode cL_keep 65 = .ok (.ifCond .le 7, 3) := by decide +kernel
theorem dL_keep_68 : decode cL_keep 68 = .ok (.lconst 1, 1) := by decide +kernel
theorem dL_keep_69 : decode cL_keep 69 = .ok (.goto 4, 3) := by decide +kernel
theorem dL_keep_72 : decode cL_keep 72 = .ok (.lconst 0, 1) := by decide +kernel
theorem dL_keep_73 : decode cL_keep 73 = .ok (.ladd, 1) := by decide +kernel
theorem dL_keep_74 : decode cL_keep 74 = .ok (.lastore, 1) := by decide +kernel
theorem dL_keep_75 : decode cL_keep 75 = .ok (.return_, 1) := by decide +kernel
theorem dL_reads_0 : decode cL_reads 0 = .ok (.iconst 0, 1) := by decide +kernel
theorem dL_reads_1 : decode cL_reads 1 = .ok (.istore 14, 2) := by decide +kernel
theorem dL_reads_3 : decode cL_reads 3 = .ok (.iload 14, 2) := by decide +kernel
theorem dL_reads_5 : decode cL_reads 5 = .ok (.bipush 20, 2) := by decide +kernel
theorem dL_reads_7 : decode cL_reads 7 = .ok (.if_icmp .ge 15, 3) := by decide +kernel
theorem dL_reads_10 : decode cL_reads 10 = .ok (.aload 5, 2) := by decide +kernel
theorem dL_reads_12 : decode cL_reads 12 = .ok (.iload 14, 2) := by decide +kernel
theorem dL_reads_14 : decode cL_reads 14 = .ok (.iconst 0, 1) := by decide +kernel
theorem dL_reads_15 : decode cL_reads 15 = .ok (.iastore, 1) := by decide +kernel
theorem dL_reads_16 : decode cL_reads 16 = .ok (.iinc 14 1, 3) := by decide +kernel
theorem dL_reads_19 : decode cL_reads 19 = .ok (.goto (-16), 3) := by decide +kernel
theorem dL_reads_22 : decode cL_reads 22 = .ok (.aload 5, 2) := by decide +kernel
theorem dL_reads_24 : decode cL_reads 24 = .ok (.aload 6, 2) := by decide +kernel
theorem dL_reads_26 : decode cL_reads 26 = .ok (.aload 13, 2) := by decide +kernel
theorem dL_reads_28 : decode cL_reads 28 = .ok (.invokestatic 67, 3) := by decide +kernel
theorem dL_reads_31 : decode cL_reads 31 = .ok (.aload 5, 2) := by decide +kernel
theorem dL_reads_33 : decode cL_reads 33 = .ok (.bipush 7, 2) := by decide +kernel
theorem dL_reads_35 : decode cL_reads 35 = .ok (.iaload, 1) := by decide +kernel
theorem dL_reads_36 : decode cL_reads 36 = .ok (.ifCond .gt 16, 3) := by decide +kernel
theorem dL_reads_39 : decode cL_reads 39 = .ok (.aload 5, 2) := by decide +kernel
theorem dL_reads_41 : decode cL_reads 41 = .ok (.bipush 8, 2) := by decide +kernel
theorem dL_reads_43 : decode cL_reads 43 = .ok (.iaload, 1) := by decide +kernel
theorem dL_reads_44 : decode cL_reads 44 = .ok (.aload 4, 2) := by decide +kernel
theorem dL_reads_46 : decode cL_reads 46 = .ok (.bipush 20, 2) := by decide +kernel
theorem dL_reads_48 : decode cL_reads 48 = .ok (.iaload, 1) := by decide +kernel
theorem dL_reads_49 : decode cL_reads 49 = .ok (.if_icmp .ge 115, 3) := by decide +kernel
theorem dL_reads_52 : decode cL_reads 52 = .ok (.aload 5, 2) := by decide +kernel
theorem dL_reads_54 : decode cL_reads 54 = .ok (.bipush 6, 2) := by decide +kernel
theorem dL_reads_56 : decode cL_reads 56 = .ok (.iaload, 1) := by decide +kernel
theorem dL_reads_57 : decode cL_reads 57 = .ok (.ifCond .ne 107, 3) := by decide +kernel
theorem dL_reads_60 : decode cL_reads 60 = .ok (.aload_n 3, 1) := by decide +kernel
theorem dL_reads_61 : decode cL_reads 61 = .ok (.aload 4, 2) := by decide +kernel
theorem dL_reads_63 : decode cL_reads 63 = .ok (.aload 5, 2) := by decide +kernel
theorem dL_reads_65 : decode cL_reads 65 = .ok (.aload 5, 2) := by decide +kernel
theorem dL_reads_67 : decode cL_reads 67 = .ok (.bipush 8, 2) := by decide +kernel
theorem dL_reads_69 : decode cL_reads 69 = .ok (.aload 5, 2) := by decide +kernel
theorem dL_reads_71 : decode cL_reads 71 = .ok (.bipush 7, 2) := by decide +kernel
theorem dL_reads_73 : decode cL_reads 73 = .ok (.iaload, 1) := by decide +kernel
theorem dL_reads_74 : decode cL_reads 74 = .ok (.iadd, 1) := by decide +kernel
theorem dL_reads_75 : decode cL_reads 75 = .ok (.iaload, 1) := by decide +kernel
theorem dL_reads_76 : decode cL_reads 76 = .ok (.invokestatic 51, 3) := by decide +kernel
theorem dL_reads_79 : decode cL_reads 79 = .ok (.ifCond .ge 48, 3) := by decide +kernel
theorem dL_reads_82 : decode cL_reads 82 = .ok (.iconst 0, 1) := by decide +kernel
theorem dL_reads_83 : decode cL_reads 83 = .ok (.istore 14, 2) := by decide +kernel
theorem dL_reads_85 : decode cL_reads 85 = .ok (.iload 14, 2) := by decide +kernel
theorem dL_reads_87 : decode cL_reads 87 = .ok (.aload 5, 2) := by decide +kernel
theorem dL_reads_89 : decode cL_reads 89 = .ok (.bipush 14, 2) := by decide +kernel
theorem dL_reads_91 : decode cL_reads 91 = .ok (.aload 5, 2) := by decide +kernel
theorem dL_reads_93 : decode cL_reads 93 = .ok (.bipush 7, 2) := by decide +kernel
theorem dL_reads_95 : decode cL_reads 95 = .ok (.iaload, 1) := by decide +kernel
theorem dL_reads_96 : decode cL_reads 96 = .ok (.iadd, 1) := by decide +kernel
theorem dL_reads_97 : decode cL_reads 97 = .ok (.iaload, 1) := by decide +kernel
theorem dL_reads_98 : decode cL_reads 98 = .ok (.if_icmp .ge 17, 3) := by decide +kernel
theorem dL_reads_101 : decode cL_reads 101 = .ok (.aload 5, 2) := by decide +kernel
theorem dL_reads_103 : decode cL_reads 103 = .ok (.aload 12, 2) := by decide +kernel
theorem dL_reads_105 : decode cL_reads 105 = .ok (.iconst 5, 1) := by decide +kernel
theorem dL_reads_106 : decode cL_reads 106 = .ok (.invokestatic 47, 3) := by decide +kernel
theorem dL_reads_109 : decode cL_reads 109 = .ok (.iinc 14 1, 3) := by decide +kernel
theorem dL_reads_112 : decode cL_reads 112 = .ok (.goto (-27), 3) := by decide +kernel
theorem dL_reads_115 : decode cL_reads 115 = .ok (.aload 5, 2) := by decide +kernel
theorem dL_reads_117 : decode cL_reads 117 = .ok (.bipush 7, 2) := by decide +kernel
theorem dL_reads_119 : decode cL_reads 119 = .ok (.dup2, 1) := by decide +kernel
theorem dL_reads_120 : decode cL_reads 120 = .ok (.iaload, 1) := by decide +kernel
theorem dL_reads_121 : decode cL_reads 121 = .ok (.iconst 1, 1) := by decide +kernel
theorem dL_reads_122 : decode cL_reads 122 = .ok (.isub, 1) := by decide +kernel
theorem dL_reads_123 : decode cL_reads 123 = .ok (.iastore, 1) := by decide +kernel
theorem dL_reads_124 : decode cL_reads 124 = .ok (.goto 28, 3) := by decide +kernel
theorem dL_reads_127 : decode cL_reads 127 = .ok (.aload_n 0, 1) := by decide +kernel
theorem dL_reads_128 : decode cL_reads 128 = .ok (.aload_n 1, 1) := by decide +kernel
theorem dL_reads_129 : decode cL_reads 129 = .ok (.aload_n 2, 1) := by decide +kernel
theorem dL_reads_130 : decode cL_reads 130 = .ok (.aload_n 3, 1) := by decide +kernel
theorem dL_reads_131 : decode cL_reads 131 = .ok (.aload 4, 2) := by decide +kernel
theorem dL_reads_133 : decode cL_reads 133 = .ok (.aload 5, 2) := by decide +kernel
theorem dL_reads_135 : decode cL_reads 135 = .ok (.aload 6, 2) := by decide +kernel
theorem dL_reads_137 : decode cL_reads 137 = .ok (.aload 7, 2) := by decide +kernel
theorem dL_reads_139 : decode cL_reads 139 = .ok (.aload 8, 2) := by decide +kernel
theorem dL_reads_141 : decode cL_reads 141 = .ok (.aload 9, 2) := by decide +kernel
theorem dL_reads_143 : decode cL_reads 143 = .ok (.aload 10, 2) := by decide +kernel
theorem dL_reads_145 : decode cL_reads 145 = .ok (.aload 11, 2) := by decide +kernel
theorem dL_reads_147 : decode cL_reads 147 = .ok (.aload 12, 2) := by decide +kernel
theorem dL_reads_149 : decode cL_reads 149 = .ok (.invokestatic 71, 3) := by decide +kernel
theorem dL_reads_152 : decode cL_reads 152 = .ok (.aload 5, 2) := by decide +kernel
theorem dL_reads_154 : decode cL_reads 154 = .ok (.aload 6, 2) := by decide +kernel
theorem dL_reads_156 : decode cL_reads 156 = .ok (.aload 13, 2) := by decide +kernel
theorem dL_reads_158 : decode cL_reads 158 = .ok (.invokestatic 67, 3) := by decide +kernel
theorem dL_reads_161 : decode cL_reads 161 = .ok (.goto (-130), 3) := by decide +kernel
theorem dL_reads_164 : decode cL_reads 164 = .ok (.aload 5, 2) := by decide +kernel
theorem dL_reads_166 : decode cL_reads 166 = .ok (.bipush 18, 2) := by decide +kernel
theorem dL_reads_168 : decode cL_reads 168 = .ok (.aload 4, 2) := by decide +kernel
theorem dL_reads_170 : decode cL_reads 170 = .ok (.bipush 20, 2) := by decide +kernel
theorem dL_reads_172 : decode cL_reads 172 = .ok (.iaload, 1) := by decide +kernel
theorem dL_reads_173 : decode cL_reads 173 = .ok (.iastore, 1) := by decide +kernel
theorem dL_reads_174 : decode cL_reads 174 = .ok (.iconst 0, 1) := by decide +kernel
theorem dL_reads_175 : decode cL_reads 175 = .ok (.istore 14, 2) := by decide +kernel
theorem dL_reads_177 : decode cL_reads 177 = .ok (.iload 14, 2) := by decide +kernel
theorem dL_reads_179 : decode cL_reads 179 = .ok (.aload 5, 2) := by decide +kernel
theorem dL_reads_181 : decode cL_reads 181 = .ok (.bipush 14, 2) := by decide +kernel
theorem dL_reads_183 : decode cL_reads 183 = .ok (.iaload, 1) := by decide +kernel
theorem dL_reads_184 : decode cL_reads 184 = .ok (.if_icmp .ge 17, 3) := by decide +kernel
theorem dL_reads_187 : decode cL_reads 187 = .ok (.aload 5, 2) := by decide +kernel
theorem dL_reads_189 : decode cL_reads 189 = .ok (.aload 12, 2) := by decide +kernel
theorem dL_reads_191 : decode cL_reads 191 = .ok (.iconst 5, 1) := by decide +kernel
theorem dL_reads_192 : decode cL_reads 192 = .ok (.invokestatic 47, 3) := by decide +kernel
theorem dL_reads_195 : decode cL_reads 195 = .ok (.iinc 14 1, 3) := by decide +kernel
theorem dL_reads_198 : decode cL_reads 198 = .ok (.goto (-21), 3) := by decide +kernel
theorem dL_reads_201 : decode cL_reads 201 = .ok (.aload_n 0, 1) := by decide +kernel
theorem dL_reads_202 : decode cL_reads 202 = .ok (.aload_n 1, 1) := by decide +kernel
theorem dL_reads_203 : decode cL_reads 203 = .ok (.aload_n 2, 1) := by decide +kernel
theorem dL_reads_204 : decode cL_reads 204 = .ok (.aload 5, 2) := by decide +kernel
theorem dL_reads_206 : decode cL_reads 206 = .ok (.aload 6, 2) := by decide +kernel
theorem dL_reads_208 : decode cL_reads 208 = .ok (.aload 12, 2) := by decide +kernel
theorem dL_reads_210 : decode cL_reads 210 = .ok (.iconst 0, 1) := by decide +kernel
theorem dL_reads_211 : decode cL_reads 211 = .ok (.iconst 0, 1) := by decide +kernel
theorem dL_reads_212 : decode cL_reads 212 = .ok (.invokestatic 59, 3) := by decide +kernel
theorem dL_reads_215 : decode cL_reads 215 = .ok (.return_, 1) := by decide +kernel
theorem dL_isTree_0 : decode cL_isTree 0 = .ok (.aload_n 0, 1) := by decide +kernel
theorem dL_isTree_1 : decode cL_isTree 1 = .ok (.invokevirtual 75, 3) := by decide +kernel
theorem dL_isTree_4 : decode cL_isTree 4 = .ok (.aload_n 1, 1) := by decide +kernel
theorem dL_isTree_5 : decode cL_isTree 5 = .ok (.iconst 3, 1) := by decide +kernel
theorem dL_isTree_6 : decode cL_isTree 6 = .ok (.iaload, 1) := by decide +kernel
theorem dL_isTree_7 : decode cL_isTree 7 = .ok (.if_icmp .ne 27, 3) := by decide +kernel
theorem dL_isTree_10 : decode cL_isTree 10 = .ok (.aload_n 0, 1) := by decide +kernel
theorem dL_isTree_11 : decode cL_isTree 11 = .ok (.invokevirtual 81, 3) := by decide +kernel
theorem dL_isTree_14 : decode cL_isTree 14 = .ok (.aload_n 1, 1) := by decide +kernel
theorem dL_isTree_15 : decode cL_isTree 15 = .ok (.iconst 4, 1) := by decide +kernel
theorem dL_isTree_16 : decode cL_isTree 16 = .ok (.iaload, 1) := by decide +kernel
theorem dL_isTree_17 : decode cL_isTree 17 = .ok (.if_icmp .ne 17, 3) := by decide +kernel
theorem dL_isTree_20 : decode cL_isTree 20 = .ok (.aload_n 0, 1) := by decide +kernel
theorem dL_isTree_21 : decode cL_isTree 21 = .ok (.invokevirtual 84, 3) := by decide +kernel
theorem dL_isTree_24 : decode cL_isTree 24 = .ok (.aload_n 1, 1) := by decide +kernel
theorem dL_isTree_25 : decode cL_isTree 25 = .ok (.iconst 5, 1) := by decide +kernel
theorem dL_isTree_26 : decode cL_isTree 26 = .ok (.iaload, 1) := by decide +kernel
theorem dL_isTree_27 : decode cL_isTree 27 = .ok (.if_icmp .ne 7, 3) := by decide +kernel
theorem dL_isTree_30 : decode cL_isTree 30 = .ok (.iconst 1, 1) := by decide +kernel
theorem dL_isTree_31 : decode cL_isTree 31 = .ok (.goto 4, 3) := by decide +kernel
theorem dL_isTree_34 : decode cL_isTree 34 = .ok (.iconst 0, 1) := by decide +kernel
theorem dL_isTree_35 : decode cL_isTree 35 = .ok (.istore 7, 2) := by decide +kernel
theorem dL_isTree_37 : decode cL_isTree 37 = .ok (.aload_n 1, 1) := by decide +kernel
theorem dL_isTree_38 : decode cL_isTree 38 = .ok (.iconst 3, 1) := by decide +kernel
theorem dL_isTree_39 : decode cL_isTree 39 = .ok (.iaload, 1) := by decide +kernel
theorem dL_isTree_40 : decode cL_isTree 40 = .ok (.istore 8, 2) := by decide +kernel
theorem dL_isTree_42 : decode cL_isTree 42 = .ok (.iconst 0, 1) := by decide +kernel
theorem dL_isTree_43 : decode cL_isTree 43 = .ok (.istore 9, 2) := by decide +kernel
theorem dL_isTree_45 : decode cL_isTree 45 = .ok (.iconst 0, 1) := by decide +kernel
theorem dL_isTree_46 : decode cL_isTree 46 = .ok (.istore 10, 2) := by decide +kernel
theorem dL_isTree_48 : decode cL_isTree 48 = .ok (.iload 10, 2) := by decide +kernel
theorem dL_isTree_50 : decode cL_isTree 50 = .ok (.aload_n 1, 1) := by decide +kernel
theorem dL_isTree_51 : decode cL_isTree 51 = .ok (.iconst 3, 1) := by decide +kernel
theorem dL_isTree_52 : decode cL_isTree 52 = .ok (.iaload, 1) := by decide +kernel
theorem dL_isTree_53 : decode cL_isTree 53 = .ok (.if_icmp .ge 101, 3) := by decide +kernel
theorem dL_isTree_56 : decode cL_isTree 56 = .ok (.iload 7, 2) := by decide +kernel
theorem dL_isTree_58 : decode cL_isTree 58 = .ok (.ifCond .eq 96, 3) := by decide +kernel
theorem dL_isTree_61 : decode cL_isTree 61 = .ok (.aload_n 0, 1) := by decide +kernel
theorem dL_isTree_62 : decode cL_isTree 62 = .ok (.iload 10, 2) := by decide +kernel
theorem dL_isTree_64 : decode cL_isTree 64 = .ok (.invokevirtual 87, 3) := by decide +kernel
theorem dL_isTree_67 : decode cL_isTree 67 = .ok (.aload_n 2, 1) := by decide +kernel
theorem dL_isTree_68 : decode cL_isTree 68 = .ok (.iload 10, 2) := by decide +kernel
theorem dL_isTree_70 : decode cL_isTree 70 = .ok (.iaload, 1) := by decide +kernel
theorem dL_isTree_71 : decode cL_isTree 71 = .ok (.bipush 32, 2) := by decide +kernel
theorem dL_isTree_73 : decode cL_isTree 73 = .ok (.irem, 1) := by decide +kernel
theorem dL_isTree_74 : decode cL_isTree 74 = .ok (.if_icmp .ne 71, 3) := by decide +kernel
theorem dL_isTree_77 : decode cL_isTree 77 = .ok (.aload_n 0, 1) := by decide +kernel
theorem dL_isTree_78 : decode cL_isTree 78 = .ok (.iload 10, 2) := by decide +kernel
theorem dL_isTree_80 : decode cL_isTree 80 = .ok (.invokevirtual 91, 3) := by decide +kernel
theorem dL_isTree_83 : decode cL_isTree 83 = .ok (.aload_n 3, 1) := by decide +kernel
theorem dL_isTree_84 : decode cL_isTree 84 = .ok (.iload 10, 2) := by decide +kernel
theorem dL_isTree_86 : decode cL_isTree 86 = .ok (.iaload, 1) := by decide +kernel
theorem dL_isTree_87 : decode cL_isTree 87 = .ok (.if_icmp .ne 58, 3) := by decide +kernel
theorem dL_isTree_90 : decode cL_isTree 90 = .ok (.aload_n 0, 1) := by decide +kernel
theorem dL_isTree_91 : decode cL_isTree 91 = .ok (.iload 10, 2) := by decide +kernel
theorem dL_isTree_93 : decode cL_isTree 93 = .ok (.invokevirtual 94, 3) := by decide +kernel
theorem dL_isTree_96 : decode cL_isTree 96 = .ok (.aload 4, 2) := by decide +kernel
theorem dL_isTree_98 : decode cL_isTree 98 = .ok (.iload 10, 2) := by decide +kernel
theorem dL_isTree_100 : decode cL_isTree 100 = .ok (.iaload, 1) := by decide +kernel
theorem dL_isTree_101 : decode cL_isTree 101 = .ok (.if_icmp .ne 44, 3) := by decide +kernel
theorem dL_isTree_104 : decode cL_isTree 104 = .ok (.aload_n 0, 1) := by decide +kernel
theorem dL_isTree_105 : decode cL_isTree 105 = .ok (.iload 10, 2) := by decide +kernel
theorem dL_isTree_107 : decode cL_isTree 107 = .ok (.invokevirtual 98, 3) := by decide +kernel
theorem dL_isTree_110 : decode cL_isTree 110 = .ok (.aload 5, 2) := by decide +kernel
theorem dL_isTree_112 : decode cL_isTree 112 = .ok (.iload 10, 2) := by decide +kernel
theorem dL_isTree_114 : decode cL_isTree 114 = .ok (.iaload, 1) := by decide +kernel
theorem dL_isTree_115 : decode cL_isTree 115 = .ok (.if_icmp .ne 30, 3) := by decide +kernel
theorem dL_isTree_118 : decode cL_isTree 118 = .ok (.aload_n 0, 1) := by decide +kernel
theorem dL_isTree_119 : decode cL_isTree 119 = .ok (.iload 10, 2) := by decide +kernel
theorem dL_isTree_121 : decode cL_isTree 121 = .ok (.invokevirtual 101, 3) := by decide +kernel
theorem dL_isTree_124 : decode cL_isTree 124 = .ok (.aload_n 2, 1) := by decide +kernel
theorem dL_isTree_125 : decode cL_isTree 125 = .ok (.iload 10, 2) := by decide +kernel
theorem dL_isTree_127 : decode cL_isTree 127 = .ok (.iaload, 1) := by decide +kernel
theorem dL_isTree_128 : decode cL_isTree 128 = .ok (.bipush 31, 2) := by decide +kernel
theorem dL_isTree_130 : decode cL_isTree 130 = .ok (.if_icmp .le 7, 3) := by decide +kernel
theorem dL_isTree_133 : decode cL_isTree 133 = .ok (.iconst 1, 1) := by decide +kernel
theorem dL_isTree_134 : decode cL_isTree 134 = .ok (.goto 4, 3) := by decide +kernel
theorem dL_isTree_137 : decode cL_isTree 137 = .ok (.iconst 0, 1) := by decide +kernel
theorem dL_isTree_138 : decode cL_isTree 138 = .ok (.if_icmp .ne 7, 3) := by decide +kernel
theorem dL_isTree_141 : decode cL_isTree 141 = .ok (.iconst 1, 1) := by decide +kernel
theorem dL_isTree_142 : decode cL_isTree 142 = .ok (.goto 4, 3) := by decide +kernel
theorem dL_isTree_145 : decode cL_isTree 145 = .ok (.iconst 0, 1) := by decide +kernel
theorem dL_isTree_146 : decode cL_isTree 146 = .ok (.istore 7, 2) := by decide +kernel
theorem dL_isTree_148 : decode cL_isTree 148 = .ok (.iinc 10 1, 3) := by decide +kernel
theorem dL_isTree_151 : decode cL_isTree 151 = .ok (.goto (-103), 3) := by decide +kernel
theorem dL_isTree_154 : decode cL_isTree 154 = .ok (.iconst 0, 1) := by decide +kernel
theorem dL_isTree_155 : decode cL_isTree 155 = .ok (.istore 10, 2) := by decide +kernel
theorem dL_isTree_157 : decode cL_isTree 157 = .ok (.iload 10, 2) := by decide +kernel
theorem dL_isTree_159 : decode cL_isTree 159 = .ok (.aload_n 1, 1) := by decide +kernel
theorem dL_isTree_160 : decode cL_isTree 160 = .ok (.iconst 5, 1) := by decide +kernel
theorem dL_isTree_161 : decode cL_isTree 161 = .ok (.iaload, 1) := by decide +kernel
theorem dL_isTree_162 : decode cL_isTree 162 = .ok (.if_icmp .ge 77, 3) := by decide +kernel
theorem dL_isTree_165 : decode cL_isTree 165 = .ok (.iload 7, 2) := by decide +kernel
theorem dL_isTree_167 : decode cL_isTree 167 = .ok (.ifCond .eq 72, 3) := by decide +kernel
theorem dL_isTree_170 : decode cL_isTree 170 = .ok (.iload 9, 2) := by decide +kernel
theorem dL_isTree_172 : decode cL_isTree 172 = .ok (.aload 6, 2) := by decide +kernel
theorem dL_isTree_174 : decode cL_isTree 174 = .ok (.iload 10, 2) := by decide +kernel
theorem dL_isTree_176 : decode cL_isTree 176 = .ok (.iaload, 1) := by decide +kernel
theorem dL_isTree_177 : decode cL_isTree 177 = .ok (.bipush 64, 2) := by decide +kernel
theorem dL_isTree_179 : decode cL_isTree 179 = .ok (.idiv, 1) := by decide +kernel
theorem dL_isTree_180 : decode cL_isTree 180 = .ok (.iconst 2, 1) := by decide +kernel
theorem dL_isTree_181 : decode cL_isTree 181 = .ok (.if_icmp .ne 7, 3) := by decide +kernel
theorem dL_isTree_184 : decode cL_isTree 184 = .ok (.iconst 1, 1) := by decide +kernel
theorem dL_isTree_185 : decode cL_isTree 185 = .ok (.goto 4, 3) := by decide +kernel
theorem dL_isTree_188 : decode cL_isTree 188 = .ok (.iconst 0, 1) := by decide +kernel
theorem dL_isTree_189 : decode cL_isTree 189 = .ok (.iadd, 1) := by decide +kernel
theorem dL_isTree_190 : decode cL_isTree 190 = .ok (.istore 9, 2) := by decide +kernel
theorem dL_isTree_192 : decode cL_isTree 192 = .ok (.aload_n 0, 1) := by decide +kernel
theorem dL_isTree_193 : decode cL_isTree 193 = .ok (.iload 10, 2) := by decide +kernel
theorem dL_isTree_195 : decode cL_isTree 195 = .ok (.invokevirtual 105, 3) := by decide +kernel
theorem dL_isTree_198 : decode cL_isTree 198 = .ok (.aload 6, 2) := by decide +kernel
theorem dL_isTree_200 : decode cL_isTree 200 = .ok (.iload 10, 2) := by decide +kernel
theorem dL_isTree_202 : decode cL_isTree 202 = .ok (.iaload, 1) := by decide +kernel
theorem dL_isTree_203 : decode cL_isTree 203 = .ok (.bipush 64, 2) := by decide +kernel
theorem dL_isTree_205 : decode cL_isTree 205 = .ok (.idiv, 1) := by decide +kernel
theorem dL_isTree_206 : decode cL_isTree 206 = .ok (.if_icmp .ne 24, 3) := by decide +kernel
theorem dL_isTree_209 : decode cL_isTree 209 = .ok (.aload_n 0, 1) := by decide +kernel
theorem dL_isTree_210 : decode cL_isTree 210 = .ok (.iload 10, 2) := by decide +kernel
theorem dL_isTree_212 : decode cL_isTree 212 = .ok (.invokevirtual 108, 3) := by decide +kernel
theorem dL_isTree_215 : decode cL_isTree 215 = .ok (.aload 6, 2) := by decide +kernel
theorem dL_isTree_217 : decode cL_isTree 217 = .ok (.iload 10, 2) := by decide +kernel
theorem dL_isTree_219 : decode cL_isTree 219 = .ok (.iaload, 1) := by decide +kernel
theorem dL_isTree_220 : decode cL_isTree 220 = .ok (.bipush 64, 2) := by decide +kernel
theorem dL_isTree_222 : decode cL_isTree 222 = .ok (.irem, 1) := by decide +kernel
theorem dL_isTree_223 : decode cL_isTree 223 = .ok (.if_icmp .ne 7, 3) := by decide +kernel
theorem dL_isTree_226 : decode cL_isTree 226 = .ok (.iconst 1, 1) := by decide +kernel
theorem dL_isTree_227 : decode cL_isTree 227 = .ok (.goto 4, 3) := by decide +kernel
theorem dL_isTree_230 : decode cL_isTree 230 = .ok (.iconst 0, 1) := by decide +kernel
theorem dL_isTree_231 : decode cL_isTree 231 = .ok (.istore 7, 2) := by decide +kernel
theorem dL_isTree_233 : decode cL_isTree 233 = .ok (.iinc 10 1, 3) := by decide +kernel
theorem dL_isTree_236 : decode cL_isTree 236 = .ok (.goto (-79), 3) := by decide +kernel
theorem dL_isTree_239 : decode cL_isTree 239 = .ok (.iload 7, 2) := by decide +kernel
theorem dL_isTree_241 : decode cL_isTree 241 = .ok (.ifCond .eq 44, 3) := by decide +kernel
theorem dL_isTree_244 : decode cL_isTree 244 = .ok (.aload_n 0, 1) := by decide +kernel
theorem dL_isTree_245 : decode cL_isTree 245 = .ok (.invokevirtual 111, 3) := by decide +kernel
theorem dL_isTree_248 : decode cL_isTree 248 = .ok (.iload 8, 2) := by decide +kernel
theorem dL_isTree_250 : decode cL_isTree 250 = .ok (.if_icmp .lt 35, 3) := by decide +kernel
theorem dL_isTree_253 : decode cL_isTree 253 = .ok (.aload_n 0, 1) := by decide +kernel
theorem dL_isTree_254 : decode cL_isTree 254 = .ok (.invokevirtual 111, 3) := by decide +kernel
theorem dL_isTree_257 : decode cL_isTree 257 = .ok (.iconst 2, 1) := by decide +kernel
theorem dL_isTree_258 : decode cL_isTree 258 = .ok (.iload 8, 2) := by decide +kernel
theorem dL_isTree_260 : decode cL_isTree 260 = .ok (.imul, 1) := by decide +kernel
theorem dL_isTree_261 : decode cL_isTree 261 = .ok (.if_icmp .gt 24, 3) := by decide +kernel
theorem dL_isTree_264 : decode cL_isTree 264 = .ok (.aload_n 0, 1) := by decide +kernel
theorem dL_isTree_265 : decode cL_isTree 265 = .ok (.invokevirtual 114, 3) := by decide +kernel
theorem dL_isTree_268 : decode cL_isTree 268 = .ok (.iload 9, 2) := by decide +kernel
theorem dL_isTree_270 : decode cL_isTree 270 = .ok (.ifCond .ne 7, 3) := by decide +kernel
theorem dL_isTree_273 : decode cL_isTree 273 = .ok (.iconst 1, 1) := by decide +kernel
theorem dL_isTree_274 : decode cL_isTree 274 = .ok (.goto 4, 3) := by decide +kernel
theorem dL_isTree_277 : decode cL_isTree 277 = .ok (.iconst 0, 1) := by decide +kernel
theorem dL_isTree_278 : decode cL_isTree 278 = .ok (.if_icmp .ne 7, 3) := by decide +kernel
theorem dL_isTree_281 : decode cL_isTree 281 = .ok (.iconst 1, 1) := by decide +kernel
theorem dL_isTree_282 : decode cL_isTree 282 = .ok (.goto 4, 3) := by decide +kernel
theorem dL_isTree_285 : decode cL_isTree 285 = .ok (.iconst 0, 1) := by decide +kernel
theorem dL_isTree_286 : decode cL_isTree 286 = .ok (.ireturn, 1) := by decide +kernel
