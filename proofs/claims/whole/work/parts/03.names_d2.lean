theorem dX8_isExcluded_0 : decode cX8_isExcluded 0 = .ok (.iconst 0, 1) := by decide +kernel
theorem dX8_isExcluded_1 : decode cX8_isExcluded 1 = .ok (.istore_n 2, 1) := by decide +kernel
theorem dX8_isExcluded_2 : decode cX8_isExcluded 2 = .ok (.iconst 0, 1) := by decide +kernel
theorem dX8_isExcluded_3 : decode cX8_isExcluded 3 = .ok (.istore_n 3, 1) := by decide +kernel
theorem dX8_isExcluded_4 : decode cX8_isExcluded 4 = .ok (.iload_n 3, 1) := by decide +kernel
theorem dX8_isExcluded_5 : decode cX8_isExcluded 5 = .ok (.aload_n 0, 1) := by decide +kernel
theorem dX8_isExcluded_6 : decode cX8_isExcluded 6 = .ok (.getfield 190, 3) := by decide +kernel
theorem dX8_isExcluded_9 : decode cX8_isExcluded 9 = .ok (.if_icmp .ge 38, 3) := by decide +kernel
theorem dX8_isExcluded_12 : decode cX8_isExcluded 12 = .ok (.iload_n 2, 1) := by decide +kernel
theorem dX8_isExcluded_13 : decode cX8_isExcluded 13 = .ok (.ifCond .ne 22, 3) := by decide +kernel
theorem dX8_isExcluded_16 : decode cX8_isExcluded 16 = .ok (.aload_n 0, 1) := by decide +kernel
theorem dX8_isExcluded_17 : decode cX8_isExcluded 17 = .ok (.getfield 22, 3) := by decide +kernel
theorem dX8_isExcluded_20 : decode cX8_isExcluded 20 = .ok (.aload_n 0, 1) := by decide +kernel
theorem dX8_isExcluded_21 : decode cX8_isExcluded 21 = .ok (.getfield 56, 3) := by decide +kernel
theorem dX8_isExcluded_24 : decode cX8_isExcluded 24 = .ok (.iload_n 3, 1) := by decide +kernel
theorem dX8_isExcluded_25 : decode cX8_isExcluded 25 = .ok (.iaload, 1) := by decide +kernel
theorem dX8_isExcluded_26 : decode cX8_isExcluded 26 = .ok (.iaload, 1) := by decide +kernel
theorem dX8_isExcluded_27 : decode cX8_isExcluded 27 = .ok (.iload_n 1, 1) := by decide +kernel
theorem dX8_isExcluded_28 : decode cX8_isExcluded 28 = .ok (.ishr, 1) := by decide +kernel
theorem dX8_isExcluded_29 : decode cX8_isExcluded 29 = .ok (.iconst 1, 1) := by decide +kernel
theorem dX8_isExcluded_30 : decode cX8_isExcluded 30 = .ok (.iand, 1) := by decide +kernel
theorem dX8_isExcluded_31 : decode cX8_isExcluded 31 = .ok (.iconst 1, 1) := by decide +kernel
theorem dX8_isExcluded_32 : decode cX8_isExcluded 32 = .ok (.if_icmp .ne 7, 3) := by decide +kernel
theorem dX8_isExcluded_35 : decode cX8_isExcluded 35 = .ok (.iconst 1, 1) := by decide +kernel
theorem dX8_isExcluded_36 : decode cX8_isExcluded 36 = .ok (.goto 4, 3) := by decide +kernel
theorem dX8_isExcluded_39 : decode cX8_isExcluded 39 = .ok (.iconst 0, 1) := by decide +kernel
theorem dX8_isExcluded_40 : decode cX8_isExcluded 40 = .ok (.istore_n 2, 1) := by decide +kernel
theorem dX8_isExcluded_41 : decode cX8_isExcluded 41 = .ok (.iinc 3 1, 3) := by decide +kernel
theorem dX8_isExcluded_44 : decode cX8_isExcluded 44 = .ok (.goto (-40), 3) := by decide +kernel
theorem dX8_isExcluded_47 : decode cX8_isExcluded 47 = .ok (.iload_n 2, 1) := by decide +kernel
theorem dX8_isExcluded_48 : decode cX8_isExcluded 48 = .ok (.ireturn, 1) := by decide +kernel
theorem dX8_isIncluded_0 : decode cX8_isIncluded 0 = .ok (.iconst 0, 1) := by decide +kernel
theorem dX8_isIncluded_1 : decode cX8_isIncluded 1 = .ok (.istore_n 2, 1) := by decide +kernel
theorem dX8_isIncluded_2 : decode cX8_isIncluded 2 = .ok (.iconst 0, 1) := by decide +kernel
theorem dX8_isIncluded_3 : decode cX8_isIncluded 3 = .ok (.istore_n 3, 1) := by decide +kernel
theorem dX8_isIncluded_4 : decode cX8_isIncluded 4 = .ok (.iload_n 3, 1) := by decide +kernel
theorem dX8_isIncluded_5 : decode cX8_isIncluded 5 = .ok (.aload_n 0, 1) := by decide +kernel
theorem dX8_isIncluded_6 : decode cX8_isIncluded 6 = .ok (.getfield 190, 3) := by decide +kernel
theorem dX8_isIncluded_9 : decode cX8_isIncluded 9 = .ok (.if_icmp .ge 38, 3) := by decide +kernel
theorem dX8_isIncluded_12 : decode cX8_isIncluded 12 = .ok (.iload_n 2, 1) := by decide +kernel
theorem dX8_isIncluded_13 : decode cX8_isIncluded 13 = .ok (.ifCond .ne 22, 3) := by decide +kernel
theorem dX8_isIncluded_16 : decode cX8_isIncluded 16 = .ok (.aload_n 0, 1) := by decide +kernel
theorem dX8_isIncluded_17 : decode cX8_isIncluded 17 = .ok (.getfield 19, 3) := by decide +kernel
theorem dX8_isIncluded_20 : decode cX8_isIncluded 20 = .ok (.aload_n 0, 1) := by decide +kernel
theorem dX8_isIncluded_21 : decode cX8_isIncluded 21 = .ok (.getfield 56, 3) := by decide +kernel
theorem dX8_isIncluded_24 : decode cX8_isIncluded 24 = .ok (.iload_n 3, 1) := by decide +kernel
theorem dX8_isIncluded_25 : decode cX8_isIncluded 25 = .ok (.iaload, 1) := by decide +kernel
theorem dX8_isIncluded_26 : decode cX8_isIncluded 26 = .ok (.iaload, 1) := by decide +kernel
theorem dX8_isIncluded_27 : decode cX8_isIncluded 27 = .ok (.iload_n 1, 1) := by decide +kernel
theorem dX8_isIncluded_28 : decode cX8_isIncluded 28 = .ok (.ishr, 1) := by decide +kernel
theorem dX8_isIncluded_29 : decode cX8_isIncluded 29 = .ok (.iconst 1, 1) := by decide +kernel
theorem dX8_isIncluded_30 : decode cX8_isIncluded 30 = .ok (.iand, 1) := by decide +kernel
theorem dX8_isIncluded_31 : decode cX8_isIncluded 31 = .ok (.iconst 1, 1) := by decide +kernel
theorem dX8_isIncluded_32 : decode cX8_isIncluded 32 = .ok (.if_icmp .ne 7, 3) := by decide +kernel
theorem dX8_isIncluded_35 : decode cX8_isIncluded 35 = .ok (.iconst 1, 1) := by decide +kernel
theorem dX8_isIncluded_36 : decode cX8_isIncluded 36 = .ok (.goto 4, 3) := by decide +kernel
theorem dX8_isIncluded_39 : decode cX8_isIncluded 39 = .ok (.iconst 0, 1) := by decide +kernel
theorem dX8_isIncluded_40 : decode cX8_isIncluded 40 = .ok (.istore_n 2, 1) := by decide +kernel
theorem dX8_isIncluded_41 : decode cX8_isIncluded 41 = .ok (.iinc 3 1, 3) := by decide +kernel
theorem dX8_isIncluded_44 : decode cX8_isIncluded 44 = .ok (.goto (-40), 3) := by decide +kernel
theorem dX8_isIncluded_47 : decode cX8_isIncluded 47 = .ok (.iload_n 2, 1) := by decide +kernel
theorem dX8_isIncluded_48 : decode cX8_isIncluded 48 = .ok (.ireturn, 1) := by decide +kernel
theorem dX8_isAccepted_0 : decode cX8_isAccepted 0 = .ok (.aload_n 0, 1) := by decide +kernel
theorem dX8_isAccepted_1 : decode cX8_isAccepted 1 = .ok (.getfield 190, 3) := by decide +kernel
theorem dX8_isAccepted_4 : decode cX8_isAccepted 4 = .ok (.ifCond .ne 20, 3) := by decide +kernel
theorem dX8_isAccepted_7 : decode cX8_isAccepted 7 = .ok (.aload_n 0, 1) := by decide +kernel
theorem dX8_isAccepted_8 : decode cX8_isAccepted 8 = .ok (.getfield 200, 3) := by decide +kernel
theorem dX8_isAccepted_11 : decode cX8_isAccepted 11 = .ok (.ifCond .ne 11, 3) := by decide +kernel
theorem dX8_isAccepted_14 : decode cX8_isAccepted 14 = .ok (.iload_n 1, 1) := by decide +kernel
theorem dX8_isAccepted_15 : decode cX8_isAccepted 15 = .ok (.ifCond .ne 7, 3) := by decide +kernel
theorem dX8_isAccepted_18 : decode cX8_isAccepted 18 = .ok (.iconst 1, 1) := by decide +kernel
theorem dX8_isAccepted_19 : decode cX8_isAccepted 19 = .ok (.goto 4, 3) := by decide +kernel
theorem dX8_isAccepted_22 : decode cX8_isAccepted 22 = .ok (.iconst 0, 1) := by decide +kernel
theorem dX8_isAccepted_23 : decode cX8_isAccepted 23 = .ok (.ireturn, 1) := by decide +kernel
theorem dX8_isAccepted_24 : decode cX8_isAccepted 24 = .ok (.iload_n 1, 1) := by decide +kernel
theorem dX8_isAccepted_25 : decode cX8_isAccepted 25 = .ok (.bipush 10, 2) := by decide +kernel
theorem dX8_isAccepted_27 : decode cX8_isAccepted 27 = .ok (.if_icmp .ge 13, 3) := by decide +kernel
theorem dX8_isAccepted_30 : decode cX8_isAccepted 30 = .ok (.aload_n 0, 1) := by decide +kernel
theorem dX8_isAccepted_31 : decode cX8_isAccepted 31 = .ok (.iload_n 1, 1) := by decide +kernel
theorem dX8_isAccepted_32 : decode cX8_isAccepted 32 = .ok (.invokevirtual 207, 3) := by decide +kernel
theorem dX8_isAccepted_35 : decode cX8_isAccepted 35 = .ok (.ifCond .eq 5, 3) := by decide +kernel
theorem dX8_isAccepted_38 : decode cX8_isAccepted 38 = .ok (.iconst 0, 1) := by decide +kernel
theorem dX8_isAccepted_39 : decode cX8_isAccepted 39 = .ok (.ireturn, 1) := by decide +kernel
theorem dX8_isAccepted_40 : decode cX8_isAccepted 40 = .ok (.aload_n 0, 1) := by decide +kernel
theorem dX8_isAccepted_41 : decode cX8_isAccepted 41 = .ok (.getfield 190, 3) := by decide +kernel
theorem dX8_isAccepted_44 : decode cX8_isAccepted 44 = .ok (.iconst 1, 1) := by decide +kernel
theorem dX8_isAccepted_45 : decode cX8_isAccepted 45 = .ok (.isub, 1) := by decide +kernel
theorem dX8_isAccepted_46 : decode cX8_isAccepted 46 = .ok (.istore_n 2, 1) := by decide +kernel
theorem dX8_isAccepted_47 : decode cX8_isAccepted 47 = .ok (.aload_n 0, 1) := by decide +kernel
theorem dX8_isAccepted_48 : decode cX8_isAccepted 48 = .ok (.aload_n 0, 1) := by decide +kernel
theorem dX8_isAccepted_49 : decode cX8_isAccepted 49 = .ok (.getfield 56, 3) := by decide +kernel
theorem dX8_isAccepted_52 : decode cX8_isAccepted 52 = .ok (.iload_n 2, 1) := by decide +kernel
theorem dX8_isAccepted_53 : decode cX8_isAccepted 53 = .ok (.iaload, 1) := by decide +kernel
theorem dX8_isAccepted_54 : decode cX8_isAccepted 54 = .ok (.aload_n 0, 1) := by decide +kernel
theorem dX8_isAccepted_55 : decode cX8_isAccepted 55 = .ok (.getfield 59, 3) := by decide +kernel
theorem dX8_isAccepted_58 : decode cX8_isAccepted 58 = .ok (.iload_n 2, 1) := by decide +kernel
theorem dX8_isAccepted_59 : decode cX8_isAccepted 59 = .ok (.iaload, 1) := by decide +kernel
theorem dX8_isAccepted_60 : decode cX8_isAccepted 60 = .ok (.aload_n 0, 1) := by decide +kernel
theorem dX8_isAccepted_61 : decode cX8_isAccepted 61 = .ok (.getfield 62, 3) := by decide +kernel
theorem dX8_isAccepted_64 : decode cX8_isAccepted 64 = .ok (.iload_n 2, 1) := by decide +kernel
theorem dX8_isAccepted_65 : decode cX8_isAccepted 65 = .ok (.baload, 1) := by decide +kernel
theorem dX8_isAccepted_66 : decode cX8_isAccepted 66 = .ok (.iload_n 1, 1) := by decide +kernel
theorem dX8_isAccepted_67 : decode cX8_isAccepted 67 = .ok (.invokevirtual 155, 3) := by decide +kernel
theorem dX8_isAccepted_70 : decode cX8_isAccepted 70 = .ok (.istore_n 3, 1) := by decide +kernel
theorem dX8_isAccepted_71 : decode cX8_isAccepted 71 = .ok (.iload_n 3, 1) := by decide +kernel
theorem dX8_isAccepted_72 : decode cX8_isAccepted 72 = .ok (.iconst (-1), 1) := by decide +kernel
theorem dX8_isAccepted_73 : decode cX8_isAccepted 73 = .ok (.if_icmp .eq 19, 3) := by decide +kernel
theorem dX8_isAccepted_76 : decode cX8_isAccepted 76 = .ok (.aload_n 0, 1) := by decide +kernel
theorem dX8_isAccepted_77 : decode cX8_isAccepted 77 = .ok (.getfield 59, 3) := by decide +kernel
theorem dX8_isAccepted_80 : decode cX8_isAccepted 80 = .ok (.iload_n 2, 1) := by decide +kernel
theorem dX8_isAccepted_81 : decode cX8_isAccepted 81 = .ok (.iload_n 3, 1) := by decide +kernel
theorem dX8_isAccepted_82 : decode cX8_isAccepted 82 = .ok (.iastore, 1) := by decide +kernel
theorem dX8_isAccepted_83 : decode cX8_isAccepted 83 = .ok (.aload_n 0, 1) := by decide +kernel
theorem dX8_isAccepted_84 : decode cX8_isAccepted 84 = .ok (.getfield 62, 3) := by decide +kernel
theorem dX8_isAccepted_87 : decode cX8_isAccepted 87 = .ok (.iload_n 2, 1) := by decide +kernel
theorem dX8_isAccepted_88 : decode cX8_isAccepted 88 = .ok (.iconst 1, 1) := by decide +kernel
theorem dX8_isAccepted_89 : decode cX8_isAccepted 89 = .ok (.bastore, 1) := by decide +kernel
theorem dX8_isAccepted_90 : decode cX8_isAccepted 90 = .ok (.iconst 1, 1) := by decide +kernel
theorem dX8_isAccepted_91 : decode cX8_isAccepted 91 = .ok (.ireturn, 1) := by decide +kernel
theorem dX8_isAccepted_92 : decode cX8_isAccepted 92 = .ok (.iload_n 1, 1) := by decide +kernel
theorem dX8_isAccepted_93 : decode cX8_isAccepted 93 = .ok (.bipush 10, 2) := by decide +kernel
theorem dX8_isAccepted_95 : decode cX8_isAccepted 95 = .ok (.if_icmp .ge 15, 3) := by decide +kernel
theorem dX8_isAccepted_98 : decode cX8_isAccepted 98 = .ok (.aload_n 0, 1) := by decide +kernel
theorem dX8_isAccepted_99 : decode cX8_isAccepted 99 = .ok (.iload_n 1, 1) := by decide +kernel
theorem dX8_isAccepted_100 : decode cX8_isAccepted 100 = .ok (.invokevirtual 211, 3) := by decide +kernel
theorem dX8_isAccepted_103 : decode cX8_isAccepted 103 = .ok (.ifCond .eq 7, 3) := by decide +kernel
theorem dX8_isAccepted_106 : decode cX8_isAccepted 106 = .ok (.iconst 1, 1) := by decide +kernel
theorem dX8_isAccepted_107 : decode cX8_isAccepted 107 = .ok (.goto 4, 3) := by decide +kernel
theorem dX8_isAccepted_110 : decode cX8_isAccepted 110 = .ok (.iconst 0, 1) := by decide +kernel
theorem dX8_isAccepted_111 : decode cX8_isAccepted 111 = .ok (.ireturn, 1) := by decide +kernel
theorem dX8_canEndTop_0 : decode cX8_canEndTop 0 = .ok (.aload_n 0, 1) := by decide +kernel
theorem dX8_canEndTop_1 : decode cX8_canEndTop 1 = .ok (.aload_n 0, 1) := by decide +kernel
theorem dX8_canEndTop_2 : decode cX8_canEndTop 2 = .ok (.getfield 56, 3) := by decide +kernel
theorem dX8_canEndTop_5 : decode cX8_canEndTop 5 = .ok (.aload_n 0, 1) := by decide +kernel
theorem dX8_canEndTop_6 : decode cX8_canEndTop 6 = .ok (.getfield 190, 3) := by decide +kernel
theorem dX8_canEndTop_9 : decode cX8_canEndTop 9 = .ok (.iconst 1, 1) := by decide +kernel
theorem dX8_canEndTop_10 : decode cX8_canEndTop 10 = .ok (.isub, 1) := by decide +kernel
theorem dX8_canEndTop_11 : decode cX8_canEndTop 11 = .ok (.iaload, 1) := by decide +kernel
theorem dX8_canEndTop_12 : decode cX8_canEndTop 12 = .ok (.aload_n 0, 1) := by decide +kernel
theorem dX8_canEndTop_13 : decode cX8_canEndTop 13 = .ok (.getfield 59, 3) := by decide +kernel
theorem dX8_canEndTop_16 : decode cX8_canEndTop 16 = .ok (.aload_n 0, 1) := by decide +kernel
theorem dX8_canEndTop_17 : decode cX8_canEndTop 17 = .ok (.getfield 190, 3) := by decide +kernel
theorem dX8_canEndTop_20 : decode cX8_canEndTop 20 = .ok (.iconst 1, 1) := by decide +kernel
theorem dX8_canEndTop_21 : decode cX8_canEndTop 21 = .ok (.isub, 1) := by decide +kernel
theorem dX8_canEndTop_22 : decode cX8_canEndTop 22 = .ok (.iaload, 1) := by decide +kernel
theorem dX8_canEndTop_23 : decode cX8_canEndTop 23 = .ok (.aload_n 0, 1) := by decide +kernel
theorem dX8_canEndTop_24 : decode cX8_canEndTop 24 = .ok (.getfield 62, 3) := by decide +kernel
theorem dX8_canEndTop_27 : decode cX8_canEndTop 27 = .ok (.aload_n 0, 1) := by decide +kernel
theorem dX8_canEndTop_28 : decode cX8_canEndTop 28 = .ok (.getfield 190, 3) := by decide +kernel
theorem dX8_canEndTop_31 : decode cX8_canEndTop 31 = .ok (.iconst 1, 1) := by decide +kernel
theorem dX8_canEndTop_32 : decode cX8_canEndTop 32 = .ok (.isub, 1) := by decide +kernel
theorem dX8_canEndTop_33 : decode cX8_canEndTop 33 = .ok (.baload, 1) := by decide +kernel
theorem dX8_canEndTop_34 : decode cX8_canEndTop 34 = .ok (.invokevirtual 214, 3) := by decide +kernel
theorem dX8_canEndTop_37 : decode cX8_canEndTop 37 = .ok (.ireturn, 1) := by decide +kernel
theorem dX8_wanted_0 : decode cX8_wanted 0 = .ok (.aload_n 0, 1) := by decide +kernel
theorem dX8_wanted_1 : decode cX8_wanted 1 = .ok (.getfield 190, 3) := by decide +kernel
theorem dX8_wanted_4 : decode cX8_wanted 4 = .ok (.ifCond .eq 29, 3) := by decide +kernel
theorem dX8_wanted_7 : decode cX8_wanted 7 = .ok (.aload_n 0, 1) := by decide +kernel
theorem dX8_wanted_8 : decode cX8_wanted 8 = .ok (.invokevirtual 217, 3) := by decide +kernel
theorem dX8_wanted_11 : decode cX8_wanted 11 = .ok (.ifCond .ne 22, 3) := by decide +kernel
theorem dX8_wanted_14 : decode cX8_wanted 14 = .ok (.aload_n 0, 1) := by decide +kernel
theorem dX8_wanted_15 : decode cX8_wanted 15 = .ok (.getfield 190, 3) := by decide +kernel
theorem dX8_wanted_18 : decode cX8_wanted 18 = .ok (.bipush 20, 2) := by decide +kernel
theorem dX8_wanted_20 : decode cX8_wanted 20 = .ok (.if_icmp .eq 13, 3) := by decide +kernel
theorem dX8_wanted_23 : decode cX8_wanted 23 = .ok (.aload_n 0, 1) := by decide +kernel
theorem dX8_wanted_24 : decode cX8_wanted 24 = .ok (.getfield 187, 3) := by decide +kernel
theorem dX8_wanted_27 : decode cX8_wanted 27 = .ok (.sipush 300, 3) := by decide +kernel
theorem dX8_wanted_30 : decode cX8_wanted 30 = .ok (.if_icmp .ne 5, 3) := by decide +kernel
theorem dX8_wanted_33 : decode cX8_wanted 33 = .ok (.iconst (-1), 1) := by decide +kernel
theorem dX8_wanted_34 : decode cX8_wanted 34 = .ok (.ireturn, 1) := by decide +kernel
theorem dX8_wanted_35 : decode cX8_wanted 35 = .ok (.aload_n 0, 1) := by decide +kernel
theorem dX8_wanted_36 : decode cX8_wanted 36 = .ok (.aload_n 0, 1) := by decide +kernel
theorem dX8_wanted_37 : decode cX8_wanted 37 = .ok (.getfield 56, 3) := by decide +kernel
theorem dX8_wanted_40 : decode cX8_wanted 40 = .ok (.aload_n 0, 1) := by decide +kernel
theorem dX8_wanted_41 : decode cX8_wanted 41 = .ok (.getfield 190, 3) := by decide +kernel
theorem dX8_wanted_44 : decode cX8_wanted 44 = .ok (.iconst 1, 1) := by decide +kernel
theorem dX8_wanted_45 : decode cX8_wanted 45 = .ok (.isub, 1) := by decide +kernel
theorem dX8_wanted_46 : decode cX8_wanted 46 = .ok (.iaload, 1) := by decide +kernel
theorem dX8_wanted_47 : decode cX8_wanted 47 = .ok (.aload_n 0, 1) := by decide +kernel
theorem dX8_wanted_48 : decode cX8_wanted 48 = .ok (.getfield 59, 3) := by decide +kernel
theorem dX8_wanted_51 : decode cX8_wanted 51 = .ok (.aload_n 0, 1) := by decide +kernel
theorem dX8_wanted_52 : decode cX8_wanted 52 = .ok (.getfield 190, 3) := by decide +kernel
theorem dX8_wanted_55 : decode cX8_wanted 55 = .ok (.iconst 1, 1) := by decide +kernel
theorem dX8_wanted_56 : decode cX8_wanted 56 = .ok (.isub, 1) := by decide +kernel
theorem dX8_wanted_57 : decode cX8_wanted 57 = .ok (.iaload, 1) := by decide +kernel
theorem dX8_wanted_58 : decode cX8_wanted 58 = .ok (.aload_n 0, 1) := by decide +kernel
theorem dX8_wanted_59 : decode cX8_wanted 59 = .ok (.getfield 62, 3) := by decide +kernel
theorem dX8_wanted_62 : decode cX8_wanted 62 = .ok (.aload_n 0, 1) := by decide +kernel
theorem dX8_wanted_63 : decode cX8_wanted 63 = .ok (.getfield 190, 3) := by decide +kernel
theorem dX8_wanted_66 : decode cX8_wanted 66 = .ok (.iconst 1, 1) := by decide +kernel
theorem dX8_wanted_67 : decode cX8_wanted 67 = .ok (.isub, 1) := by decide +kernel
theorem dX8_wanted_68 : decode cX8_wanted 68 = .ok (.baload, 1) := by decide +kernel
theorem dX8_wanted_69 : decode cX8_wanted 69 = .ok (.invokevirtual 221, 3) := by decide +kernel
theorem dX8_wanted_72 : decode cX8_wanted 72 = .ok (.istore_n 1, 1) := by decide +kernel
theorem dX8_wanted_73 : decode cX8_wanted 73 = .ok (.iconst (-1), 1) := by decide +kernel
theorem dX8_wanted_74 : decode cX8_wanted 74 = .ok (.istore_n 2, 1) := by decide +kernel
theorem dX8_wanted_75 : decode cX8_wanted 75 = .ok (.iconst 0, 1) := by decide +kernel
theorem dX8_wanted_76 : decode cX8_wanted 76 = .ok (.istore_n 3, 1) := by decide +kernel
theorem dX8_wanted_77 : decode cX8_wanted 77 = .ok (.iload_n 3, 1) := by decide +kernel
theorem dX8_wanted_78 : decode cX8_wanted 78 = .ok (.bipush 10, 2) := by decide +kernel
theorem dX8_wanted_80 : decode cX8_wanted 80 = .ok (.if_icmp .ge 22, 3) := by decide +kernel
theorem dX8_wanted_83 : decode cX8_wanted 83 = .ok (.iload_n 1, 1) := by decide +kernel
theorem dX8_wanted_84 : decode cX8_wanted 84 = .ok (.iconst 1, 1) := by decide +kernel
theorem dX8_wanted_85 : decode cX8_wanted 85 = .ok (.iload_n 3, 1) := by decide +kernel
theorem dX8_wanted_86 : decode cX8_wanted 86 = .ok (.ishl, 1) := by decide +kernel
theorem dX8_wanted_87 : decode cX8_wanted 87 = .ok (.if_icmp .ne 7, 3) := by decide +kernel
theorem dX8_wanted_90 : decode cX8_wanted 90 = .ok (.iload_n 3, 1) := by decide +kernel
theorem dX8_wanted_91 : decode cX8_wanted 91 = .ok (.goto 4, 3) := by decide +kernel
theorem dX8_wanted_94 : decode cX8_wanted 94 = .ok (.iload_n 2, 1) := by decide +kernel
theorem dX8_wanted_95 : decode cX8_wanted 95 = .ok (.istore_n 2, 1) := by decide +kernel
theorem dX8_wanted_96 : decode cX8_wanted 96 = .ok (.iinc 3 1, 3) := by decide +kernel
theorem dX8_wanted_99 : decode cX8_wanted 99 = .ok (.goto (-22), 3) := by decide +kernel
theorem dX8_wanted_102 : decode cX8_wanted 102 = .ok (.iload_n 2, 1) := by decide +kernel
theorem dX8_wanted_103 : decode cX8_wanted 103 = .ok (.iconst (-1), 1) := by decide +kernel
theorem dX8_wanted_104 : decode cX8_wanted 104 = .ok (.if_icmp .eq 33, 3) := by decide +kernel
theorem dX8_wanted_107 : decode cX8_wanted 107 = .ok (.aload_n 0, 1) := by decide +kernel
theorem dX8_wanted_108 : decode cX8_wanted 108 = .ok (.getfield 16, 3) := by decide +kernel
theorem dX8_wanted_111 : decode cX8_wanted 111 = .ok (.iload_n 2, 1) := by decide +kernel
theorem dX8_wanted_112 : decode cX8_wanted 112 = .ok (.iaload, 1) := by decide +kernel
theorem dX8_wanted_113 : decode cX8_wanted 113 = .ok (.ifCond .le 24, 3) := by decide +kernel
theorem dX8_wanted_116 : decode cX8_wanted 116 = .ok (.aload_n 0, 1) := by decide +kernel
theorem dX8_wanted_117 : decode cX8_wanted 117 = .ok (.iload_n 2, 1) := by decide +kernel
theorem dX8_wanted_118 : decode cX8_wanted 118 = .ok (.invokevirtual 207, 3) := by decide +kernel
theorem dX8_wanted_121 : decode cX8_wanted 121 = .ok (.ifCond .ne 16, 3) := by decide +kernel
theorem dX8_wanted_124 : decode cX8_wanted 124 = .ok (.aload_n 0, 1) := by decide +kernel
theorem dX8_wanted_125 : decode cX8_wanted 125 = .ok (.getfield 25, 3) := by decide +kernel
theorem dX8_wanted_128 : decode cX8_wanted 128 = .ok (.iload_n 2, 1) := by decide +kernel
theorem dX8_wanted_129 : decode cX8_wanted 129 = .ok (.baload, 1) := by decide +kernel
theorem dX8_wanted_130 : decode cX8_wanted 130 = .ok (.ifCond .eq 7, 3) := by decide +kernel
theorem dX8_wanted_133 : decode cX8_wanted 133 = .ok (.iload_n 2, 1) := by decide +kernel
theorem dX8_wanted_134 : decode cX8_wanted 134 = .ok (.goto 4, 3) := by decide +kernel
theorem dX8_wanted_137 : decode cX8_wanted 137 = .ok (.iconst (-1), 1) := by decide +kernel
theorem dX8_wanted_138 : decode cX8_wanted 138 = .ok (.ireturn, 1) := by decide +kernel
theorem dX8_readsThing_0 : decode cX8_readsThing 0 = .ok (.iconst 0, 1) := by decide +kernel
theorem dX8_readsThing_1 : decode cX8_readsThing 1 = .ok (.istore_n 3, 1) := by decide +kernel
theorem dX8_readsThing_2 : decode cX8_readsThing 2 = .ok (.aload_n 0, 1) := by decide +kernel
theorem dX8_readsThing_3 : decode cX8_readsThing 3 = .ok (.getfield 187, 3) := by decide +kernel
theorem dX8_readsThing_6 : decode cX8_readsThing 6 = .ok (.sipush 300, 3) := by decide +kernel
theorem dX8_readsThing_9 : decode cX8_readsThing 9 = .ok (.if_icmp .eq 18, 3) := by decide +kernel
theorem dX8_readsThing_12 : decode cX8_readsThing 12 = .ok (.iload_n 1, 1) := by decide +kernel
theorem dX8_readsThing_13 : decode cX8_readsThing 13 = .ok (.bipush 10, 2) := by decide +kernel
theorem dX8_readsThing_15 : decode cX8_readsThing 15 = .ok (.if_icmp .ge 19, 3) := by decide +kernel
theorem dX8_readsThing_18 : decode cX8_readsThing 18 = .ok (.aload_n 0, 1) := by decide +kernel
theorem dX8_readsThing_19 : decode cX8_readsThing 19 = .ok (.getfield 190, 3) := by decide +kernel
theorem dX8_readsThing_22 : decode cX8_readsThing 22 = .ok (.bipush 20, 2) := by decide +kernel
theorem dX8_readsThing_24 : decode cX8_readsThing 24 = .ok (.if_icmp .ne 10, 3) := by decide +kernel
theorem dX8_readsThing_27 : decode cX8_readsThing 27 = .ok (.aload_n 0, 1) := by decide +kernel
theorem dX8_readsThing_28 : decode cX8_readsThing 28 = .ok (.bipush 6, 2) := by decide +kernel
theorem dX8_readsThing_30 : decode cX8_readsThing 30 = .ok (.invokevirtual 225, 3) := by decide +kernel
theorem dX8_readsThing_33 : decode cX8_readsThing 33 = .ok (.return_, 1) := by decide +kernel
theorem dX8_readsThing_34 : decode cX8_readsThing 34 = .ok (.aload_n 0, 1) := by decide +kernel
theorem dX8_readsThing_35 : decode cX8_readsThing 35 = .ok (.iload_n 1, 1) := by decide +kernel
theorem dX8_readsThing_36 : decode cX8_readsThing 36 = .ok (.invokevirtual 229, 3) := by decide +kernel
theorem dX8_readsThing_39 : decode cX8_readsThing 39 = .ok (.ifCond .eq 27, 3) := by decide +kernel
theorem dX8_readsThing_42 : decode cX8_readsThing 42 = .ok (.iload_n 1, 1) := by decide +kernel
theorem dX8_readsThing_43 : decode cX8_readsThing 43 = .ok (.bipush 10, 2) := by decide +kernel
theorem dX8_readsThing_45 : decode cX8_readsThing 45 = .ok (.if_icmp .ge 12, 3) := by decide +kernel
theorem dX8_readsThing_48 : decode cX8_readsThing 48 = .ok (.aload_n 0, 1) := by decide +kernel
theorem dX8_readsThing_49 : decode cX8_readsThing 49 = .ok (.iload_n 1, 1) := by decide +kernel
theorem dX8_readsThing_50 : decode cX8_readsThing 50 = .ok (.iconst 0, 1) := by decide +kernel
theorem dX8_readsThing_51 : decode cX8_readsThing 51 = .ok (.invokevirtual 232, 3) := by decide +kernel
theorem dX8_readsThing_54 : decode cX8_readsThing 54 = .ok (.goto 11, 3) := by decide +kernel
theorem dX8_readsThing_57 : decode cX8_readsThing 57 = .ok (.aload_n 0, 1) := by decide +kernel
theorem dX8_readsThing_58 : decode cX8_readsThing 58 = .ok (.bipush 10, 2) := by decide +kernel
theorem dX8_readsThing_60 : decode cX8_readsThing 60 = .ok (.iload_n 2, 1) := by decide +kernel
theorem dX8_readsThing_61 : decode cX8_readsThing 61 = .ok (.iconst 0, 1) := by decide +kernel
theorem dX8_readsThing_62 : decode cX8_readsThing 62 = .ok (.invokevirtual 193, 3) := by decide +kernel
theorem dX8_readsThing_65 : decode cX8_readsThing 65 = .ok (.return_, 1) := by decide +kernel
theorem dX8_readsThing_66 : decode cX8_readsThing 66 = .ok (.iload_n 3, 1) := by decide +kernel
theorem dX8_readsThing_67 : decode cX8_readsThing 67 = .ok (.bipush 8, 2) := by decide +kernel
theorem dX8_readsThing_69 : decode cX8_readsThing 69 = .ok (.if_icmp .ge 10, 3) := by decide +kernel
theorem dX8_readsThing_72 : decode cX8_readsThing 72 = .ok (.aload_n 0, 1) := by decide +kernel
theorem dX8_readsThing_73 : decode cX8_readsThing 73 = .ok (.invokevirtual 236, 3) := by decide +kernel
theorem dX8_readsThing_76 : decode cX8_readsThing 76 = .ok (.goto 4, 3) := by decide +kernel
theorem dX8_readsThing_79 : decode cX8_readsThing 79 = .ok (.iconst (-1), 1) := by decide +kernel
theorem dX8_readsThing_80 : decode cX8_readsThing 80 = .ok (.istore 4, 2) := by decide +kernel
theorem dX8_readsThing_82 : decode cX8_readsThing 82 = .ok (.aload_n 0, 1) := by decide +kernel
theorem dX8_readsThing_83 : decode cX8_readsThing 83 = .ok (.getfield 200, 3) := by decide +kernel
theorem dX8_readsThing_86 : decode cX8_readsThing 86 = .ok (.ifCond .ne 21, 3) := by decide +kernel
theorem dX8_readsThing_89 : decode cX8_readsThing 89 = .ok (.aload_n 0, 1) := by decide +kernel
theorem dX8_readsThing_90 : decode cX8_readsThing 90 = .ok (.getfield 25, 3) := by decide +kernel
theorem dX8_readsThing_93 : decode cX8_readsThing 93 = .ok (.iconst 0, 1) := by decide +kernel
theorem dX8_readsThing_94 : decode cX8_readsThing 94 = .ok (.baload, 1) := by decide +kernel
theorem dX8_readsThing_95 : decode cX8_readsThing 95 = .ok (.ifCond .eq 12, 3) := by decide +kernel
theorem dX8_readsThing_98 : decode cX8_readsThing 98 = .ok (.aload_n 0, 1) := by decide +kernel
theorem dX8_readsThing_99 : decode cX8_readsThing 99 = .ok (.iconst 0, 1) := by decide +kernel
theorem dX8_readsThing_100 : decode cX8_readsThing 100 = .ok (.iconst 1, 1) := by decide +kernel
theorem dX8_readsThing_101 : decode cX8_readsThing 101 = .ok (.invokevirtual 232, 3) := by decide +kernel
theorem dX8_readsThing_104 : decode cX8_readsThing 104 = .ok (.goto 92, 3) := by decide +kernel
theorem dX8_readsThing_107 : decode cX8_readsThing 107 = .ok (.iload 4, 2) := by decide +kernel
theorem dX8_readsThing_109 : decode cX8_readsThing 109 = .ok (.iconst (-1), 1) := by decide +kernel
theorem dX8_readsThing_110 : decode cX8_readsThing 110 = .ok (.if_icmp .eq 23, 3) := by decide +kernel
theorem dX8_readsThing_113 : decode cX8_readsThing 113 = .ok (.aload_n 0, 1) := by decide +kernel
theorem dX8_readsThing_114 : decode cX8_readsThing 114 = .ok (.iload 4, 2) := by decide +kernel
theorem dX8_readsThing_116 : decode cX8_readsThing 116 = .ok (.invokevirtual 229, 3) := by decide +kernel
theorem dX8_readsThing_119 : decode cX8_readsThing 119 = .ok (.pop, 1) := by decide +kernel
theorem dX8_readsThing_120 : decode cX8_readsThing 120 = .ok (.aload_n 0, 1) := by decide +kernel
theorem dX8_readsThing_121 : decode cX8_readsThing 121 = .ok (.iload 4, 2) := by decide +kernel
theorem dX8_readsThing_123 : decode cX8_readsThing 123 = .ok (.iconst 1, 1) := by decide +kernel
theorem dX8_readsThing_124 : decode cX8_readsThing 124 = .ok (.invokevirtual 232, 3) := by decide +kernel
theorem dX8_readsThing_127 : decode cX8_readsThing 127 = .ok (.iinc 3 1, 3) := by decide +kernel
theorem dX8_readsThing_130 : decode cX8_readsThing 130 = .ok (.goto 66, 3) := by decide +kernel
theorem dX8_readsThing_133 : decode cX8_readsThing 133 = .ok (.aload_n 0, 1) := by decide +kernel
theorem dX8_readsThing_134 : decode cX8_readsThing 134 = .ok (.getfield 190, 3) := by decide +kernel
theorem dX8_readsThing_137 : decode cX8_readsThing 137 = .ok (.iconst 1, 1) := by decide +kernel
theorem dX8_readsThing_138 : decode cX8_readsThing 138 = .ok (.if_icmp .le 52, 3) := by decide +kernel
theorem dX8_readsThing_141 : decode cX8_readsThing 141 = .ok (.aload_n 0, 1) := by decide +kernel
theorem dX8_readsThing_142 : decode cX8_readsThing 142 = .ok (.invokevirtual 217, 3) := by decide +kernel
theorem dX8_readsThing_145 : decode cX8_readsThing 145 = .ok (.ifCond .eq 45, 3) := by decide +kernel
theorem dX8_readsThing_148 : decode cX8_readsThing 148 = .ok (.aload_n 0, 1) := by decide +kernel
theorem dX8_readsThing_149 : decode cX8_readsThing 149 = .ok (.getfield 29, 3) := by decide +kernel
theorem dX8_readsThing_152 : decode cX8_readsThing 152 = .ok (.aload_n 0, 1) := by decide +kernel
theorem dX8_readsThing_153 : decode cX8_readsThing 153 = .ok (.getfield 56, 3) := by decide +kernel
theorem dX8_readsThing_156 : decode cX8_readsThing 156 = .ok (.aload_n 0, 1) := by decide +kernel
theorem dX8_readsThing_157 : decode cX8_readsThing 157 = .ok (.getfield 190, 3) := by decide +kernel
theorem dX8_readsThing_160 : decode cX8_readsThing 160 = .ok (.iconst 1, 1) := by decide +kernel
theorem dX8_readsThing_161 : decode cX8_readsThing 161 = .ok (.isub, 1) := by decide +kernel
theorem dX8_readsThing_162 : decode cX8_readsThing 162 = .ok (.iaload, 1) := by decide +kernel
theorem dX8_readsThing_163 : decode cX8_readsThing 163 = .ok (.baload, 1) := by decide +kernel
theorem dX8_readsThing_164 : decode cX8_readsThing 164 = .ok (.ifCond .eq 26, 3) := by decide +kernel
theorem dX8_readsThing_167 : decode cX8_readsThing 167 = .ok (.aload_n 0, 1) := by decide +kernel
theorem dX8_readsThing_168 : decode cX8_readsThing 168 = .ok (.dup, 1) := by decide +kernel
theorem dX8_readsThing_169 : decode cX8_readsThing 169 = .ok (.getfield 190, 3) := by decide +kernel
theorem dX8_readsThing_172 : decode cX8_readsThing 172 = .ok (.iconst 1, 1) := by decide +kernel
theorem dX8_readsThing_173 : decode cX8_readsThing 173 = .ok (.isub, 1) := by decide +kernel
theorem dX8_readsThing_174 : decode cX8_readsThing 174 = .ok (.putfield 190, 3) := by decide +kernel
theorem dX8_readsThing_177 : decode cX8_readsThing 177 = .ok (.aload_n 0, 1) := by decide +kernel
theorem dX8_readsThing_178 : decode cX8_readsThing 178 = .ok (.dup, 1) := by decide +kernel
theorem dX8_readsThing_179 : decode cX8_readsThing 179 = .ok (.getfield 240, 3) := by decide +kernel
theorem dX8_readsThing_182 : decode cX8_readsThing 182 = .ok (.iconst 1, 1) := by decide +kernel
theorem dX8_readsThing_183 : decode cX8_readsThing 183 = .ok (.iadd, 1) := by decide +kernel
theorem dX8_readsThing_184 : decode cX8_readsThing 184 = .ok (.putfield 240, 3) := by decide +kernel
theorem dX8_readsThing_187 : decode cX8_readsThing 187 = .ok (.goto 9, 3) := by decide +kernel
theorem dX8_readsThing_190 : decode cX8_readsThing 190 = .ok (.aload_n 0, 1) := by decide +kernel
theorem dX8_readsThing_191 : decode cX8_readsThing 191 = .ok (.iconst 0, 1) := by decide +kernel
theorem dX8_readsThing_192 : decode cX8_readsThing 192 = .ok (.invokevirtual 225, 3) := by decide +kernel
theorem dX8_readsThing_195 : decode cX8_readsThing 195 = .ok (.return_, 1) := by decide +kernel
theorem dX8_readsThing_196 : decode cX8_readsThing 196 = .ok (.goto (-194), 3) := by decide +kernel
theorem dX8_closesTo_0 : decode cX8_closesTo 0 = .ok (.aload_n 0, 1) := by decide +kernel
theorem dX8_closesTo_1 : decode cX8_closesTo 1 = .ok (.getfield 190, 3) := by decide +kernel
theorem dX8_closesTo_4 : decode cX8_closesTo 4 = .ok (.iload_n 1, 1) := by decide +kernel
theorem dX8_closesTo_5 : decode cX8_closesTo 5 = .ok (.if_icmp .le 86, 3) := by decide +kernel
theorem dX8_closesTo_8 : decode cX8_closesTo 8 = .ok (.iload_n 2, 1) := by decide +kernel
theorem dX8_closesTo_9 : decode cX8_closesTo 9 = .ok (.ifCond .ne 13, 3) := by decide +kernel
theorem dX8_closesTo_12 : decode cX8_closesTo 12 = .ok (.aload_n 0, 1) := by decide +kernel
theorem dX8_closesTo_13 : decode cX8_closesTo 13 = .ok (.getfield 190, 3) := by decide +kernel
theorem dX8_closesTo_16 : decode cX8_closesTo 16 = .ok (.iconst 1, 1) := by decide +kernel
theorem dX8_closesTo_17 : decode cX8_closesTo 17 = .ok (.isub, 1) := by decide +kernel
theorem dX8_closesTo_18 : decode cX8_closesTo 18 = .ok (.iload_n 1, 1) := by decide +kernel
theorem dX8_closesTo_19 : decode cX8_closesTo 19 = .ok (.if_icmp .le 7, 3) := by decide +kernel
theorem dX8_closesTo_22 : decode cX8_closesTo 22 = .ok (.iconst 1, 1) := by decide +kernel
theorem dX8_closesTo_23 : decode cX8_closesTo 23 = .ok (.goto 4, 3) := by decide +kernel
theorem dX8_closesTo_26 : decode cX8_closesTo 26 = .ok (.iconst 0, 1) := by decide +kernel
theorem dX8_closesTo_27 : decode cX8_closesTo 27 = .ok (.istore_n 3, 1) := by decide +kernel
theorem dX8_closesTo_28 : decode cX8_closesTo 28 = .ok (.aload_n 0, 1) := by decide +kernel
theorem dX8_closesTo_29 : decode cX8_closesTo 29 = .ok (.invokevirtual 217, 3) := by decide +kernel
theorem dX8_closesTo_32 : decode cX8_closesTo 32 = .ok (.ifCond .ne 8, 3) := by decide +kernel
theorem dX8_closesTo_35 : decode cX8_closesTo 35 = .ok (.aload_n 0, 1) := by decide +kernel
theorem dX8_closesTo_36 : decode cX8_closesTo 36 = .ok (.iconst 2, 1) := by decide +kernel
theorem dX8_closesTo_37 : decode cX8_closesTo 37 = .ok (.invokevirtual 225, 3) := by decide +kernel
theorem dX8_closesTo_40 : decode cX8_closesTo 40 = .ok (.iload_n 3, 1) := by decide +kernel
theorem dX8_closesTo_41 : decode cX8_closesTo 41 = .ok (.ifCond .eq 37, 3) := by decide +kernel
theorem dX8_closesTo_44 : decode cX8_closesTo 44 = .ok (.aload_n 0, 1) := by decide +kernel
theorem dX8_closesTo_45 : decode cX8_closesTo 45 = .ok (.dup, 1) := by decide +kernel
theorem dX8_closesTo_46 : decode cX8_closesTo 46 = .ok (.getfield 240, 3) := by decide +kernel
theorem dX8_closesTo_49 : decode cX8_closesTo 49 = .ok (.iconst 1, 1) := by decide +kernel
theorem dX8_closesTo_50 : decode cX8_closesTo 50 = .ok (.iadd, 1) := by decide +kernel
theorem dX8_closesTo_51 : decode cX8_closesTo 51 = .ok (.putfield 240, 3) := by decide +kernel
theorem dX8_closesTo_54 : decode cX8_closesTo 54 = .ok (.aload_n 0, 1) := by decide +kernel
theorem dX8_closesTo_55 : decode cX8_closesTo 55 = .ok (.getfield 29, 3) := by decide +kernel
theorem dX8_closesTo_58 : decode cX8_closesTo 58 = .ok (.aload_n 0, 1) := by decide +kernel
theorem dX8_closesTo_59 : decode cX8_closesTo 59 = .ok (.getfield 56, 3) := by decide +kernel
theorem dX8_closesTo_62 : decode cX8_closesTo 62 = .ok (.aload_n 0, 1) := by decide +kernel
theorem dX8_closesTo_63 : decode cX8_closesTo 63 = .ok (.getfield 190, 3) := by decide +kernel
theorem dX8_closesTo_66 : decode cX8_closesTo 66 = .ok (.iconst 1, 1) := by decide +kernel
theorem dX8_closesTo_67 : decode cX8_closesTo 67 = .ok (.isub, 1) := by decide +kernel
theorem dX8_closesTo_68 : decode cX8_closesTo 68 = .ok (.iaload, 1) := by decide +kernel
theorem dX8_closesTo_69 : decode cX8_closesTo 69 = .ok (.baload, 1) := by decide +kernel
theorem dX8_closesTo_70 : decode cX8_closesTo 70 = .ok (.ifCond .ne 8, 3) := by decide +kernel
theorem dX8_closesTo_73 : decode cX8_closesTo 73 = .ok (.aload_n 0, 1) := by decide +kernel
theorem dX8_closesTo_74 : decode cX8_closesTo 74 = .ok (.iconst 3, 1) := by decide +kernel
theorem dX8_closesTo_75 : decode cX8_closesTo 75 = .ok (.invokevirtual 225, 3) := by decide +kernel
theorem dX8_closesTo_78 : decode cX8_closesTo 78 = .ok (.aload_n 0, 1) := by decide +kernel
theorem dX8_closesTo_79 : decode cX8_closesTo 79 = .ok (.dup, 1) := by decide +kernel
theorem dX8_closesTo_80 : decode cX8_closesTo 80 = .ok (.getfield 190, 3) := by decide +kernel
theorem dX8_closesTo_83 : decode cX8_closesTo 83 = .ok (.iconst 1, 1) := by decide +kernel
theorem dX8_closesTo_84 : decode cX8_closesTo 84 = .ok (.isub, 1) := by decide +kernel
theorem dX8_closesTo_85 : decode cX8_closesTo 85 = .ok (.putfield 190, 3) := by decide +kernel
theorem dX8_closesTo_88 : decode cX8_closesTo 88 = .ok (.goto (-88), 3) := by decide +kernel
theorem dX8_closesTo_91 : decode cX8_closesTo 91 = .ok (.return_, 1) := by decide +kernel
theorem dX8_levelLength_0 : decode cX8_levelLength 0 = .ok (.iload_n 1, 1) := by decide +kernel
theorem dX8_levelLength_1 : decode cX8_levelLength 1 = .ok (.ifCond .ne 10, 3) := by decide +kernel
theorem dX8_levelLength_4 : decode cX8_levelLength 4 = .ok (.aload_n 0, 1) := by decide +kernel
theorem dX8_levelLength_5 : decode cX8_levelLength 5 = .ok (.getfield 243, 3) := by decide +kernel
theorem dX8_levelLength_8 : decode cX8_levelLength 8 = .ok (.goto 14, 3) := by decide +kernel
theorem dX8_levelLength_11 : decode cX8_levelLength 11 = .ok (.aload_n 0, 1) := by decide +kernel
theorem dX8_levelLength_12 : decode cX8_levelLength 12 = .ok (.getfield 38, 3) := by decide +kernel
theorem dX8_levelLength_15 : decode cX8_levelLength 15 = .ok (.aload_n 0, 1) := by decide +kernel
theorem dX8_levelLength_16 : decode cX8_levelLength 16 = .ok (.getfield 89, 3) := by decide +kernel
theorem dX8_levelLength_19 : decode cX8_levelLength 19 = .ok (.iload_n 1, 1) := by decide +kernel
theorem dX8_levelLength_20 : decode cX8_levelLength 20 = .ok (.iaload, 1) := by decide +kernel
theorem dX8_levelLength_21 : decode cX8_levelLength 21 = .ok (.iaload, 1) := by decide +kernel
theorem dX8_levelLength_22 : decode cX8_levelLength 22 = .ok (.ireturn, 1) := by decide +kernel
theorem dX8_sortAt_0 : decode cX8_sortAt 0 = .ok (.iload_n 1, 1) := by decide +kernel
theorem dX8_sortAt_1 : decode cX8_sortAt 1 = .ok (.iconst 0, 1) := by decide +kernel
theorem dX8_sortAt_2 : decode cX8_sortAt 2 = .ok (.aload_n 0, 1) := by decide +kernel
theorem dX8_sortAt_3 : decode cX8_sortAt 3 = .ok (.aload_n 0, 1) := by decide +kernel
theorem dX8_sortAt_4 : decode cX8_sortAt 4 = .ok (.getfield 246, 3) := by decide +kernel
theorem dX8_sortAt_7 : decode cX8_sortAt 7 = .ok (.invokevirtual 249, 3) := by decide +kernel
theorem dX8_sortAt_10 : decode cX8_sortAt 10 = .ok (.iconst 1, 1) := by decide +kernel
theorem dX8_sortAt_11 : decode cX8_sortAt 11 = .ok (.isub, 1) := by decide +kernel
theorem dX8_sortAt_12 : decode cX8_sortAt 12 = .ok (.invokestatic 159, 3) := by decide +kernel
theorem dX8_sortAt_15 : decode cX8_sortAt 15 = .ok (.ifCond .ne 5, 3) := by decide +kernel
theorem dX8_sortAt_18 : decode cX8_sortAt 18 = .ok (.iconst (-1), 1) := by decide +kernel
theorem dX8_sortAt_19 : decode cX8_sortAt 19 = .ok (.ireturn, 1) := by decide +kernel
theorem dX8_sortAt_20 : decode cX8_sortAt 20 = .ok (.aload_n 0, 1) := by decide +kernel
theorem dX8_sortAt_21 : decode cX8_sortAt 21 = .ok (.getfield 246, 3) := by decide +kernel
theorem dX8_sortAt_24 : decode cX8_sortAt 24 = .ok (.ifCond .ne 12, 3) := by decide +kernel
theorem dX8_sortAt_27 : decode cX8_sortAt 27 = .ok (.aload_n 0, 1) := by decide +kernel
theorem dX8_sortAt_28 : decode cX8_sortAt 28 = .ok (.getfield 50, 3) := by decide +kernel
theorem dX8_sortAt_31 : decode cX8_sortAt 31 = .ok (.iload_n 1, 1) := by decide +kernel
theorem dX8_sortAt_32 : decode cX8_sortAt 32 = .ok (.iaload, 1) := by decide +kernel
theorem dX8_sortAt_33 : decode cX8_sortAt 33 = .ok (.goto 22, 3) := by decide +kernel
theorem dX8_sortAt_36 : decode cX8_sortAt 36 = .ok (.aload_n 0, 1) := by decide +kernel
theorem dX8_sortAt_37 : decode cX8_sortAt 37 = .ok (.getfield 32, 3) := by decide +kernel
theorem dX8_sortAt_40 : decode cX8_sortAt 40 = .ok (.bipush 6, 2) := by decide +kernel
theorem dX8_sortAt_42 : decode cX8_sortAt 42 = .ok (.aload_n 0, 1) := by decide +kernel
theorem dX8_sortAt_43 : decode cX8_sortAt 43 = .ok (.getfield 89, 3) := by decide +kernel
theorem dX8_sortAt_46 : decode cX8_sortAt 46 = .ok (.aload_n 0, 1) := by decide +kernel
theorem dX8_sortAt_47 : decode cX8_sortAt 47 = .ok (.getfield 246, 3) := by decide +kernel
theorem dX8_sortAt_50 : decode cX8_sortAt 50 = .ok (.iaload, 1) := by decide +kernel
theorem dX8_sortAt_51 : decode cX8_sortAt 51 = .ok (.imul, 1) := by decide +kernel
theorem dX8_sortAt_52 : decode cX8_sortAt 52 = .ok (.iload_n 1, 1) := by decide +kernel
theorem dX8_sortAt_53 : decode cX8_sortAt 53 = .ok (.iadd, 1) := by decide +kernel
theorem dX8_sortAt_54 : decode cX8_sortAt 54 = .ok (.iaload, 1) := by decide +kernel
theorem dX8_sortAt_55 : decode cX8_sortAt 55 = .ok (.ireturn, 1) := by decide +kernel
theorem dX8_valueAt_0 : decode cX8_valueAt 0 = .ok (.aload_n 0, 1) := by decide +kernel
theorem dX8_valueAt_1 : decode cX8_valueAt 1 = .ok (.getfield 246, 3) := by decide +kernel
theorem dX8_valueAt_4 : decode cX8_valueAt 4 = .ok (.ifCond .ne 12, 3) := by decide +kernel
theorem dX8_valueAt_7 : decode cX8_valueAt 7 = .ok (.aload_n 0, 1) := by decide +kernel
theorem dX8_valueAt_8 : decode cX8_valueAt 8 = .ok (.getfield 53, 3) := by decide +kernel
theorem dX8_valueAt_11 : decode cX8_valueAt 11 = .ok (.iload_n 1, 1) := by decide +kernel
theorem dX8_valueAt_12 : decode cX8_valueAt 12 = .ok (.iaload, 1) := by decide +kernel
theorem dX8_valueAt_13 : decode cX8_valueAt 13 = .ok (.goto 22, 3) := by decide +kernel
theorem dX8_valueAt_16 : decode cX8_valueAt 16 = .ok (.aload_n 0, 1) := by decide +kernel
theorem dX8_valueAt_17 : decode cX8_valueAt 17 = .ok (.getfield 35, 3) := by decide +kernel
theorem dX8_valueAt_20 : decode cX8_valueAt 20 = .ok (.bipush 6, 2) := by decide +kernel
theorem dX8_valueAt_22 : decode cX8_valueAt 22 = .ok (.aload_n 0, 1) := by decide +kernel
theorem dX8_valueAt_23 : decode cX8_valueAt 23 = .ok (.getfield 89, 3) := by decide +kernel
theorem dX8_valueAt_26 : decode cX8_valueAt 26 = .ok (.aload_n 0, 1) := by decide +kernel
theorem dX8_valueAt_27 : decode cX8_valueAt 27 = .ok (.getfield 246, 3) := by decide +kernel
theorem dX8_valueAt_30 : decode cX8_valueAt 30 = .ok (.iaload, 1) := by decide +kernel
theorem dX8_valueAt_31 : decode cX8_valueAt 31 = .ok (.imul, 1) := by decide +kernel
theorem dX8_valueAt_32 : decode cX8_valueAt 32 = .ok (.iload_n 1, 1) := by decide +kernel
theorem dX8_valueAt_33 : decode cX8_valueAt 33 = .ok (.iadd, 1) := by decide +kernel
theorem dX8_valueAt_34 : decode cX8_valueAt 34 = .ok (.iaload, 1) := by decide +kernel
theorem dX8_valueAt_35 : decode cX8_valueAt 35 = .ok (.ireturn, 1) := by decide +kernel
theorem dX8_mode_0 : decode cX8_mode 0 = .ok (.aload_n 0, 1) := by decide +kernel
theorem dX8_mode_1 : decode cX8_mode 1 = .ok (.getfield 95, 3) := by decide +kernel
theorem dX8_mode_4 : decode cX8_mode 4 = .ok (.aload_n 0, 1) := by decide +kernel
theorem dX8_mode_5 : decode cX8_mode 5 = .ok (.getfield 246, 3) := by decide +kernel
theorem dX8_mode_8 : decode cX8_mode 8 = .ok (.iaload, 1) := by decide +kernel
theorem dX8_mode_9 : decode cX8_mode 9 = .ok (.ifCond .ne 7, 3) := by decide +kernel
theorem dX8_mode_12 : decode cX8_mode 12 = .ok (.iconst 0, 1) := by decide +kernel
theorem dX8_mode_13 : decode cX8_mode 13 = .ok (.goto 28, 3) := by decide +kernel
theorem dX8_mode_16 : decode cX8_mode 16 = .ok (.aload_n 0, 1) := by decide +kernel
theorem dX8_mode_17 : decode cX8_mode 17 = .ok (.getfield 98, 3) := by decide +kernel
theorem dX8_mode_20 : decode cX8_mode 20 = .ok (.sipush 620, 3) := by decide +kernel
theorem dX8_mode_23 : decode cX8_mode 23 = .ok (.aload_n 0, 1) := by decide +kernel
theorem dX8_mode_24 : decode cX8_mode 24 = .ok (.getfield 246, 3) := by decide +kernel
theorem dX8_mode_27 : decode cX8_mode 27 = .ok (.imul, 1) := by decide +kernel
theorem dX8_mode_28 : decode cX8_mode 28 = .ok (.aload_n 0, 1) := by decide +kernel
theorem dX8_mode_29 : decode cX8_mode 29 = .ok (.getfield 95, 3) := by decide +kernel
theorem dX8_mode_32 : decode cX8_mode 32 = .ok (.aload_n 0, 1) := by decide +kernel
theorem dX8_mode_33 : decode cX8_mode 33 = .ok (.getfield 246, 3) := by decide +kernel
theorem dX8_mode_36 : decode cX8_mode 36 = .ok (.iaload, 1) := by decide +kernel
theorem dX8_mode_37 : decode cX8_mode 37 = .ok (.iadd, 1) := by decide +kernel
theorem dX8_mode_38 : decode cX8_mode 38 = .ok (.iconst 1, 1) := by decide +kernel
theorem dX8_mode_39 : decode cX8_mode 39 = .ok (.isub, 1) := by decide +kernel
theorem dX8_mode_40 : decode cX8_mode 40 = .ok (.iaload, 1) := by decide +kernel
theorem dX8_mode_41 : decode cX8_mode 41 = .ok (.ireturn, 1) := by decide +kernel
theorem dX8_opensMark_0 : decode cX8_opensMark 0 = .ok (.aload_n 0, 1) := by decide +kernel
theorem dX8_opensMark_1 : decode cX8_opensMark 1 = .ok (.getfield 98, 3) := by decide +kernel
theorem dX8_opensMark_4 : decode cX8_opensMark 4 = .ok (.sipush 620, 3) := by decide +kernel
theorem dX8_opensMark_7 : decode cX8_opensMark 7 = .ok (.aload_n 0, 1) := by decide +kernel
theorem dX8_opensMark_8 : decode cX8_opensMark 8 = .ok (.getfield 246, 3) := by decide +kernel
theorem dX8_opensMark_11 : decode cX8_opensMark 11 = .ok (.imul, 1) := by decide +kernel
theorem dX8_opensMark_12 : decode cX8_opensMark 12 = .ok (.aload_n 0, 1) := by decide +kernel
theorem dX8_opensMark_13 : decode cX8_opensMark 13 = .ok (.getfield 95, 3) := by decide +kernel
theorem dX8_opensMark_16 : decode cX8_opensMark 16 = .ok (.aload_n 0, 1) := by decide +kernel
theorem dX8_opensMark_17 : decode cX8_opensMark 17 = .ok (.getfield 246, 3) := by decide +kernel
theorem dX8_opensMark_20 : decode cX8_opensMark 20 = .ok (.iaload, 1) := by decide +kernel
theorem dX8_opensMark_21 : decode cX8_opensMark 21 = .ok (.iadd, 1) := by decide +kernel
theorem dX8_opensMark_22 : decode cX8_opensMark 22 = .ok (.iload_n 1, 1) := by decide +kernel
theorem dX8_opensMark_23 : decode cX8_opensMark 23 = .ok (.iastore, 1) := by decide +kernel
theorem dX8_opensMark_24 : decode cX8_opensMark 24 = .ok (.aload_n 0, 1) := by decide +kernel
theorem dX8_opensMark_25 : decode cX8_opensMark 25 = .ok (.getfield 95, 3) := by decide +kernel
theorem dX8_opensMark_28 : decode cX8_opensMark 28 = .ok (.aload_n 0, 1) := by decide +kernel
theorem dX8_opensMark_29 : decode cX8_opensMark 29 = .ok (.getfield 246, 3) := by decide +kernel
theorem dX8_opensMark_32 : decode cX8_opensMark 32 = .ok (.dup2, 1) := by decide +kernel
theorem dX8_opensMark_33 : decode cX8_opensMark 33 = .ok (.iaload, 1) := by decide +kernel
theorem dX8_opensMark_34 : decode cX8_opensMark 34 = .ok (.iconst 1, 1) := by decide +kernel
theorem dX8_opensMark_35 : decode cX8_opensMark 35 = .ok (.iadd, 1) := by decide +kernel
theorem dX8_opensMark_36 : decode cX8_opensMark 36 = .ok (.iastore, 1) := by decide +kernel
theorem dX8_opensMark_37 : decode cX8_opensMark 37 = .ok (.return_, 1) := by decide +kernel
theorem dX8_readsPlain_0 : decode cX8_readsPlain 0 = .ok (.aload_n 0, 1) := by decide +kernel
theorem dX8_readsPlain_1 : decode cX8_readsPlain 1 = .ok (.invokevirtual 253, 3) := by decide +kernel
theorem dX8_readsPlain_4 : decode cX8_readsPlain 4 = .ok (.istore_n 3, 1) := by decide +kernel
theorem dX8_readsPlain_5 : decode cX8_readsPlain 5 = .ok (.iload_n 1, 1) := by decide +kernel
theorem dX8_readsPlain_6 : decode cX8_readsPlain 6 = .ok (.bipush 7, 2) := by decide +kernel
theorem dX8_readsPlain_8 : decode cX8_readsPlain 8 = .ok (.if_icmp .ne 19, 3) := by decide +kernel
theorem dX8_readsPlain_11 : decode cX8_readsPlain 11 = .ok (.aload_n 0, 1) := by decide +kernel
theorem dX8_readsPlain_12 : decode cX8_readsPlain 12 = .ok (.bipush 10, 2) := by decide +kernel
theorem dX8_readsPlain_14 : decode cX8_readsPlain 14 = .ok (.bipush 42, 2) := by decide +kernel
theorem dX8_readsPlain_16 : decode cX8_readsPlain 16 = .ok (.invokevirtual 256, 3) := by decide +kernel
theorem dX8_readsPlain_19 : decode cX8_readsPlain 19 = .ok (.aload_n 0, 1) := by decide +kernel
theorem dX8_readsPlain_20 : decode cX8_readsPlain 20 = .ok (.iconst 4, 1) := by decide +kernel
theorem dX8_readsPlain_21 : decode cX8_readsPlain 21 = .ok (.invokevirtual 260, 3) := by decide +kernel
theorem dX8_readsPlain_24 : decode cX8_readsPlain 24 = .ok (.goto 65, 3) := by decide +kernel
theorem dX8_readsPlain_27 : decode cX8_readsPlain 27 = .ok (.iload_n 1, 1) := by decide +kernel
theorem dX8_readsPlain_28 : decode cX8_readsPlain 28 = .ok (.bipush 8, 2) := by decide +kernel
theorem dX8_readsPlain_30 : decode cX8_readsPlain 30 = .ok (.if_icmp .ne 32, 3) := by decide +kernel
theorem dX8_readsPlain_33 : decode cX8_readsPlain 33 = .ok (.aload_n 0, 1) := by decide +kernel
theorem dX8_readsPlain_34 : decode cX8_readsPlain 34 = .ok (.getfield 95, 3) := by decide +kernel
theorem dX8_readsPlain_37 : decode cX8_readsPlain 37 = .ok (.aload_n 0, 1) := by decide +kernel
theorem dX8_readsPlain_38 : decode cX8_readsPlain 38 = .ok (.getfield 246, 3) := by decide +kernel
theorem dX8_readsPlain_41 : decode cX8_readsPlain 41 = .ok (.dup2, 1) := by decide +kernel
theorem dX8_readsPlain_42 : decode cX8_readsPlain 42 = .ok (.iaload, 1) := by decide +kernel
theorem dX8_readsPlain_43 : decode cX8_readsPlain 43 = .ok (.iconst 1, 1) := by decide +kernel
theorem dX8_readsPlain_44 : decode cX8_readsPlain 44 = .ok (.isub, 1) := by decide +kernel
theorem dX8_readsPlain_45 : decode cX8_readsPlain 45 = .ok (.iastore, 1) := by decide +kernel
theorem dX8_readsPlain_46 : decode cX8_readsPlain 46 = .ok (.iload_n 3, 1) := by decide +kernel
theorem dX8_readsPlain_47 : decode cX8_readsPlain 47 = .ok (.iconst 4, 1) := by decide +kernel
theorem dX8_readsPlain_48 : decode cX8_readsPlain 48 = .ok (.if_icmp .ne 41, 3) := by decide +kernel
theorem dX8_readsPlain_51 : decode cX8_readsPlain 51 = .ok (.aload_n 0, 1) := by decide +kernel
theorem dX8_readsPlain_52 : decode cX8_readsPlain 52 = .ok (.bipush 10, 2) := by decide +kernel
theorem dX8_readsPlain_54 : decode cX8_readsPlain 54 = .ok (.bipush 42, 2) := by decide +kernel
theorem dX8_readsPlain_56 : decode cX8_readsPlain 56 = .ok (.invokevirtual 256, 3) := by decide +kernel
theorem dX8_readsPlain_59 : decode cX8_readsPlain 59 = .ok (.goto 30, 3) := by decide +kernel
theorem dX8_readsPlain_62 : decode cX8_readsPlain 62 = .ok (.aload_n 0, 1) := by decide +kernel
theorem dX8_readsPlain_63 : decode cX8_readsPlain 63 = .ok (.bipush 10, 2) := by decide +kernel
theorem dX8_readsPlain_65 : decode cX8_readsPlain 65 = .ok (.iload_n 1, 1) := by decide +kernel
theorem dX8_readsPlain_66 : decode cX8_readsPlain 66 = .ok (.iconst 4, 1) := by decide +kernel
theorem dX8_readsPlain_67 : decode cX8_readsPlain 67 = .ok (.if_icmp .ne 7, 3) := by decide +kernel
theorem dX8_readsPlain_70 : decode cX8_readsPlain 70 = .ok (.iload_n 2, 1) := by decide +kernel
theorem dX8_readsPlain_71 : decode cX8_readsPlain 71 = .ok (.goto 15, 3) := by decide +kernel
theorem dX8_readsPlain_74 : decode cX8_readsPlain 74 = .ok (.iload_n 1, 1) := by decide +kernel
theorem dX8_readsPlain_75 : decode cX8_readsPlain 75 = .ok (.iconst 5, 1) := by decide +kernel
theorem dX8_readsPlain_76 : decode cX8_readsPlain 76 = .ok (.if_icmp .ne 8, 3) := by decide +kernel
theorem dX8_readsPlain_79 : decode cX8_readsPlain 79 = .ok (.bipush 32, 2) := by decide +kernel
theorem dX8_readsPlain_81 : decode cX8_readsPlain 81 = .ok (.goto 5, 3) := by decide +kernel
theorem dX8_readsPlain_84 : decode cX8_readsPlain 84 = .ok (.bipush 42, 2) := by decide +kernel
theorem dX8_readsPlain_86 : decode cX8_readsPlain 86 = .ok (.invokevirtual 256, 3) := by decide +kernel
theorem dX8_readsPlain_89 : decode cX8_readsPlain 89 = .ok (.return_, 1) := by decide +kernel
theorem dX8_readsEnd_0 : decode cX8_readsEnd 0 = .ok (.iload_n 1, 1) := by decide +kernel
theorem dX8_readsEnd_1 : decode cX8_readsEnd 1 = .ok (.iconst 3, 1) := by decide +kernel
theorem dX8_readsEnd_2 : decode cX8_readsEnd 2 = .ok (.if_icmp .ne 12, 3) := by decide +kernel
theorem dX8_readsEnd_5 : decode cX8_readsEnd 5 = .ok (.aload_n 0, 1) := by decide +kernel
theorem dX8_readsEnd_6 : decode cX8_readsEnd 6 = .ok (.getfield 190, 3) := by decide +kernel
theorem dX8_readsEnd_9 : decode cX8_readsEnd 9 = .ok (.iconst 1, 1) := by decide +kernel
theorem dX8_readsEnd_10 : decode cX8_readsEnd 10 = .ok (.isub, 1) := by decide +kernel
theorem dX8_readsEnd_11 : decode cX8_readsEnd 11 = .ok (.goto 4, 3) := by decide +kernel
theorem dX8_readsEnd_14 : decode cX8_readsEnd 14 = .ok (.iconst (-1), 1) := by decide +kernel
theorem dX8_readsEnd_15 : decode cX8_readsEnd 15 = .ok (.istore_n 3, 1) := by decide +kernel
theorem dX8_readsEnd_16 : decode cX8_readsEnd 16 = .ok (.iconst 0, 1) := by decide +kernel
theorem dX8_readsEnd_17 : decode cX8_readsEnd 17 = .ok (.istore 4, 2) := by decide +kernel
theorem dX8_readsEnd_19 : decode cX8_readsEnd 19 = .ok (.iload 4, 2) := by decide +kernel
theorem dX8_readsEnd_21 : decode cX8_readsEnd 21 = .ok (.aload_n 0, 1) := by decide +kernel
theorem dX8_readsEnd_22 : decode cX8_readsEnd 22 = .ok (.getfield 190, 3) := by decide +kernel
theorem dX8_readsEnd_25 : decode cX8_readsEnd 25 = .ok (.if_icmp .ge 32, 3) := by decide +kernel
theorem dX8_readsEnd_28 : decode cX8_readsEnd 28 = .ok (.iload_n 1, 1) := by decide +kernel
theorem dX8_readsEnd_29 : decode cX8_readsEnd 29 = .ok (.iconst 1, 1) := by decide +kernel
theorem dX8_readsEnd_30 : decode cX8_readsEnd 30 = .ok (.if_icmp .ne 27, 3) := by decide +kernel
theorem dX8_readsEnd_33 : decode cX8_readsEnd 33 = .ok (.aload_n 0, 1) := by decide +kernel
theorem dX8_readsEnd_34 : decode cX8_readsEnd 34 = .ok (.getfield 56, 3) := by decide +kernel
theorem dX8_readsEnd_37 : decode cX8_readsEnd 37 = .ok (.iload 4, 2) := by decide +kernel
theorem dX8_readsEnd_39 : decode cX8_readsEnd 39 = .ok (.iaload, 1) := by decide +kernel
theorem dX8_readsEnd_40 : decode cX8_readsEnd 40 = .ok (.iload_n 2, 1) := by decide +kernel
theorem dX8_readsEnd_41 : decode cX8_readsEnd 41 = .ok (.if_icmp .ne 8, 3) := by decide +kernel
theorem dX8_readsEnd_44 : decode cX8_readsEnd 44 = .ok (.iload 4, 2) := by decide +kernel
theorem dX8_readsEnd_46 : decode cX8_readsEnd 46 = .ok (.goto 4, 3) := by decide +kernel
theorem dX8_readsEnd_49 : decode cX8_readsEnd 49 = .ok (.iload_n 3, 1) := by decide +kernel
theorem dX8_readsEnd_50 : decode cX8_readsEnd 50 = .ok (.istore_n 3, 1) := by decide +kernel
theorem dX8_readsEnd_51 : decode cX8_readsEnd 51 = .ok (.iinc 4 1, 3) := by decide +kernel
theorem dX8_readsEnd_54 : decode cX8_readsEnd 54 = .ok (.goto (-35), 3) := by decide +kernel
theorem dX8_readsEnd_57 : decode cX8_readsEnd 57 = .ok (.iload_n 3, 1) := by decide +kernel
theorem dX8_readsEnd_58 : decode cX8_readsEnd 58 = .ok (.ifCond .ge 11, 3) := by decide +kernel
theorem dX8_readsEnd_61 : decode cX8_readsEnd 61 = .ok (.aload_n 0, 1) := by decide +kernel
theorem dX8_readsEnd_62 : decode cX8_readsEnd 62 = .ok (.iconst 1, 1) := by decide +kernel
theorem dX8_readsEnd_63 : decode cX8_readsEnd 63 = .ok (.invokevirtual 225, 3) := by decide +kernel
theorem dX8_readsEnd_66 : decode cX8_readsEnd 66 = .ok (.goto 9, 3) := by decide +kernel
theorem dX8_readsEnd_69 : decode cX8_readsEnd 69 = .ok (.aload_n 0, 1) := by decide +kernel
theorem dX8_readsEnd_70 : decode cX8_readsEnd 70 = .ok (.iload_n 3, 1) := by decide +kernel
theorem dX8_readsEnd_71 : decode cX8_readsEnd 71 = .ok (.iconst 0, 1) := by decide +kernel
theorem dX8_readsEnd_72 : decode cX8_readsEnd 72 = .ok (.invokevirtual 263, 3) := by decide +kernel
theorem dX8_readsEnd_75 : decode cX8_readsEnd 75 = .ok (.return_, 1) := by decide +kernel
theorem dX8_readsLine_0 : decode cX8_readsLine 0 = .ok (.aload_n 0, 1) := by decide +kernel
theorem dX8_readsLine_1 : decode cX8_readsLine 1 = .ok (.iload_n 1, 1) := by decide +kernel
theorem dX8_readsLine_2 : decode cX8_readsLine 2 = .ok (.iconst 1, 1) := by decide +kernel
theorem dX8_readsLine_3 : decode cX8_readsLine 3 = .ok (.isub, 1) := by decide +kernel
theorem dX8_readsLine_4 : decode cX8_readsLine 4 = .ok (.invokevirtual 266, 3) := by decide +kernel
theorem dX8_readsLine_7 : decode cX8_readsLine 7 = .ok (.istore_n 2, 1) := by decide +kernel
theorem dX8_readsLine_8 : decode cX8_readsLine 8 = .ok (.aload_n 0, 1) := by decide +kernel
theorem dX8_readsLine_9 : decode cX8_readsLine 9 = .ok (.iload_n 1, 1) := by decide +kernel
theorem dX8_readsLine_10 : decode cX8_readsLine 10 = .ok (.iconst 1, 1) := by decide +kernel
theorem dX8_readsLine_11 : decode cX8_readsLine 11 = .ok (.iadd, 1) := by decide +kernel
theorem dX8_readsLine_12 : decode cX8_readsLine 12 = .ok (.invokevirtual 266, 3) := by decide +kernel
theorem dX8_readsLine_15 : decode cX8_readsLine 15 = .ok (.istore_n 3, 1) := by decide +kernel
theorem dX8_readsLine_16 : decode cX8_readsLine 16 = .ok (.iload_n 2, 1) := by decide +kernel
theorem dX8_readsLine_17 : decode cX8_readsLine 17 = .ok (.ifCond .eq 26, 3) := by decide +kernel
theorem dX8_readsLine_20 : decode cX8_readsLine 20 = .ok (.iload_n 2, 1) := by decide +kernel
theorem dX8_readsLine_21 : decode cX8_readsLine 21 = .ok (.iconst 2, 1) := by decide +kernel
theorem dX8_readsLine_22 : decode cX8_readsLine 22 = .ok (.if_icmp .eq 21, 3) := by decide +kernel
theorem dX8_readsLine_25 : decode cX8_readsLine 25 = .ok (.iload_n 3, 1) := by decide +kernel
theorem dX8_readsLine_26 : decode cX8_readsLine 26 = .ok (.iconst 1, 1) := by decide +kernel
theorem dX8_readsLine_27 : decode cX8_readsLine 27 = .ok (.if_icmp .eq 16, 3) := by decide +kernel
theorem dX8_readsLine_30 : decode cX8_readsLine 30 = .ok (.iload_n 3, 1) := by decide +kernel
theorem dX8_readsLine_31 : decode cX8_readsLine 31 = .ok (.iconst 3, 1) := by decide +kernel
theorem dX8_readsLine_32 : decode cX8_readsLine 32 = .ok (.if_icmp .eq 11, 3) := by decide +kernel
theorem dX8_readsLine_35 : decode cX8_readsLine 35 = .ok (.aload_n 0, 1) := by decide +kernel
theorem dX8_readsLine_36 : decode cX8_readsLine 36 = .ok (.bipush 10, 2) := by decide +kernel
theorem dX8_readsLine_38 : decode cX8_readsLine 38 = .ok (.bipush 32, 2) := by decide +kernel
theorem dX8_readsLine_40 : decode cX8_readsLine 40 = .ok (.invokevirtual 256, 3) := by decide +kernel
theorem dX8_readsLine_43 : decode cX8_readsLine 43 = .ok (.return_, 1) := by decide +kernel
theorem dX8_readsToken_0 : decode cX8_readsToken 0 = .ok (.aload_n 0, 1) := by decide +kernel
theorem dX8_readsToken_1 : decode cX8_readsToken 1 = .ok (.getfield 92, 3) := by decide +kernel
theorem dX8_readsToken_4 : decode cX8_readsToken 4 = .ok (.aload_n 0, 1) := by decide +kernel
theorem dX8_readsToken_5 : decode cX8_readsToken 5 = .ok (.getfield 246, 3) := by decide +kernel
theorem dX8_readsToken_8 : decode cX8_readsToken 8 = .ok (.iaload, 1) := by decide +kernel
theorem dX8_readsToken_9 : decode cX8_readsToken 9 = .ok (.istore_n 1, 1) := by decide +kernel
theorem dX8_readsToken_10 : decode cX8_readsToken 10 = .ok (.aload_n 0, 1) := by decide +kernel
theorem dX8_readsToken_11 : decode cX8_readsToken 11 = .ok (.iload_n 1, 1) := by decide +kernel
theorem dX8_readsToken_12 : decode cX8_readsToken 12 = .ok (.invokevirtual 266, 3) := by decide +kernel
theorem dX8_readsToken_15 : decode cX8_readsToken 15 = .ok (.istore_n 2, 1) := by decide +kernel
theorem dX8_readsToken_16 : decode cX8_readsToken 16 = .ok (.aload_n 0, 1) := by decide +kernel
theorem dX8_readsToken_17 : decode cX8_readsToken 17 = .ok (.iload_n 1, 1) := by decide +kernel
theorem dX8_readsToken_18 : decode cX8_readsToken 18 = .ok (.invokevirtual 269, 3) := by decide +kernel
theorem dX8_readsToken_21 : decode cX8_readsToken 21 = .ok (.istore_n 3, 1) := by decide +kernel
theorem dX8_readsToken_22 : decode cX8_readsToken 22 = .ok (.aload_n 0, 1) := by decide +kernel
theorem dX8_readsToken_23 : decode cX8_readsToken 23 = .ok (.invokevirtual 253, 3) := by decide +kernel
theorem dX8_readsToken_26 : decode cX8_readsToken 26 = .ok (.istore 4, 2) := by decide +kernel
theorem dX8_readsToken_28 : decode cX8_readsToken 28 = .ok (.iload 4, 2) := by decide +kernel
theorem dX8_readsToken_30 : decode cX8_readsToken 30 = .ok (.iconst 1, 1) := by decide +kernel
theorem dX8_readsToken_31 : decode cX8_readsToken 31 = .ok (.if_icmp .eq 9, 3) := by decide +kernel
theorem dX8_readsToken_34 : decode cX8_readsToken 34 = .ok (.iload 4, 2) := by decide +kernel
theorem dX8_readsToken_36 : decode cX8_readsToken 36 = .ok (.iconst 3, 1) := by decide +kernel
theorem dX8_readsToken_37 : decode cX8_readsToken 37 = .ok (.if_icmp .ne 40, 3) := by decide +kernel
theorem dX8_readsToken_40 : decode cX8_readsToken 40 = .ok (.iload_n 2, 1) := by decide +kernel
theorem dX8_readsToken_41 : decode cX8_readsToken 41 = .ok (.bipush 7, 2) := by decide +kernel
theorem dX8_readsToken_43 : decode cX8_readsToken 43 = .ok (.if_icmp .ne 8, 3) := by decide +kernel
theorem dX8_readsToken_46 : decode cX8_readsToken 46 = .ok (.aload_n 0, 1) := by decide +kernel
theorem dX8_readsToken_47 : decode cX8_readsToken 47 = .ok (.iconst 3, 1) := by decide +kernel
theorem dX8_readsToken_48 : decode cX8_readsToken 48 = .ok (.invokevirtual 260, 3) := by decide +kernel
theorem dX8_readsToken_51 : decode cX8_readsToken 51 = .ok (.aload_n 0, 1) := by decide +kernel
theorem dX8_readsToken_52 : decode cX8_readsToken 52 = .ok (.getfield 95, 3) := by decide +kernel
theorem dX8_readsToken_55 : decode cX8_readsToken 55 = .ok (.aload_n 0, 1) := by decide +kernel
theorem dX8_readsToken_56 : decode cX8_readsToken 56 = .ok (.getfield 246, 3) := by decide +kernel
theorem dX8_readsToken_59 : decode cX8_readsToken 59 = .ok (.dup2, 1) := by decide +kernel
theorem dX8_readsToken_60 : decode cX8_readsToken 60 = .ok (.iaload, 1) := by decide +kernel
theorem dX8_readsToken_61 : decode cX8_readsToken 61 = .ok (.iload_n 2, 1) := by decide +kernel
theorem dX8_readsToken_62 : decode cX8_readsToken 62 = .ok (.bipush 8, 2) := by decide +kernel
theorem dX8_readsToken_64 : decode cX8_readsToken 64 = .ok (.if_icmp .ne 7, 3) := by decide +kernel
theorem dX8_readsToken_67 : decode cX8_readsToken 67 = .ok (.iconst 1, 1) := by decide +kernel
theorem dX8_readsToken_68 : decode cX8_readsToken 68 = .ok (.goto 4, 3) := by decide +kernel
theorem dX8_readsToken_71 : decode cX8_readsToken 71 = .ok (.iconst 0, 1) := by decide +kernel
theorem dX8_readsToken_72 : decode cX8_readsToken 72 = .ok (.isub, 1) := by decide +kernel
theorem dX8_readsToken_73 : decode cX8_readsToken 73 = .ok (.iastore, 1) := by decide +kernel
theorem dX8_readsToken_74 : decode cX8_readsToken 74 = .ok (.goto 253, 3) := by decide +kernel
theorem dX8_readsToken_77 : decode cX8_readsToken 77 = .ok (.iload 4, 2) := by decide +kernel
theorem dX8_readsToken_79 : decode cX8_readsToken 79 = .ok (.iconst 2, 1) := by decide +kernel
theorem dX8_readsToken_80 : decode cX8_readsToken 80 = .ok (.if_icmp .eq 9, 3) := by decide +kernel
theorem dX8_readsToken_83 : decode cX8_readsToken 83 = .ok (.iload 4, 2) := by decide +kernel
theorem dX8_readsToken_85 : decode cX8_readsToken 85 = .ok (.iconst 4, 1) := by decide +kernel
theorem dX8_readsToken_86 : decode cX8_readsToken 86 = .ok (.if_icmp .ne 12, 3) := by decide +kernel
theorem dX8_readsToken_89 : decode cX8_readsToken 89 = .ok (.aload_n 0, 1) := by decide +kernel
theorem dX8_readsToken_90 : decode cX8_readsToken 90 = .ok (.iload_n 2, 1) := by decide +kernel
theorem dX8_readsToken_91 : decode cX8_readsToken 91 = .ok (.iload_n 3, 1) := by decide +kernel
theorem dX8_readsToken_92 : decode cX8_readsToken 92 = .ok (.invokevirtual 272, 3) := by decide +kernel
theorem dX8_readsToken_95 : decode cX8_readsToken 95 = .ok (.goto 232, 3) := by decide +kernel
theorem dX8_readsToken_98 : decode cX8_readsToken 98 = .ok (.iload_n 2, 1) := by decide +kernel
theorem dX8_readsToken_99 : decode cX8_readsToken 99 = .ok (.ifCond .ne 12, 3) := by decide +kernel
theorem dX8_readsToken_102 : decode cX8_readsToken 102 = .ok (.aload_n 0, 1) := by decide +kernel
theorem dX8_readsToken_103 : decode cX8_readsToken 103 = .ok (.iload_n 3, 1) := by decide +kernel
theorem dX8_readsToken_104 : decode cX8_readsToken 104 = .ok (.iconst 0, 1) := by decide +kernel
theorem dX8_readsToken_105 : decode cX8_readsToken 105 = .ok (.invokevirtual 256, 3) := by decide +kernel
theorem dX8_readsToken_108 : decode cX8_readsToken 108 = .ok (.goto 219, 3) := by decide +kernel
theorem dX8_readsToken_111 : decode cX8_readsToken 111 = .ok (.iload_n 2, 1) := by decide +kernel
theorem dX8_readsToken_112 : decode cX8_readsToken 112 = .ok (.iconst 2, 1) := by decide +kernel
theorem dX8_readsToken_113 : decode cX8_readsToken 113 = .ok (.if_icmp .ne 31, 3) := by decide +kernel
theorem dX8_readsToken_116 : decode cX8_readsToken 116 = .ok (.aload_n 0, 1) := by decide +kernel
theorem dX8_readsToken_117 : decode cX8_readsToken 117 = .ok (.getfield 204, 3) := by decide +kernel
theorem dX8_readsToken_120 : decode cX8_readsToken 120 = .ok (.iconst (-1), 1) := by decide +kernel
theorem dX8_readsToken_121 : decode cX8_readsToken 121 = .ok (.if_icmp .ne 11, 3) := by decide +kernel
theorem dX8_readsToken_124 : decode cX8_readsToken 124 = .ok (.aload_n 0, 1) := by decide +kernel
theorem dX8_readsToken_125 : decode cX8_readsToken 125 = .ok (.iconst 1, 1) := by decide +kernel
theorem dX8_readsToken_126 : decode cX8_readsToken 126 = .ok (.invokevirtual 225, 3) := by decide +kernel
theorem dX8_readsToken_129 : decode cX8_readsToken 129 = .ok (.goto 198, 3) := by decide +kernel
theorem dX8_readsToken_132 : decode cX8_readsToken 132 = .ok (.aload_n 0, 1) := by decide +kernel
theorem dX8_readsToken_133 : decode cX8_readsToken 133 = .ok (.aload_n 0, 1) := by decide +kernel
theorem dX8_readsToken_134 : decode cX8_readsToken 134 = .ok (.getfield 204, 3) := by decide +kernel
theorem dX8_readsToken_137 : decode cX8_readsToken 137 = .ok (.iconst 0, 1) := by decide +kernel
theorem dX8_readsToken_138 : decode cX8_readsToken 138 = .ok (.invokevirtual 256, 3) := by decide +kernel
theorem dX8_readsToken_141 : decode cX8_readsToken 141 = .ok (.goto 186, 3) := by decide +kernel
theorem dX8_readsToken_144 : decode cX8_readsToken 144 = .ok (.iload_n 2, 1) := by decide +kernel
theorem dX8_readsToken_145 : decode cX8_readsToken 145 = .ok (.iconst 1, 1) := by decide +kernel
theorem dX8_readsToken_146 : decode cX8_readsToken 146 = .ok (.if_icmp .eq 8, 3) := by decide +kernel
theorem dX8_readsToken_149 : decode cX8_readsToken 149 = .ok (.iload_n 2, 1) := by decide +kernel
theorem dX8_readsToken_150 : decode cX8_readsToken 150 = .ok (.iconst 3, 1) := by decide +kernel
theorem dX8_readsToken_151 : decode cX8_readsToken 151 = .ok (.if_icmp .ne 12, 3) := by decide +kernel
theorem dX8_readsToken_154 : decode cX8_readsToken 154 = .ok (.aload_n 0, 1) := by decide +kernel
theorem dX8_readsToken_155 : decode cX8_readsToken 155 = .ok (.iload_n 2, 1) := by decide +kernel
theorem dX8_readsToken_156 : decode cX8_readsToken 156 = .ok (.iload_n 3, 1) := by decide +kernel
theorem dX8_readsToken_157 : decode cX8_readsToken 157 = .ok (.invokevirtual 275, 3) := by decide +kernel
theorem dX8_readsToken_160 : decode cX8_readsToken 160 = .ok (.goto 167, 3) := by decide +kernel
theorem dX8_readsToken_163 : decode cX8_readsToken 163 = .ok (.iload_n 2, 1) := by decide +kernel
theorem dX8_readsToken_164 : decode cX8_readsToken 164 = .ok (.iconst 4, 1) := by decide +kernel
theorem dX8_readsToken_165 : decode cX8_readsToken 165 = .ok (.if_icmp .ne 13, 3) := by decide +kernel
theorem dX8_readsToken_168 : decode cX8_readsToken 168 = .ok (.aload_n 0, 1) := by decide +kernel
theorem dX8_readsToken_169 : decode cX8_readsToken 169 = .ok (.bipush 10, 2) := by decide +kernel
theorem dX8_readsToken_171 : decode cX8_readsToken 171 = .ok (.iload_n 3, 1) := by decide +kernel
theorem dX8_readsToken_172 : decode cX8_readsToken 172 = .ok (.invokevirtual 256, 3) := by decide +kernel
theorem dX8_readsToken_175 : decode cX8_readsToken 175 = .ok (.goto 152, 3) := by decide +kernel
theorem dX8_readsToken_178 : decode cX8_readsToken 178 = .ok (.iload_n 2, 1) := by decide +kernel
theorem dX8_readsToken_179 : decode cX8_readsToken 179 = .ok (.iconst 5, 1) := by decide +kernel
theorem dX8_readsToken_180 : decode cX8_readsToken 180 = .ok (.if_icmp .ne 11, 3) := by decide +kernel
theorem dX8_readsToken_183 : decode cX8_readsToken 183 = .ok (.aload_n 0, 1) := by decide +kernel
theorem dX8_readsToken_184 : decode cX8_readsToken 184 = .ok (.iload_n 1, 1) := by decide +kernel
theorem dX8_readsToken_185 : decode cX8_readsToken 185 = .ok (.invokevirtual 278, 3) := by decide +kernel
theorem dX8_readsToken_188 : decode cX8_readsToken 188 = .ok (.goto 139, 3) := by decide +kernel
theorem dX8_readsToken_191 : decode cX8_readsToken 191 = .ok (.iload_n 2, 1) := by decide +kernel
theorem dX8_readsToken_192 : decode cX8_readsToken 192 = .ok (.bipush 7, 2) := by decide +kernel
theorem dX8_readsToken_194 : decode cX8_readsToken 194 = .ok (.if_icmp .ne 16, 3) := by decide +kernel
theorem dX8_readsToken_197 : decode cX8_readsToken 197 = .ok (.aload_n 0, 1) := by decide +kernel
theorem dX8_readsToken_198 : decode cX8_readsToken 198 = .ok (.aload_n 0, 1) := by decide +kernel
theorem dX8_readsToken_199 : decode cX8_readsToken 199 = .ok (.getfield 41, 3) := by decide +kernel
theorem dX8_readsToken_202 : decode cX8_readsToken 202 = .ok (.iload_n 3, 1) := by decide +kernel
theorem dX8_readsToken_203 : decode cX8_readsToken 203 = .ok (.iaload, 1) := by decide +kernel
theorem dX8_readsToken_204 : decode cX8_readsToken 204 = .ok (.invokevirtual 260, 3) := by decide +kernel
theorem dX8_readsToken_207 : decode cX8_readsToken 207 = .ok (.goto 120, 3) := by decide +kernel
theorem dX8_readsToken_210 : decode cX8_readsToken 210 = .ok (.iload_n 2, 1) := by decide +kernel
theorem dX8_readsToken_211 : decode cX8_readsToken 211 = .ok (.bipush 8, 2) := by decide +kernel
theorem dX8_readsToken_213 : decode cX8_readsToken 213 = .ok (.if_icmp .ne 39, 3) := by decide +kernel
theorem dX8_readsToken_216 : decode cX8_readsToken 216 = .ok (.aload_n 0, 1) := by decide +kernel
theorem dX8_readsToken_217 : decode cX8_readsToken 217 = .ok (.getfield 95, 3) := by decide +kernel
theorem dX8_readsToken_220 : decode cX8_readsToken 220 = .ok (.aload_n 0, 1) := by decide +kernel
theorem dX8_readsToken_221 : decode cX8_readsToken 221 = .ok (.getfield 246, 3) := by decide +kernel
theorem dX8_readsToken_224 : decode cX8_readsToken 224 = .ok (.iaload, 1) := by decide +kernel
theorem dX8_readsToken_225 : decode cX8_readsToken 225 = .ok (.ifCond .ne 11, 3) := by decide +kernel
theorem dX8_readsToken_228 : decode cX8_readsToken 228 = .ok (.aload_n 0, 1) := by decide +kernel
theorem dX8_readsToken_229 : decode cX8_readsToken 229 = .ok (.iconst 5, 1) := by decide +kernel
theorem dX8_readsToken_230 : decode cX8_readsToken 230 = .ok (.invokevirtual 225, 3) := by decide +kernel
theorem dX8_readsToken_233 : decode cX8_readsToken 233 = .ok (.goto 94, 3) := by decide +kernel
theorem dX8_readsToken_236 : decode cX8_readsToken 236 = .ok (.aload_n 0, 1) := by decide +kernel
theorem dX8_readsToken_237 : decode cX8_readsToken 237 = .ok (.getfield 95, 3) := by decide +kernel
theorem dX8_readsToken_240 : decode cX8_readsToken 240 = .ok (.aload_n 0, 1) := by decide +kernel
theorem dX8_readsToken_241 : decode cX8_readsToken 241 = .ok (.getfield 246, 3) := by decide +kernel
theorem dX8_readsToken_244 : decode cX8_readsToken 244 = .ok (.dup2, 1) := by decide +kernel
theorem dX8_readsToken_245 : decode cX8_readsToken 245 = .ok (.iaload, 1) := by decide +kernel
theorem dX8_readsToken_246 : decode cX8_readsToken 246 = .ok (.iconst 1, 1) := by decide +kernel
theorem dX8_readsToken_247 : decode cX8_readsToken 247 = .ok (.isub, 1) := by decide +kernel
theorem dX8_readsToken_248 : decode cX8_readsToken 248 = .ok (.iastore, 1) := by decide +kernel
theorem dX8_readsToken_249 : decode cX8_readsToken 249 = .ok (.goto 78, 3) := by decide +kernel
theorem dX8_readsToken_252 : decode cX8_readsToken 252 = .ok (.aload_n 0, 1) := by decide +kernel
theorem dX8_readsToken_253 : decode cX8_readsToken 253 = .ok (.getfield 246, 3) := by decide +kernel
theorem dX8_readsToken_256 : decode cX8_readsToken 256 = .ok (.iconst 2, 1) := by decide +kernel
theorem dX8_readsToken_257 : decode cX8_readsToken 257 = .ok (.if_icmp .eq 21, 3) := by decide +kernel
theorem dX8_readsToken_260 : decode cX8_readsToken 260 = .ok (.aload_n 0, 1) := by decide +kernel
theorem dX8_readsToken_261 : decode cX8_readsToken 261 = .ok (.getfield 246, 3) := by decide +kernel
theorem dX8_readsToken_264 : decode cX8_readsToken 264 = .ok (.iconst 1, 1) := by decide +kernel
theorem dX8_readsToken_265 : decode cX8_readsToken 265 = .ok (.if_icmp .ne 21, 3) := by decide +kernel
theorem dX8_readsToken_268 : decode cX8_readsToken 268 = .ok (.aload_n 0, 1) := by decide +kernel
theorem dX8_readsToken_269 : decode cX8_readsToken 269 = .ok (.getfield 89, 3) := by decide +kernel
theorem dX8_readsToken_272 : decode cX8_readsToken 272 = .ok (.iconst 1, 1) := by decide +kernel
theorem dX8_readsToken_273 : decode cX8_readsToken 273 = .ok (.iaload, 1) := by decide +kernel
theorem dX8_readsToken_274 : decode cX8_readsToken 274 = .ok (.iload_n 3, 1) := by decide +kernel
theorem dX8_readsToken_275 : decode cX8_readsToken 275 = .ok (.if_icmp .ne 11, 3) := by decide +kernel
theorem dX8_readsToken_278 : decode cX8_readsToken 278 = .ok (.aload_n 0, 1) := by decide +kernel
theorem dX8_readsToken_279 : decode cX8_readsToken 279 = .ok (.iconst 4, 1) := by decide +kernel
theorem dX8_readsToken_280 : decode cX8_readsToken 280 = .ok (.invokevirtual 225, 3) := by decide +kernel
theorem dX8_readsToken_283 : decode cX8_readsToken 283 = .ok (.goto 44, 3) := by decide +kernel
theorem dX8_readsToken_286 : decode cX8_readsToken 286 = .ok (.aload_n 0, 1) := by decide +kernel
theorem dX8_readsToken_287 : decode cX8_readsToken 287 = .ok (.dup, 1) := by decide +kernel
theorem dX8_readsToken_288 : decode cX8_readsToken 288 = .ok (.getfield 246, 3) := by decide +kernel
theorem dX8_readsToken_291 : decode cX8_readsToken 291 = .ok (.iconst 1, 1) := by decide +kernel
theorem dX8_readsToken_292 : decode cX8_readsToken 292 = .ok (.iadd, 1) := by decide +kernel
theorem dX8_readsToken_293 : decode cX8_readsToken 293 = .ok (.putfield 246, 3) := by decide +kernel
theorem dX8_readsToken_296 : decode cX8_readsToken 296 = .ok (.aload_n 0, 1) := by decide +kernel
theorem dX8_readsToken_297 : decode cX8_readsToken 297 = .ok (.getfield 89, 3) := by decide +kernel
theorem dX8_readsToken_300 : decode cX8_readsToken 300 = .ok (.aload_n 0, 1) := by decide +kernel
theorem dX8_readsToken_301 : decode cX8_readsToken 301 = .ok (.getfield 246, 3) := by decide +kernel
theorem dX8_readsToken_304 : decode cX8_readsToken 304 = .ok (.iload_n 3, 1) := by decide +kernel
theorem dX8_readsToken_305 : decode cX8_readsToken 305 = .ok (.iastore, 1) := by decide +kernel
theorem dX8_readsToken_306 : decode cX8_readsToken 306 = .ok (.aload_n 0, 1) := by decide +kernel
theorem dX8_readsToken_307 : decode cX8_readsToken 307 = .ok (.getfield 92, 3) := by decide +kernel
theorem dX8_readsToken_310 : decode cX8_readsToken 310 = .ok (.aload_n 0, 1) := by decide +kernel
theorem dX8_readsToken_311 : decode cX8_readsToken 311 = .ok (.getfield 246, 3) := by decide +kernel
theorem dX8_readsToken_314 : decode cX8_readsToken 314 = .ok (.iconst 0, 1) := by decide +kernel
theorem dX8_readsToken_315 : decode cX8_readsToken 315 = .ok (.iastore, 1) := by decide +kernel
theorem dX8_readsToken_316 : decode cX8_readsToken 316 = .ok (.aload_n 0, 1) := by decide +kernel
theorem dX8_readsToken_317 : decode cX8_readsToken 317 = .ok (.getfield 95, 3) := by decide +kernel
theorem dX8_readsToken_320 : decode cX8_readsToken 320 = .ok (.aload_n 0, 1) := by decide +kernel
theorem dX8_readsToken_321 : decode cX8_readsToken 321 = .ok (.getfield 246, 3) := by decide +kernel
theorem dX8_readsToken_324 : decode cX8_readsToken 324 = .ok (.iconst 0, 1) := by decide +kernel
theorem dX8_readsToken_325 : decode cX8_readsToken 325 = .ok (.iastore, 1) := by decide +kernel
theorem dX8_readsToken_326 : decode cX8_readsToken 326 = .ok (.return_, 1) := by decide +kernel
theorem dX8_readsToken_327 : decode cX8_readsToken 327 = .ok (.aload_n 0, 1) := by decide +kernel
theorem dX8_readsToken_328 : decode cX8_readsToken 328 = .ok (.getfield 92, 3) := by decide +kernel
theorem dX8_readsToken_331 : decode cX8_readsToken 331 = .ok (.aload_n 0, 1) := by decide +kernel
theorem dX8_readsToken_332 : decode cX8_readsToken 332 = .ok (.getfield 246, 3) := by decide +kernel
theorem dX8_readsToken_335 : decode cX8_readsToken 335 = .ok (.dup2, 1) := by decide +kernel
theorem dX8_readsToken_336 : decode cX8_readsToken 336 = .ok (.iaload, 1) := by decide +kernel
theorem dX8_readsToken_337 : decode cX8_readsToken 337 = .ok (.iconst 1, 1) := by decide +kernel
theorem dX8_readsToken_338 : decode cX8_readsToken 338 = .ok (.iadd, 1) := by decide +kernel
theorem dX8_readsToken_339 : decode cX8_readsToken 339 = .ok (.iastore, 1) := by decide +kernel
theorem dX8_readsToken_340 : decode cX8_readsToken 340 = .ok (.return_, 1) := by decide +kernel
theorem dX8_keepsState_0 : decode cX8_keepsState 0 = .ok (.aload_n 0, 1) := by decide +kernel
theorem dX8_keepsState_1 : decode cX8_keepsState 1 = .ok (.getfield 92, 3) := by decide +kernel
theorem dX8_keepsState_4 : decode cX8_keepsState 4 = .ok (.iconst 0, 1) := by decide +kernel
theorem dX8_keepsState_5 : decode cX8_keepsState 5 = .ok (.iaload, 1) := by decide +kernel
theorem dX8_keepsState_6 : decode cX8_keepsState 6 = .ok (.istore_n 1, 1) := by decide +kernel
theorem dX8_keepsState_7 : decode cX8_keepsState 7 = .ok (.aload_n 0, 1) := by decide +kernel
theorem dX8_keepsState_8 : decode cX8_keepsState 8 = .ok (.getfield 281, 3) := by decide +kernel
theorem dX8_keepsState_11 : decode cX8_keepsState 11 = .ok (.ifCond .eq 102, 3) := by decide +kernel
theorem dX8_keepsState_14 : decode cX8_keepsState 14 = .ok (.aload_n 0, 1) := by decide +kernel
theorem dX8_keepsState_15 : decode cX8_keepsState 15 = .ok (.getfield 246, 3) := by decide +kernel
theorem dX8_keepsState_18 : decode cX8_keepsState 18 = .ok (.ifCond .ne 95, 3) := by decide +kernel
theorem dX8_keepsState_21 : decode cX8_keepsState 21 = .ok (.aload_n 0, 1) := by decide +kernel
theorem dX8_keepsState_22 : decode cX8_keepsState 22 = .ok (.getfield 101, 3) := by decide +kernel
theorem dX8_keepsState_25 : decode cX8_keepsState 25 = .ok (.iload_n 1, 1) := by decide +kernel
theorem dX8_keepsState_26 : decode cX8_keepsState 26 = .ok (.aload_n 0, 1) := by decide +kernel
theorem dX8_keepsState_27 : decode cX8_keepsState 27 = .ok (.getfield 190, 3) := by decide +kernel
theorem dX8_keepsState_30 : decode cX8_keepsState 30 = .ok (.iastore, 1) := by decide +kernel
theorem dX8_keepsState_31 : decode cX8_keepsState 31 = .ok (.aload_n 0, 1) := by decide +kernel
theorem dX8_keepsState_32 : decode cX8_keepsState 32 = .ok (.getfield 107, 3) := by decide +kernel
theorem dX8_keepsState_35 : decode cX8_keepsState 35 = .ok (.iload_n 1, 1) := by decide +kernel
theorem dX8_keepsState_36 : decode cX8_keepsState 36 = .ok (.aload_n 0, 1) := by decide +kernel
theorem dX8_keepsState_37 : decode cX8_keepsState 37 = .ok (.getfield 204, 3) := by decide +kernel
theorem dX8_keepsState_40 : decode cX8_keepsState 40 = .ok (.iastore, 1) := by decide +kernel
theorem dX8_keepsState_41 : decode cX8_keepsState 41 = .ok (.aload_n 0, 1) := by decide +kernel
theorem dX8_keepsState_42 : decode cX8_keepsState 42 = .ok (.getfield 110, 3) := by decide +kernel
theorem dX8_keepsState_45 : decode cX8_keepsState 45 = .ok (.iload_n 1, 1) := by decide +kernel
theorem dX8_keepsState_46 : decode cX8_keepsState 46 = .ok (.aload_n 0, 1) := by decide +kernel
theorem dX8_keepsState_47 : decode cX8_keepsState 47 = .ok (.getfield 95, 3) := by decide +kernel
theorem dX8_keepsState_50 : decode cX8_keepsState 50 = .ok (.iconst 0, 1) := by decide +kernel
theorem dX8_keepsState_51 : decode cX8_keepsState 51 = .ok (.iaload, 1) := by decide +kernel
theorem dX8_keepsState_52 : decode cX8_keepsState 52 = .ok (.iastore, 1) := by decide +kernel
theorem dX8_keepsState_53 : decode cX8_keepsState 53 = .ok (.iconst 0, 1) := by decide +kernel
theorem dX8_keepsState_54 : decode cX8_keepsState 54 = .ok (.istore_n 2, 1) := by decide +kernel
theorem dX8_keepsState_55 : decode cX8_keepsState 55 = .ok (.iload_n 2, 1) := by decide +kernel
theorem dX8_keepsState_56 : decode cX8_keepsState 56 = .ok (.aload_n 0, 1) := by decide +kernel
theorem dX8_keepsState_57 : decode cX8_keepsState 57 = .ok (.getfield 190, 3) := by decide +kernel
theorem dX8_keepsState_60 : decode cX8_keepsState 60 = .ok (.if_icmp .ge 53, 3) := by decide +kernel
theorem dX8_keepsState_63 : decode cX8_keepsState 63 = .ok (.aload_n 0, 1) := by decide +kernel
theorem dX8_keepsState_64 : decode cX8_keepsState 64 = .ok (.getfield 104, 3) := by decide +kernel
theorem dX8_keepsState_67 : decode cX8_keepsState 67 = .ok (.bipush 20, 2) := by decide +kernel
theorem dX8_keepsState_69 : decode cX8_keepsState 69 = .ok (.iload_n 1, 1) := by decide +kernel
theorem dX8_keepsState_70 : decode cX8_keepsState 70 = .ok (.imul, 1) := by decide +kernel
theorem dX8_keepsState_71 : decode cX8_keepsState 71 = .ok (.iload_n 2, 1) := by decide +kernel
theorem dX8_keepsState_72 : decode cX8_keepsState 72 = .ok (.iadd, 1) := by decide +kernel
theorem dX8_keepsState_73 : decode cX8_keepsState 73 = .ok (.bipush 16, 2) := by decide +kernel
theorem dX8_keepsState_75 : decode cX8_keepsState 75 = .ok (.aload_n 0, 1) := by decide +kernel
theorem dX8_keepsState_76 : decode cX8_keepsState 76 = .ok (.getfield 56, 3) := by decide +kernel
theorem dX8_keepsState_79 : decode cX8_keepsState 79 = .ok (.iload_n 2, 1) := by decide +kernel
theorem dX8_keepsState_80 : decode cX8_keepsState 80 = .ok (.iaload, 1) := by decide +kernel
theorem dX8_keepsState_81 : decode cX8_keepsState 81 = .ok (.imul, 1) := by decide +kernel
theorem dX8_keepsState_82 : decode cX8_keepsState 82 = .ok (.iconst 2, 1) := by decide +kernel
theorem dX8_keepsState_83 : decode cX8_keepsState 83 = .ok (.aload_n 0, 1) := by decide +kernel
theorem dX8_keepsState_84 : decode cX8_keepsState 84 = .ok (.getfield 59, 3) := by decide +kernel
theorem dX8_keepsState_87 : decode cX8_keepsState 87 = .ok (.iload_n 2, 1) := by decide +kernel
theorem dX8_keepsState_88 : decode cX8_keepsState 88 = .ok (.iaload, 1) := by decide +kernel
theorem dX8_keepsState_89 : decode cX8_keepsState 89 = .ok (.imul, 1) := by decide +kernel
theorem dX8_keepsState_90 : decode cX8_keepsState 90 = .ok (.iadd, 1) := by decide +kernel
theorem dX8_keepsState_91 : decode cX8_keepsState 91 = .ok (.aload_n 0, 1) := by decide +kernel
theorem dX8_keepsState_92 : decode cX8_keepsState 92 = .ok (.getfield 62, 3) := by decide +kernel
theorem dX8_keepsState_95 : decode cX8_keepsState 95 = .ok (.iload_n 2, 1) := by decide +kernel
theorem dX8_keepsState_96 : decode cX8_keepsState 96 = .ok (.baload, 1) := by decide +kernel
theorem dX8_keepsState_97 : decode cX8_keepsState 97 = .ok (.ifCond .eq 7, 3) := by decide +kernel
theorem dX8_keepsState_100 : decode cX8_keepsState 100 = .ok (.iconst 1, 1) := by decide +kernel
theorem dX8_keepsState_101 : decode cX8_keepsState 101 = .ok (.goto 4, 3) := by decide +kernel
theorem dX8_keepsState_104 : decode cX8_keepsState 104 = .ok (.iconst 0, 1) := by decide +kernel
theorem dX8_keepsState_105 : decode cX8_keepsState 105 = .ok (.iadd, 1) := by decide +kernel
theorem dX8_keepsState_106 : decode cX8_keepsState 106 = .ok (.iastore, 1) := by decide +kernel
theorem dX8_keepsState_107 : decode cX8_keepsState 107 = .ok (.iinc 2 1, 3) := by decide +kernel
theorem dX8_keepsState_110 : decode cX8_keepsState 110 = .ok (.goto (-55), 3) := by decide +kernel
theorem dX8_keepsState_113 : decode cX8_keepsState 113 = .ok (.return_, 1) := by decide +kernel
theorem dX8_readsRow_0 : decode cX8_readsRow 0 = .ok (.aload_n 0, 1) := by decide +kernel
theorem dX8_readsRow_1 : decode cX8_readsRow 1 = .ok (.iconst 0, 1) := by decide +kernel
theorem dX8_readsRow_2 : decode cX8_readsRow 2 = .ok (.putfield 190, 3) := by decide +kernel
theorem dX8_readsRow_5 : decode cX8_readsRow 5 = .ok (.aload_n 0, 1) := by decide +kernel
theorem dX8_readsRow_6 : decode cX8_readsRow 6 = .ok (.iconst (-1), 1) := by decide +kernel
theorem dX8_readsRow_7 : decode cX8_readsRow 7 = .ok (.putfield 204, 3) := by decide +kernel
theorem dX8_readsRow_10 : decode cX8_readsRow 10 = .ok (.aload_n 0, 1) := by decide +kernel
theorem dX8_readsRow_11 : decode cX8_readsRow 11 = .ok (.iconst 0, 1) := by decide +kernel
theorem dX8_readsRow_12 : decode cX8_readsRow 12 = .ok (.putfield 200, 3) := by decide +kernel
theorem dX8_readsRow_15 : decode cX8_readsRow 15 = .ok (.aload_n 0, 1) := by decide +kernel
theorem dX8_readsRow_16 : decode cX8_readsRow 16 = .ok (.iconst 0, 1) := by decide +kernel
theorem dX8_readsRow_17 : decode cX8_readsRow 17 = .ok (.putfield 187, 3) := by decide +kernel
theorem dX8_readsRow_20 : decode cX8_readsRow 20 = .ok (.aload_n 0, 1) := by decide +kernel
theorem dX8_readsRow_21 : decode cX8_readsRow 21 = .ok (.iconst 0, 1) := by decide +kernel
theorem dX8_readsRow_22 : decode cX8_readsRow 22 = .ok (.putfield 240, 3) := by decide +kernel
theorem dX8_readsRow_25 : decode cX8_readsRow 25 = .ok (.aload_n 0, 1) := by decide +kernel
theorem dX8_readsRow_26 : decode cX8_readsRow 26 = .ok (.iconst 0, 1) := by decide +kernel
theorem dX8_readsRow_27 : decode cX8_readsRow 27 = .ok (.putfield 197, 3) := by decide +kernel
theorem dX8_readsRow_30 : decode cX8_readsRow 30 = .ok (.aload_n 0, 1) := by decide +kernel
theorem dX8_readsRow_31 : decode cX8_readsRow 31 = .ok (.iconst 0, 1) := by decide +kernel
theorem dX8_readsRow_32 : decode cX8_readsRow 32 = .ok (.putfield 184, 3) := by decide +kernel
theorem dX8_readsRow_35 : decode cX8_readsRow 35 = .ok (.aload_n 0, 1) := by decide +kernel
theorem dX8_readsRow_36 : decode cX8_readsRow 36 = .ok (.iconst 0, 1) := by decide +kernel
theorem dX8_readsRow_37 : decode cX8_readsRow 37 = .ok (.putfield 246, 3) := by decide +kernel
theorem dX8_readsRow_40 : decode cX8_readsRow 40 = .ok (.aload_n 0, 1) := by decide +kernel
theorem dX8_readsRow_41 : decode cX8_readsRow 41 = .ok (.getfield 92, 3) := by decide +kernel
theorem dX8_readsRow_44 : decode cX8_readsRow 44 = .ok (.iconst 0, 1) := by decide +kernel
theorem dX8_readsRow_45 : decode cX8_readsRow 45 = .ok (.iconst 0, 1) := by decide +kernel
theorem dX8_readsRow_46 : decode cX8_readsRow 46 = .ok (.iastore, 1) := by decide +kernel
theorem dX8_readsRow_47 : decode cX8_readsRow 47 = .ok (.aload_n 0, 1) := by decide +kernel
theorem dX8_readsRow_48 : decode cX8_readsRow 48 = .ok (.getfield 95, 3) := by decide +kernel
theorem dX8_readsRow_51 : decode cX8_readsRow 51 = .ok (.iconst 0, 1) := by decide +kernel
theorem dX8_readsRow_52 : decode cX8_readsRow 52 = .ok (.iconst 0, 1) := by decide +kernel
theorem dX8_readsRow_53 : decode cX8_readsRow 53 = .ok (.iastore, 1) := by decide +kernel
theorem dX8_readsRow_54 : decode cX8_readsRow 54 = .ok (.aload_n 0, 1) := by decide +kernel
theorem dX8_readsRow_55 : decode cX8_readsRow 55 = .ok (.invokevirtual 284, 3) := by decide +kernel
theorem dX8_readsRow_58 : decode cX8_readsRow 58 = .ok (.aload_n 0, 1) := by decide +kernel
theorem dX8_readsRow_59 : decode cX8_readsRow 59 = .ok (.getfield 246, 3) := by decide +kernel
theorem dX8_readsRow_62 : decode cX8_readsRow 62 = .ok (.ifCond .gt 16, 3) := by decide +kernel
theorem dX8_readsRow_65 : decode cX8_readsRow 65 = .ok (.aload_n 0, 1) := by decide +kernel
theorem dX8_readsRow_66 : decode cX8_readsRow 66 = .ok (.getfield 92, 3) := by decide +kernel
theorem dX8_readsRow_69 : decode cX8_readsRow 69 = .ok (.iconst 0, 1) := by decide +kernel
theorem dX8_readsRow_70 : decode cX8_readsRow 70 = .ok (.iaload, 1) := by decide +kernel
theorem dX8_readsRow_71 : decode cX8_readsRow 71 = .ok (.aload_n 0, 1) := by decide +kernel
theorem dX8_readsRow_72 : decode cX8_readsRow 72 = .ok (.getfield 243, 3) := by decide +kernel
theorem dX8_readsRow_75 : decode cX8_readsRow 75 = .ok (.if_icmp .ge 86, 3) := by decide +kernel
theorem dX8_readsRow_78 : decode cX8_readsRow 78 = .ok (.aload_n 0, 1) := by decide +kernel
theorem dX8_readsRow_79 : decode cX8_readsRow 79 = .ok (.getfield 92, 3) := by decide +kernel
theorem dX8_readsRow_82 : decode cX8_readsRow 82 = .ok (.aload_n 0, 1) := by decide +kernel
theorem dX8_readsRow_83 : decode cX8_readsRow 83 = .ok (.getfield 246, 3) := by decide +kernel
theorem dX8_readsRow_86 : decode cX8_readsRow 86 = .ok (.iaload, 1) := by decide +kernel
theorem dX8_readsRow_87 : decode cX8_readsRow 87 = .ok (.aload_n 0, 1) := by decide +kernel
theorem dX8_readsRow_88 : decode cX8_readsRow 88 = .ok (.aload_n 0, 1) := by decide +kernel
theorem dX8_readsRow_89 : decode cX8_readsRow 89 = .ok (.getfield 246, 3) := by decide +kernel
theorem dX8_readsRow_92 : decode cX8_readsRow 92 = .ok (.invokevirtual 249, 3) := by decide +kernel
theorem dX8_readsRow_95 : decode cX8_readsRow 95 = .ok (.if_icmp .ne 55, 3) := by decide +kernel
theorem dX8_readsRow_98 : decode cX8_readsRow 98 = .ok (.iconst 0, 1) := by decide +kernel
theorem dX8_readsRow_99 : decode cX8_readsRow 99 = .ok (.istore_n 1, 1) := by decide +kernel
theorem dX8_readsRow_100 : decode cX8_readsRow 100 = .ok (.iload_n 1, 1) := by decide +kernel
theorem dX8_readsRow_101 : decode cX8_readsRow 101 = .ok (.aload_n 0, 1) := by decide +kernel
theorem dX8_readsRow_102 : decode cX8_readsRow 102 = .ok (.getfield 95, 3) := by decide +kernel
theorem dX8_readsRow_105 : decode cX8_readsRow 105 = .ok (.aload_n 0, 1) := by decide +kernel
theorem dX8_readsRow_106 : decode cX8_readsRow 106 = .ok (.getfield 246, 3) := by decide +kernel
theorem dX8_readsRow_109 : decode cX8_readsRow 109 = .ok (.iaload, 1) := by decide +kernel
theorem dX8_readsRow_110 : decode cX8_readsRow 110 = .ok (.if_icmp .ge 14, 3) := by decide +kernel
theorem dX8_readsRow_113 : decode cX8_readsRow 113 = .ok (.aload_n 0, 1) := by decide +kernel
theorem dX8_readsRow_114 : decode cX8_readsRow 114 = .ok (.iconst 5, 1) := by decide +kernel
theorem dX8_readsRow_115 : decode cX8_readsRow 115 = .ok (.invokevirtual 225, 3) := by decide +kernel
theorem dX8_readsRow_118 : decode cX8_readsRow 118 = .ok (.iinc 1 1, 3) := by decide +kernel
theorem dX8_readsRow_121 : decode cX8_readsRow 121 = .ok (.goto (-21), 3) := by decide +kernel
theorem dX8_readsRow_124 : decode cX8_readsRow 124 = .ok (.aload_n 0, 1) := by decide +kernel
theorem dX8_readsRow_125 : decode cX8_readsRow 125 = .ok (.dup, 1) := by decide +kernel
theorem dX8_readsRow_126 : decode cX8_readsRow 126 = .ok (.getfield 246, 3) := by decide +kernel
theorem dX8_readsRow_129 : decode cX8_readsRow 129 = .ok (.iconst 1, 1) := by decide +kernel
theorem dX8_readsRow_130 : decode cX8_readsRow 130 = .ok (.isub, 1) := by decide +kernel
theorem dX8_readsRow_131 : decode cX8_readsRow 131 = .ok (.putfield 246, 3) := by decide +kernel
theorem dX8_readsRow_134 : decode cX8_readsRow 134 = .ok (.aload_n 0, 1) := by decide +kernel
theorem dX8_readsRow_135 : decode cX8_readsRow 135 = .ok (.getfield 92, 3) := by decide +kernel
theorem dX8_readsRow_138 : decode cX8_readsRow 138 = .ok (.aload_n 0, 1) := by decide +kernel
theorem dX8_readsRow_139 : decode cX8_readsRow 139 = .ok (.getfield 246, 3) := by decide +kernel
theorem dX8_readsRow_142 : decode cX8_readsRow 142 = .ok (.dup2, 1) := by decide +kernel
theorem dX8_readsRow_143 : decode cX8_readsRow 143 = .ok (.iaload, 1) := by decide +kernel
theorem dX8_readsRow_144 : decode cX8_readsRow 144 = .ok (.iconst 1, 1) := by decide +kernel
theorem dX8_readsRow_145 : decode cX8_readsRow 145 = .ok (.iadd, 1) := by decide +kernel
theorem dX8_readsRow_146 : decode cX8_readsRow 146 = .ok (.iastore, 1) := by decide +kernel
theorem dX8_readsRow_147 : decode cX8_readsRow 147 = .ok (.goto 7, 3) := by decide +kernel
theorem dX8_readsRow_150 : decode cX8_readsRow 150 = .ok (.aload_n 0, 1) := by decide +kernel
theorem dX8_readsRow_151 : decode cX8_readsRow 151 = .ok (.invokevirtual 287, 3) := by decide +kernel
theorem dX8_readsRow_154 : decode cX8_readsRow 154 = .ok (.aload_n 0, 1) := by decide +kernel
theorem dX8_readsRow_155 : decode cX8_readsRow 155 = .ok (.invokevirtual 284, 3) := by decide +kernel
theorem dX8_readsRow_158 : decode cX8_readsRow 158 = .ok (.goto (-100), 3) := by decide +kernel
theorem dX8_readsRow_161 : decode cX8_readsRow 161 = .ok (.iconst 0, 1) := by decide +kernel
theorem dX8_readsRow_162 : decode cX8_readsRow 162 = .ok (.istore_n 1, 1) := by decide +kernel
theorem dX8_readsRow_163 : decode cX8_readsRow 163 = .ok (.iload_n 1, 1) := by decide +kernel
theorem dX8_readsRow_164 : decode cX8_readsRow 164 = .ok (.aload_n 0, 1) := by decide +kernel
theorem dX8_readsRow_165 : decode cX8_readsRow 165 = .ok (.getfield 95, 3) := by decide +kernel
theorem dX8_readsRow_168 : decode cX8_readsRow 168 = .ok (.iconst 0, 1) := by decide +kernel
theorem dX8_readsRow_169 : decode cX8_readsRow 169 = .ok (.iaload, 1) := by decide +kernel
theorem dX8_readsRow_170 : decode cX8_readsRow 170 = .ok (.if_icmp .ge 14, 3) := by decide +kernel
theorem dX8_readsRow_173 : decode cX8_readsRow 173 = .ok (.aload_n 0, 1) := by decide +kernel
theorem dX8_readsRow_174 : decode cX8_readsRow 174 = .ok (.iconst 5, 1) := by decide +kernel
theorem dX8_readsRow_175 : decode cX8_readsRow 175 = .ok (.invokevirtual 225, 3) := by decide +kernel
theorem dX8_readsRow_178 : decode cX8_readsRow 178 = .ok (.iinc 1 1, 3) := by decide +kernel
theorem dX8_readsRow_181 : decode cX8_readsRow 181 = .ok (.goto (-18), 3) := by decide +kernel
theorem dX8_readsRow_184 : decode cX8_readsRow 184 = .ok (.aload_n 0, 1) := by decide +kernel
theorem dX8_readsRow_185 : decode cX8_readsRow 185 = .ok (.iconst 0, 1) := by decide +kernel
theorem dX8_readsRow_186 : decode cX8_readsRow 186 = .ok (.iconst 1, 1) := by decide +kernel
theorem dX8_readsRow_187 : decode cX8_readsRow 187 = .ok (.invokevirtual 263, 3) := by decide +kernel
theorem dX8_readsRow_190 : decode cX8_readsRow 190 = .ok (.return_, 1) := by decide +kernel
theorem dX8_readsText_0 : decode cX8_readsText 0 = .ok (.aload_n 0, 1) := by decide +kernel
theorem dX8_readsText_1 : decode cX8_readsText 1 = .ok (.aload_n 0, 1) := by decide +kernel
theorem dX8_readsText_2 : decode cX8_readsText 2 = .ok (.getfield 174, 3) := by decide +kernel
theorem dX8_readsText_5 : decode cX8_readsText 5 = .ok (.putfield 243, 3) := by decide +kernel
theorem dX8_readsText_8 : decode cX8_readsText 8 = .ok (.iconst 0, 1) := by decide +kernel
theorem dX8_readsText_9 : decode cX8_readsText 9 = .ok (.istore_n 1, 1) := by decide +kernel
theorem dX8_readsText_10 : decode cX8_readsText 10 = .ok (.iload_n 1, 1) := by decide +kernel
theorem dX8_readsText_11 : decode cX8_readsText 11 = .ok (.aload_n 0, 1) := by decide +kernel
theorem dX8_readsText_12 : decode cX8_readsText 12 = .ok (.getfield 174, 3) := by decide +kernel
theorem dX8_readsText_15 : decode cX8_readsText 15 = .ok (.if_icmp .ge 33, 3) := by decide +kernel
theorem dX8_readsText_18 : decode cX8_readsText 18 = .ok (.aload_n 0, 1) := by decide +kernel
theorem dX8_readsText_19 : decode cX8_readsText 19 = .ok (.getfield 50, 3) := by decide +kernel
theorem dX8_readsText_22 : decode cX8_readsText 22 = .ok (.iload_n 1, 1) := by decide +kernel
theorem dX8_readsText_23 : decode cX8_readsText 23 = .ok (.aload_n 0, 1) := by decide +kernel
theorem dX8_readsText_24 : decode cX8_readsText 24 = .ok (.getfield 44, 3) := by decide +kernel
theorem dX8_readsText_27 : decode cX8_readsText 27 = .ok (.iload_n 1, 1) := by decide +kernel
theorem dX8_readsText_28 : decode cX8_readsText 28 = .ok (.iaload, 1) := by decide +kernel
theorem dX8_readsText_29 : decode cX8_readsText 29 = .ok (.iastore, 1) := by decide +kernel
theorem dX8_readsText_30 : decode cX8_readsText 30 = .ok (.aload_n 0, 1) := by decide +kernel
theorem dX8_readsText_31 : decode cX8_readsText 31 = .ok (.getfield 53, 3) := by decide +kernel
theorem dX8_readsText_34 : decode cX8_readsText 34 = .ok (.iload_n 1, 1) := by decide +kernel
theorem dX8_readsText_35 : decode cX8_readsText 35 = .ok (.aload_n 0, 1) := by decide +kernel
theorem dX8_readsText_36 : decode cX8_readsText 36 = .ok (.getfield 47, 3) := by decide +kernel
theorem dX8_readsText_39 : decode cX8_readsText 39 = .ok (.iload_n 1, 1) := by decide +kernel
theorem dX8_readsText_40 : decode cX8_readsText 40 = .ok (.iaload, 1) := by decide +kernel
theorem dX8_readsText_41 : decode cX8_readsText 41 = .ok (.iastore, 1) := by decide +kernel
theorem dX8_readsText_42 : decode cX8_readsText 42 = .ok (.iinc 1 1, 3) := by decide +kernel
theorem dX8_readsText_45 : decode cX8_readsText 45 = .ok (.goto (-35), 3) := by decide +kernel
theorem dX8_readsText_48 : decode cX8_readsText 48 = .ok (.aload_n 0, 1) := by decide +kernel
theorem dX8_readsText_49 : decode cX8_readsText 49 = .ok (.iconst 1, 1) := by decide +kernel
theorem dX8_readsText_50 : decode cX8_readsText 50 = .ok (.putfield 281, 3) := by decide +kernel
theorem dX8_readsText_53 : decode cX8_readsText 53 = .ok (.aload_n 0, 1) := by decide +kernel
theorem dX8_readsText_54 : decode cX8_readsText 54 = .ok (.invokevirtual 290, 3) := by decide +kernel
theorem dX8_readsText_57 : decode cX8_readsText 57 = .ok (.aload_n 0, 1) := by decide +kernel
theorem dX8_readsText_58 : decode cX8_readsText 58 = .ok (.iconst 0, 1) := by decide +kernel
theorem dX8_readsText_59 : decode cX8_readsText 59 = .ok (.putfield 281, 3) := by decide +kernel
theorem dX8_readsText_62 : decode cX8_readsText 62 = .ok (.return_, 1) := by decide +kernel
theorem dX8_keepsOld_0 : decode cX8_keepsOld 0 = .ok (.iconst 0, 1) := by decide +kernel
theorem dX8_keepsOld_1 : decode cX8_keepsOld 1 = .ok (.istore_n 1, 1) := by decide +kernel
theorem dX8_keepsOld_2 : decode cX8_keepsOld 2 = .ok (.iload_n 1, 1) := by decide +kernel
theorem dX8_keepsOld_3 : decode cX8_keepsOld 3 = .ok (.aload_n 0, 1) := by decide +kernel
theorem dX8_keepsOld_4 : decode cX8_keepsOld 4 = .ok (.getfield 174, 3) := by decide +kernel
theorem dX8_keepsOld_7 : decode cX8_keepsOld 7 = .ok (.if_icmp .gt 85, 3) := by decide +kernel
theorem dX8_keepsOld_10 : decode cX8_keepsOld 10 = .ok (.aload_n 0, 1) := by decide +kernel
theorem dX8_keepsOld_11 : decode cX8_keepsOld 11 = .ok (.getfield 113, 3) := by decide +kernel
theorem dX8_keepsOld_14 : decode cX8_keepsOld 14 = .ok (.iload_n 1, 1) := by decide +kernel
theorem dX8_keepsOld_15 : decode cX8_keepsOld 15 = .ok (.aload_n 0, 1) := by decide +kernel
theorem dX8_keepsOld_16 : decode cX8_keepsOld 16 = .ok (.getfield 101, 3) := by decide +kernel
theorem dX8_keepsOld_19 : decode cX8_keepsOld 19 = .ok (.iload_n 1, 1) := by decide +kernel
theorem dX8_keepsOld_20 : decode cX8_keepsOld 20 = .ok (.iaload, 1) := by decide +kernel
theorem dX8_keepsOld_21 : decode cX8_keepsOld 21 = .ok (.iastore, 1) := by decide +kernel
theorem dX8_keepsOld_22 : decode cX8_keepsOld 22 = .ok (.aload_n 0, 1) := by decide +kernel
theorem dX8_keepsOld_23 : decode cX8_keepsOld 23 = .ok (.getfield 119, 3) := by decide +kernel
theorem dX8_keepsOld_26 : decode cX8_keepsOld 26 = .ok (.iload_n 1, 1) := by decide +kernel
theorem dX8_keepsOld_27 : decode cX8_keepsOld 27 = .ok (.aload_n 0, 1) := by decide +kernel
theorem dX8_keepsOld_28 : decode cX8_keepsOld 28 = .ok (.getfield 107, 3) := by decide +kernel
theorem dX8_keepsOld_31 : decode cX8_keepsOld 31 = .ok (.iload_n 1, 1) := by decide +kernel
theorem dX8_keepsOld_32 : decode cX8_keepsOld 32 = .ok (.iaload, 1) := by decide +kernel
theorem dX8_keepsOld_33 : decode cX8_keepsOld 33 = .ok (.iastore, 1) := by decide +kernel
theorem dX8_keepsOld_34 : decode cX8_keepsOld 34 = .ok (.aload_n 0, 1) := by decide +kernel
theorem dX8_keepsOld_35 : decode cX8_keepsOld 35 = .ok (.getfield 122, 3) := by decide +kernel
theorem dX8_keepsOld_38 : decode cX8_keepsOld 38 = .ok (.iload_n 1, 1) := by decide +kernel
theorem dX8_keepsOld_39 : decode cX8_keepsOld 39 = .ok (.aload_n 0, 1) := by decide +kernel
theorem dX8_keepsOld_40 : decode cX8_keepsOld 40 = .ok (.getfield 110, 3) := by decide +kernel
theorem dX8_keepsOld_43 : decode cX8_keepsOld 43 = .ok (.iload_n 1, 1) := by decide +kernel
theorem dX8_keepsOld_44 : decode cX8_keepsOld 44 = .ok (.iaload, 1) := by decide +kernel
theorem dX8_keepsOld_45 : decode cX8_keepsOld 45 = .ok (.iastore, 1) := by decide +kernel
theorem dX8_keepsOld_46 : decode cX8_keepsOld 46 = .ok (.iconst 0, 1) := by decide +kernel
theorem dX8_keepsOld_47 : decode cX8_keepsOld 47 = .ok (.istore_n 2, 1) := by decide +kernel
theorem dX8_keepsOld_48 : decode cX8_keepsOld 48 = .ok (.iload_n 2, 1) := by decide +kernel
theorem dX8_keepsOld_49 : decode cX8_keepsOld 49 = .ok (.aload_n 0, 1) := by decide +kernel
theorem dX8_keepsOld_50 : decode cX8_keepsOld 50 = .ok (.getfield 101, 3) := by decide +kernel
theorem dX8_keepsOld_53 : decode cX8_keepsOld 53 = .ok (.iload_n 1, 1) := by decide +kernel
theorem dX8_keepsOld_54 : decode cX8_keepsOld 54 = .ok (.iaload, 1) := by decide +kernel
theorem dX8_keepsOld_55 : decode cX8_keepsOld 55 = .ok (.if_icmp .ge 31, 3) := by decide +kernel
theorem dX8_keepsOld_58 : decode cX8_keepsOld 58 = .ok (.aload_n 0, 1) := by decide +kernel
theorem dX8_keepsOld_59 : decode cX8_keepsOld 59 = .ok (.getfield 116, 3) := by decide +kernel
theorem dX8_keepsOld_62 : decode cX8_keepsOld 62 = .ok (.bipush 20, 2) := by decide +kernel
theorem dX8_keepsOld_64 : decode cX8_keepsOld 64 = .ok (.iload_n 1, 1) := by decide +kernel
theorem dX8_keepsOld_65 : decode cX8_keepsOld 65 = .ok (.imul, 1) := by decide +kernel
theorem dX8_keepsOld_66 : decode cX8_keepsOld 66 = .ok (.iload_n 2, 1) := by decide +kernel
theorem dX8_keepsOld_67 : decode cX8_keepsOld 67 = .ok (.iadd, 1) := by decide +kernel
theorem dX8_keepsOld_68 : decode cX8_keepsOld 68 = .ok (.aload_n 0, 1) := by decide +kernel
theorem dX8_keepsOld_69 : decode cX8_keepsOld 69 = .ok (.getfield 104, 3) := by decide +kernel
theorem dX8_keepsOld_72 : decode cX8_keepsOld 72 = .ok (.bipush 20, 2) := by decide +kernel
theorem dX8_keepsOld_74 : decode cX8_keepsOld 74 = .ok (.iload_n 1, 1) := by decide +kernel
theorem dX8_keepsOld_75 : decode cX8_keepsOld 75 = .ok (.imul, 1) := by decide +kernel
theorem dX8_keepsOld_76 : decode cX8_keepsOld 76 = .ok (.iload_n 2, 1) := by decide +kernel
theorem dX8_keepsOld_77 : decode cX8_keepsOld 77 = .ok (.iadd, 1) := by decide +kernel
theorem dX8_keepsOld_78 : decode cX8_keepsOld 78 = .ok (.iaload, 1) := by decide +kernel
theorem dX8_keepsOld_79 : decode cX8_keepsOld 79 = .ok (.iastore, 1) := by decide +kernel
theorem dX8_keepsOld_80 : decode cX8_keepsOld 80 = .ok (.iinc 2 1, 3) := by decide +kernel
theorem dX8_keepsOld_83 : decode cX8_keepsOld 83 = .ok (.goto (-35), 3) := by decide +kernel
theorem dX8_keepsOld_86 : decode cX8_keepsOld 86 = .ok (.iinc 1 1, 3) := by decide +kernel
theorem dX8_keepsOld_89 : decode cX8_keepsOld 89 = .ok (.goto (-87), 3) := by decide +kernel
theorem dX8_keepsOld_92 : decode cX8_keepsOld 92 = .ok (.return_, 1) := by decide +kernel
theorem dX8_isAsBefore_0 : decode cX8_isAsBefore 0 = .ok (.aload_n 0, 1) := by decide +kernel
theorem dX8_isAsBefore_1 : decode cX8_isAsBefore 1 = .ok (.getfield 110, 3) := by decide +kernel
theorem dX8_isAsBefore_4 : decode cX8_isAsBefore 4 = .ok (.iload_n 1, 1) := by decide +kernel
theorem dX8_isAsBefore_5 : decode cX8_isAsBefore 5 = .ok (.iaload, 1) := by decide +kernel
theorem dX8_isAsBefore_6 : decode cX8_isAsBefore 6 = .ok (.ifCond .ne 46, 3) := by decide +kernel
theorem dX8_isAsBefore_9 : decode cX8_isAsBefore 9 = .ok (.aload_n 0, 1) := by decide +kernel
theorem dX8_isAsBefore_10 : decode cX8_isAsBefore 10 = .ok (.getfield 122, 3) := by decide +kernel
theorem dX8_isAsBefore_13 : decode cX8_isAsBefore 13 = .ok (.iload_n 2, 1) := by decide +kernel
theorem dX8_isAsBefore_14 : decode cX8_isAsBefore 14 = .ok (.iaload, 1) := by decide +kernel
theorem dX8_isAsBefore_15 : decode cX8_isAsBefore 15 = .ok (.ifCond .ne 37, 3) := by decide +kernel
theorem dX8_isAsBefore_18 : decode cX8_isAsBefore 18 = .ok (.aload_n 0, 1) := by decide +kernel
theorem dX8_isAsBefore_19 : decode cX8_isAsBefore 19 = .ok (.getfield 101, 3) := by decide +kernel
theorem dX8_isAsBefore_22 : decode cX8_isAsBefore 22 = .ok (.iload_n 1, 1) := by decide +kernel
theorem dX8_isAsBefore_23 : decode cX8_isAsBefore 23 = .ok (.iaload, 1) := by decide +kernel
theorem dX8_isAsBefore_24 : decode cX8_isAsBefore 24 = .ok (.aload_n 0, 1) := by decide +kernel
theorem dX8_isAsBefore_25 : decode cX8_isAsBefore 25 = .ok (.getfield 113, 3) := by decide +kernel
theorem dX8_isAsBefore_28 : decode cX8_isAsBefore 28 = .ok (.iload_n 2, 1) := by decide +kernel
theorem dX8_isAsBefore_29 : decode cX8_isAsBefore 29 = .ok (.iaload, 1) := by decide +kernel
theorem dX8_isAsBefore_30 : decode cX8_isAsBefore 30 = .ok (.if_icmp .ne 22, 3) := by decide +kernel
theorem dX8_isAsBefore_33 : decode cX8_isAsBefore 33 = .ok (.aload_n 0, 1) := by decide +kernel
theorem dX8_isAsBefore_34 : decode cX8_isAsBefore 34 = .ok (.getfield 107, 3) := by decide +kernel
theorem dX8_isAsBefore_37 : decode cX8_isAsBefore 37 = .ok (.iload_n 1, 1) := by decide +kernel
theorem dX8_isAsBefore_38 : decode cX8_isAsBefore 38 = .ok (.iaload, 1) := by decide +kernel
theorem dX8_isAsBefore_39 : decode cX8_isAsBefore 39 = .ok (.aload_n 0, 1) := by decide +kernel
theorem dX8_isAsBefore_40 : decode cX8_isAsBefore 40 = .ok (.getfield 119, 3) := by decide +kernel
theorem dX8_isAsBefore_43 : decode cX8_isAsBefore 43 = .ok (.iload_n 2, 1) := by decide +kernel
theorem dX8_isAsBefore_44 : decode cX8_isAsBefore 44 = .ok (.iaload, 1) := by decide +kernel
theorem dX8_isAsBefore_45 : decode cX8_isAsBefore 45 = .ok (.if_icmp .ne 7, 3) := by decide +kernel
theorem dX8_isAsBefore_48 : decode cX8_isAsBefore 48 = .ok (.iconst 1, 1) := by decide +kernel
theorem dX8_isAsBefore_49 : decode cX8_isAsBefore 49 = .ok (.goto 4, 3) := by decide +kernel
theorem dX8_isAsBefore_52 : decode cX8_isAsBefore 52 = .ok (.iconst 0, 1) := by decide +kernel
theorem dX8_isAsBefore_53 : decode cX8_isAsBefore 53 = .ok (.istore_n 3, 1) := by decide +kernel
theorem dX8_isAsBefore_54 : decode cX8_isAsBefore 54 = .ok (.iconst 0, 1) := by decide +kernel
theorem dX8_isAsBefore_55 : decode cX8_isAsBefore 55 = .ok (.istore 4, 2) := by decide +kernel
theorem dX8_isAsBefore_57 : decode cX8_isAsBefore 57 = .ok (.iload_n 3, 1) := by decide +kernel
theorem dX8_isAsBefore_58 : decode cX8_isAsBefore 58 = .ok (.ifCond .eq 53, 3) := by decide +kernel
theorem dX8_isAsBefore_61 : decode cX8_isAsBefore 61 = .ok (.iload 4, 2) := by decide +kernel
theorem dX8_isAsBefore_63 : decode cX8_isAsBefore 63 = .ok (.aload_n 0, 1) := by decide +kernel
theorem dX8_isAsBefore_64 : decode cX8_isAsBefore 64 = .ok (.getfield 101, 3) := by decide +kernel
theorem dX8_isAsBefore_67 : decode cX8_isAsBefore 67 = .ok (.iload_n 1, 1) := by decide +kernel
theorem dX8_isAsBefore_68 : decode cX8_isAsBefore 68 = .ok (.iaload, 1) := by decide +kernel
theorem dX8_isAsBefore_69 : decode cX8_isAsBefore 69 = .ok (.if_icmp .ge 42, 3) := by decide +kernel
theorem dX8_isAsBefore_72 : decode cX8_isAsBefore 72 = .ok (.aload_n 0, 1) := by decide +kernel
theorem dX8_isAsBefore_73 : decode cX8_isAsBefore 73 = .ok (.getfield 104, 3) := by decide +kernel
theorem dX8_isAsBefore_76 : decode cX8_isAsBefore 76 = .ok (.bipush 20, 2) := by decide +kernel
theorem dX8_isAsBefore_78 : decode cX8_isAsBefore 78 = .ok (.iload_n 1, 1) := by decide +kernel
theorem dX8_isAsBefore_79 : decode cX8_isAsBefore 79 = .ok (.imul, 1) := by decide +kernel
theorem dX8_isAsBefore_80 : decode cX8_isAsBefore 80 = .ok (.iload 4, 2) := by decide +kernel
theorem dX8_isAsBefore_82 : decode cX8_isAsBefore 82 = .ok (.iadd, 1) := by decide +kernel
theorem dX8_isAsBefore_83 : decode cX8_isAsBefore 83 = .ok (.iaload, 1) := by decide +kernel
theorem dX8_isAsBefore_84 : decode cX8_isAsBefore 84 = .ok (.aload_n 0, 1) := by decide +kernel
theorem dX8_isAsBefore_85 : decode cX8_isAsBefore 85 = .ok (.getfield 116, 3) := by decide +kernel
theorem dX8_isAsBefore_88 : decode cX8_isAsBefore 88 = .ok (.bipush 20, 2) := by decide +kernel
theorem dX8_isAsBefore_90 : decode cX8_isAsBefore 90 = .ok (.iload_n 2, 1) := by decide +kernel
theorem dX8_isAsBefore_91 : decode cX8_isAsBefore 91 = .ok (.imul, 1) := by decide +kernel
theorem dX8_isAsBefore_92 : decode cX8_isAsBefore 92 = .ok (.iload 4, 2) := by decide +kernel
theorem dX8_isAsBefore_94 : decode cX8_isAsBefore 94 = .ok (.iadd, 1) := by decide +kernel
theorem dX8_isAsBefore_95 : decode cX8_isAsBefore 95 = .ok (.iaload, 1) := by decide +kernel
theorem dX8_isAsBefore_96 : decode cX8_isAsBefore 96 = .ok (.if_icmp .ne 7, 3) := by decide +kernel
theorem dX8_isAsBefore_99 : decode cX8_isAsBefore 99 = .ok (.iconst 1, 1) := by decide +kernel
theorem dX8_isAsBefore_100 : decode cX8_isAsBefore 100 = .ok (.goto 4, 3) := by decide +kernel
theorem dX8_isAsBefore_103 : decode cX8_isAsBefore 103 = .ok (.iconst 0, 1) := by decide +kernel
theorem dX8_isAsBefore_104 : decode cX8_isAsBefore 104 = .ok (.istore_n 3, 1) := by decide +kernel
theorem dX8_isAsBefore_105 : decode cX8_isAsBefore 105 = .ok (.iinc 4 1, 3) := by decide +kernel
theorem dX8_isAsBefore_108 : decode cX8_isAsBefore 108 = .ok (.goto (-51), 3) := by decide +kernel
theorem dX8_isAsBefore_111 : decode cX8_isAsBefore 111 = .ok (.iload_n 3, 1) := by decide +kernel
theorem dX8_isAsBefore_112 : decode cX8_isAsBefore 112 = .ok (.ireturn, 1) := by decide +kernel
theorem dX8_tells_0 : decode cX8_tells 0 = .ok (.iload_n 1, 1) := by decide +kernel
theorem dX8_tells_1 : decode cX8_tells 1 = .ok (.ifCond .le 21, 3) := by decide +kernel
theorem dX8_tells_4 : decode cX8_tells 4 = .ok (.aload_n 0, 1) := by decide +kernel
theorem dX8_tells_5 : decode cX8_tells 5 = .ok (.getfield 44, 3) := by decide +kernel
theorem dX8_tells_8 : decode cX8_tells 8 = .ok (.iload_n 1, 1) := by decide +kernel
theorem dX8_tells_9 : decode cX8_tells 9 = .ok (.iconst 1, 1) := by decide +kernel
theorem dX8_tells_10 : decode cX8_tells 10 = .ok (.isub, 1) := by decide +kernel
theorem dX8_tells_11 : decode cX8_tells 11 = .ok (.iaload, 1) := by decide +kernel
theorem dX8_tells_12 : decode cX8_tells 12 = .ok (.iconst 5, 1) := by decide +kernel
theorem dX8_tells_13 : decode cX8_tells 13 = .ok (.if_icmp .ne 9, 3) := by decide +kernel
theorem dX8_tells_16 : decode cX8_tells 16 = .ok (.iload_n 1, 1) := by decide +kernel
theorem dX8_tells_17 : decode cX8_tells 17 = .ok (.iconst 1, 1) := by decide +kernel
theorem dX8_tells_18 : decode cX8_tells 18 = .ok (.isub, 1) := by decide +kernel
theorem dX8_tells_19 : decode cX8_tells 19 = .ok (.goto 4, 3) := by decide +kernel
theorem dX8_tells_22 : decode cX8_tells 22 = .ok (.iload_n 1, 1) := by decide +kernel
theorem dX8_tells_23 : decode cX8_tells 23 = .ok (.istore_n 3, 1) := by decide +kernel
theorem dX8_tells_24 : decode cX8_tells 24 = .ok (.iload_n 2, 1) := by decide +kernel
theorem dX8_tells_25 : decode cX8_tells 25 = .ok (.ifCond .le 9, 3) := by decide +kernel
theorem dX8_tells_28 : decode cX8_tells 28 = .ok (.iload_n 1, 1) := by decide +kernel
theorem dX8_tells_29 : decode cX8_tells 29 = .ok (.iconst 1, 1) := by decide +kernel
theorem dX8_tells_30 : decode cX8_tells 30 = .ok (.iadd, 1) := by decide +kernel
theorem dX8_tells_31 : decode cX8_tells 31 = .ok (.goto 4, 3) := by decide +kernel
theorem dX8_tells_34 : decode cX8_tells 34 = .ok (.iload_n 1, 1) := by decide +kernel
theorem dX8_tells_35 : decode cX8_tells 35 = .ok (.istore 4, 2) := by decide +kernel
theorem dX8_tells_37 : decode cX8_tells 37 = .ok (.iload 4, 2) := by decide +kernel
theorem dX8_tells_39 : decode cX8_tells 39 = .ok (.aload_n 0, 1) := by decide +kernel
theorem dX8_tells_40 : decode cX8_tells 40 = .ok (.getfield 174, 3) := by decide +kernel
theorem dX8_tells_43 : decode cX8_tells 43 = .ok (.if_icmp .ge 21, 3) := by decide +kernel
theorem dX8_tells_46 : decode cX8_tells 46 = .ok (.aload_n 0, 1) := by decide +kernel
theorem dX8_tells_47 : decode cX8_tells 47 = .ok (.getfield 44, 3) := by decide +kernel
theorem dX8_tells_50 : decode cX8_tells 50 = .ok (.iload 4, 2) := by decide +kernel
theorem dX8_tells_52 : decode cX8_tells 52 = .ok (.iaload, 1) := by decide +kernel
theorem dX8_tells_53 : decode cX8_tells 53 = .ok (.iconst 5, 1) := by decide +kernel
theorem dX8_tells_54 : decode cX8_tells 54 = .ok (.if_icmp .ne 10, 3) := by decide +kernel
theorem dX8_tells_57 : decode cX8_tells 57 = .ok (.iload 4, 2) := by decide +kernel
theorem dX8_tells_59 : decode cX8_tells 59 = .ok (.iconst 1, 1) := by decide +kernel
theorem dX8_tells_60 : decode cX8_tells 60 = .ok (.iadd, 1) := by decide +kernel
theorem dX8_tells_61 : decode cX8_tells 61 = .ok (.goto 5, 3) := by decide +kernel
theorem dX8_tells_64 : decode cX8_tells 64 = .ok (.iload 4, 2) := by decide +kernel
theorem dX8_tells_66 : decode cX8_tells 66 = .ok (.istore 5, 2) := by decide +kernel
theorem dX8_tells_68 : decode cX8_tells 68 = .ok (.iload 5, 2) := by decide +kernel
theorem dX8_tells_70 : decode cX8_tells 70 = .ok (.aload_n 0, 1) := by decide +kernel
theorem dX8_tells_71 : decode cX8_tells 71 = .ok (.getfield 174, 3) := by decide +kernel
theorem dX8_tells_74 : decode cX8_tells 74 = .ok (.if_icmp .ge 22, 3) := by decide +kernel
theorem dX8_tells_77 : decode cX8_tells 77 = .ok (.aload_n 0, 1) := by decide +kernel
theorem dX8_tells_78 : decode cX8_tells 78 = .ok (.iload 5, 2) := by decide +kernel
theorem dX8_tells_80 : decode cX8_tells 80 = .ok (.iload 5, 2) := by decide +kernel
theorem dX8_tells_82 : decode cX8_tells 82 = .ok (.iload_n 2, 1) := by decide +kernel
theorem dX8_tells_83 : decode cX8_tells 83 = .ok (.isub, 1) := by decide +kernel
theorem dX8_tells_84 : decode cX8_tells 84 = .ok (.invokevirtual 293, 3) := by decide +kernel
theorem dX8_tells_87 : decode cX8_tells 87 = .ok (.ifCond .ne 9, 3) := by decide +kernel
theorem dX8_tells_90 : decode cX8_tells 90 = .ok (.iinc 5 1, 3) := by decide +kernel
theorem dX8_tells_93 : decode cX8_tells 93 = .ok (.goto (-25), 3) := by decide +kernel
theorem dX8_tells_96 : decode cX8_tells 96 = .ok (.aload_n 0, 1) := by decide +kernel
theorem dX8_tells_97 : decode cX8_tells 97 = .ok (.iload 5, 2) := by decide +kernel
theorem dX8_tells_99 : decode cX8_tells 99 = .ok (.iload_n 3, 1) := by decide +kernel
theorem dX8_tells_100 : decode cX8_tells 100 = .ok (.isub, 1) := by decide +kernel
theorem dX8_tells_101 : decode cX8_tells 101 = .ok (.putfield 177, 3) := by decide +kernel
theorem dX8_tells_104 : decode cX8_tells 104 = .ok (.return_, 1) := by decide +kernel
theorem dX8_insert_0 : decode cX8_insert 0 = .ok (.aload_n 0, 1) := by decide +kernel
theorem dX8_insert_1 : decode cX8_insert 1 = .ok (.iload_n 1, 1) := by decide +kernel
theorem dX8_insert_2 : decode cX8_insert 2 = .ok (.iconst 0, 1) := by decide +kernel
theorem dX8_insert_3 : decode cX8_insert 3 = .ok (.aload_n 0, 1) := by decide +kernel
theorem dX8_insert_4 : decode cX8_insert 4 = .ok (.getfield 174, 3) := by decide +kernel
theorem dX8_insert_7 : decode cX8_insert 7 = .ok (.invokestatic 159, 3) := by decide +kernel
theorem dX8_insert_10 : decode cX8_insert 10 = .ok (.iload_n 2, 1) := by decide +kernel
theorem dX8_insert_11 : decode cX8_insert 11 = .ok (.iload_n 3, 1) := by decide +kernel
theorem dX8_insert_12 : decode cX8_insert 12 = .ok (.invokestatic 180, 3) := by decide +kernel
theorem dX8_insert_15 : decode cX8_insert 15 = .ok (.aload_n 0, 1) := by decide +kernel
theorem dX8_insert_16 : decode cX8_insert 16 = .ok (.getfield 174, 3) := by decide +kernel
theorem dX8_insert_19 : decode cX8_insert 19 = .ok (.bipush 60, 2) := by decide +kernel
theorem dX8_insert_21 : decode cX8_insert 21 = .ok (.if_icmp .ge 7, 3) := by decide +kernel
theorem dX8_insert_24 : decode cX8_insert 24 = .ok (.iconst 1, 1) := by decide +kernel
theorem dX8_insert_25 : decode cX8_insert 25 = .ok (.goto 4, 3) := by decide +kernel
theorem dX8_insert_28 : decode cX8_insert 28 = .ok (.iconst 0, 1) := by decide +kernel
theorem dX8_insert_29 : decode cX8_insert 29 = .ok (.invokevirtual 163, 3) := by decide +kernel
theorem dX8_insert_32 : decode cX8_insert 32 = .ok (.ifCond .ne 5, 3) := by decide +kernel
theorem dX8_insert_35 : decode cX8_insert 35 = .ok (.iconst 0, 1) := by decide +kernel
theorem dX8_insert_36 : decode cX8_insert 36 = .ok (.ireturn, 1) := by decide +kernel
theorem dX8_insert_37 : decode cX8_insert 37 = .ok (.aload_n 0, 1) := by decide +kernel
theorem dX8_insert_38 : decode cX8_insert 38 = .ok (.invokevirtual 296, 3) := by decide +kernel
theorem dX8_insert_41 : decode cX8_insert 41 = .ok (.aload_n 0, 1) := by decide +kernel
theorem dX8_insert_42 : decode cX8_insert 42 = .ok (.getfield 174, 3) := by decide +kernel
theorem dX8_insert_45 : decode cX8_insert 45 = .ok (.istore 4, 2) := by decide +kernel
theorem dX8_insert_47 : decode cX8_insert 47 = .ok (.iload 4, 2) := by decide +kernel
theorem dX8_insert_49 : decode cX8_insert 49 = .ok (.iload_n 1, 1) := by decide +kernel
theorem dX8_insert_50 : decode cX8_insert 50 = .ok (.if_icmp .le 41, 3) := by decide +kernel
theorem dX8_insert_53 : decode cX8_insert 53 = .ok (.aload_n 0, 1) := by decide +kernel
theorem dX8_insert_54 : decode cX8_insert 54 = .ok (.getfield 44, 3) := by decide +kernel
theorem dX8_insert_57 : decode cX8_insert 57 = .ok (.iload 4, 2) := by decide +kernel
theorem dX8_insert_59 : decode cX8_insert 59 = .ok (.aload_n 0, 1) := by decide +kernel
theorem dX8_insert_60 : decode cX8_insert 60 = .ok (.getfield 44, 3) := by decide +kernel
theorem dX8_insert_63 : decode cX8_insert 63 = .ok (.iload 4, 2) := by decide +kernel
theorem dX8_insert_65 : decode cX8_insert 65 = .ok (.iconst 1, 1) := by decide +kernel
theorem dX8_insert_66 : decode cX8_insert 66 = .ok (.isub, 1) := by decide +kernel
theorem dX8_insert_67 : decode cX8_insert 67 = .ok (.iaload, 1) := by decide +kernel
theorem dX8_insert_68 : decode cX8_insert 68 = .ok (.iastore, 1) := by decide +kernel
theorem dX8_insert_69 : decode cX8_insert 69 = .ok (.aload_n 0, 1) := by decide +kernel
theorem dX8_insert_70 : decode cX8_insert 70 = .ok (.getfield 47, 3) := by decide +kernel
theorem dX8_insert_73 : decode cX8_insert 73 = .ok (.iload 4, 2) := by decide +kernel
theorem dX8_insert_75 : decode cX8_insert 75 = .ok (.aload_n 0, 1) := by decide +kernel
theorem dX8_insert_76 : decode cX8_insert 76 = .ok (.getfield 47, 3) := by decide +kernel
theorem dX8_insert_79 : decode cX8_insert 79 = .ok (.iload 4, 2) := by decide +kernel
theorem dX8_insert_81 : decode cX8_insert 81 = .ok (.iconst 1, 1) := by decide +kernel
theorem dX8_insert_82 : decode cX8_insert 82 = .ok (.isub, 1) := by decide +kernel
theorem dX8_insert_83 : decode cX8_insert 83 = .ok (.iaload, 1) := by decide +kernel
theorem dX8_insert_84 : decode cX8_insert 84 = .ok (.iastore, 1) := by decide +kernel
theorem dX8_insert_85 : decode cX8_insert 85 = .ok (.iinc 4 (-1), 3) := by decide +kernel
theorem dX8_insert_88 : decode cX8_insert 88 = .ok (.goto (-41), 3) := by decide +kernel
theorem dX8_insert_91 : decode cX8_insert 91 = .ok (.aload_n 0, 1) := by decide +kernel
theorem dX8_insert_92 : decode cX8_insert 92 = .ok (.getfield 44, 3) := by decide +kernel
theorem dX8_insert_95 : decode cX8_insert 95 = .ok (.iload_n 1, 1) := by decide +kernel
theorem dX8_insert_96 : decode cX8_insert 96 = .ok (.iload_n 2, 1) := by decide +kernel
theorem dX8_insert_97 : decode cX8_insert 97 = .ok (.iastore, 1) := by decide +kernel
theorem dX8_insert_98 : decode cX8_insert 98 = .ok (.aload_n 0, 1) := by decide +kernel
theorem dX8_insert_99 : decode cX8_insert 99 = .ok (.getfield 47, 3) := by decide +kernel
theorem dX8_insert_102 : decode cX8_insert 102 = .ok (.iload_n 1, 1) := by decide +kernel
theorem dX8_insert_103 : decode cX8_insert 103 = .ok (.iload_n 3, 1) := by decide +kernel
theorem dX8_insert_104 : decode cX8_insert 104 = .ok (.iastore, 1) := by decide +kernel
theorem dX8_insert_105 : decode cX8_insert 105 = .ok (.aload_n 0, 1) := by decide +kernel
theorem dX8_insert_106 : decode cX8_insert 106 = .ok (.dup, 1) := by decide +kernel
theorem dX8_insert_107 : decode cX8_insert 107 = .ok (.getfield 174, 3) := by decide +kernel
theorem dX8_insert_110 : decode cX8_insert 110 = .ok (.iconst 1, 1) := by decide +kernel
theorem dX8_insert_111 : decode cX8_insert 111 = .ok (.iadd, 1) := by decide +kernel
theorem dX8_insert_112 : decode cX8_insert 112 = .ok (.putfield 174, 3) := by decide +kernel
theorem dX8_insert_115 : decode cX8_insert 115 = .ok (.aload_n 0, 1) := by decide +kernel
theorem dX8_insert_116 : decode cX8_insert 116 = .ok (.invokevirtual 140, 3) := by decide +kernel
theorem dX8_insert_119 : decode cX8_insert 119 = .ok (.aload_n 0, 1) := by decide +kernel
theorem dX8_insert_120 : decode cX8_insert 120 = .ok (.iload_n 1, 1) := by decide +kernel
theorem dX8_insert_121 : decode cX8_insert 121 = .ok (.iconst 1, 1) := by decide +kernel
theorem dX8_insert_122 : decode cX8_insert 122 = .ok (.invokevirtual 299, 3) := by decide +kernel
theorem dX8_insert_125 : decode cX8_insert 125 = .ok (.aload_n 0, 1) := by decide +kernel
theorem dX8_insert_126 : decode cX8_insert 126 = .ok (.getfield 174, 3) := by decide +kernel
theorem dX8_insert_129 : decode cX8_insert 129 = .ok (.ireturn, 1) := by decide +kernel
theorem dX8_erase_0 : decode cX8_erase 0 = .ok (.aload_n 0, 1) := by decide +kernel
theorem dX8_erase_1 : decode cX8_erase 1 = .ok (.iload_n 1, 1) := by decide +kernel
theorem dX8_erase_2 : decode cX8_erase 2 = .ok (.iconst 0, 1) := by decide +kernel
theorem dX8_erase_3 : decode cX8_erase 3 = .ok (.aload_n 0, 1) := by decide +kernel
theorem dX8_erase_4 : decode cX8_erase 4 = .ok (.getfield 174, 3) := by decide +kernel
theorem dX8_erase_7 : decode cX8_erase 7 = .ok (.iconst 1, 1) := by decide +kernel
theorem dX8_erase_8 : decode cX8_erase 8 = .ok (.isub, 1) := by decide +kernel
theorem dX8_erase_9 : decode cX8_erase 9 = .ok (.invokestatic 159, 3) := by decide +kernel
theorem dX8_erase_12 : decode cX8_erase 12 = .ok (.iconst 1, 1) := by decide +kernel
theorem dX8_erase_13 : decode cX8_erase 13 = .ok (.iconst 1, 1) := by decide +kernel
theorem dX8_erase_14 : decode cX8_erase 14 = .ok (.invokevirtual 163, 3) := by decide +kernel
theorem dX8_erase_17 : decode cX8_erase 17 = .ok (.ifCond .ne 5, 3) := by decide +kernel
theorem dX8_erase_20 : decode cX8_erase 20 = .ok (.iconst 0, 1) := by decide +kernel
theorem dX8_erase_21 : decode cX8_erase 21 = .ok (.ireturn, 1) := by decide +kernel
theorem dX8_erase_22 : decode cX8_erase 22 = .ok (.aload_n 0, 1) := by decide +kernel
theorem dX8_erase_23 : decode cX8_erase 23 = .ok (.invokevirtual 296, 3) := by decide +kernel
theorem dX8_erase_26 : decode cX8_erase 26 = .ok (.iload_n 1, 1) := by decide +kernel
theorem dX8_erase_27 : decode cX8_erase 27 = .ok (.istore_n 2, 1) := by decide +kernel
theorem dX8_erase_28 : decode cX8_erase 28 = .ok (.iload_n 2, 1) := by decide +kernel
theorem dX8_erase_29 : decode cX8_erase 29 = .ok (.iconst 1, 1) := by decide +kernel
theorem dX8_erase_30 : decode cX8_erase 30 = .ok (.iadd, 1) := by decide +kernel
theorem dX8_erase_31 : decode cX8_erase 31 = .ok (.aload_n 0, 1) := by decide +kernel
theorem dX8_erase_32 : decode cX8_erase 32 = .ok (.getfield 174, 3) := by decide +kernel
theorem dX8_erase_35 : decode cX8_erase 35 = .ok (.if_icmp .ge 37, 3) := by decide +kernel
theorem dX8_erase_38 : decode cX8_erase 38 = .ok (.aload_n 0, 1) := by decide +kernel
theorem dX8_erase_39 : decode cX8_erase 39 = .ok (.getfield 44, 3) := by decide +kernel
theorem dX8_erase_42 : decode cX8_erase 42 = .ok (.iload_n 2, 1) := by decide +kernel
theorem dX8_erase_43 : decode cX8_erase 43 = .ok (.aload_n 0, 1) := by decide +kernel
theorem dX8_erase_44 : decode cX8_erase 44 = .ok (.getfield 44, 3) := by decide +kernel
theorem dX8_erase_47 : decode cX8_erase 47 = .ok (.iload_n 2, 1) := by decide +kernel
theorem dX8_erase_48 : decode cX8_erase 48 = .ok (.iconst 1, 1) := by decide +kernel
theorem dX8_erase_49 : decode cX8_erase 49 = .ok (.iadd, 1) := by decide +kernel
theorem dX8_erase_50 : decode cX8_erase 50 = .ok (.iaload, 1) := by decide +kernel
theorem dX8_erase_51 : decode cX8_erase 51 = .ok (.iastore, 1) := by decide +kernel
theorem dX8_erase_52 : decode cX8_erase 52 = .ok (.aload_n 0, 1) := by decide +kernel
theorem dX8_erase_53 : decode cX8_erase 53 = .ok (.getfield 47, 3) := by decide +kernel
theorem dX8_erase_56 : decode cX8_erase 56 = .ok (.iload_n 2, 1) := by decide +kernel
theorem dX8_erase_57 : decode cX8_erase 57 = .ok (.aload_n 0, 1) := by decide +kernel
theorem dX8_erase_58 : decode cX8_erase 58 = .ok (.getfield 47, 3) := by decide +kernel
theorem dX8_erase_61 : decode cX8_erase 61 = .ok (.iload_n 2, 1) := by decide +kernel
theorem dX8_erase_62 : decode cX8_erase 62 = .ok (.iconst 1, 1) := by decide +kernel
theorem dX8_erase_63 : decode cX8_erase 63 = .ok (.iadd, 1) := by decide +kernel
theorem dX8_erase_64 : decode cX8_erase 64 = .ok (.iaload, 1) := by decide +kernel
theorem dX8_erase_65 : decode cX8_erase 65 = .ok (.iastore, 1) := by decide +kernel
theorem dX8_erase_66 : decode cX8_erase 66 = .ok (.iinc 2 1, 3) := by decide +kernel
theorem dX8_erase_69 : decode cX8_erase 69 = .ok (.goto (-41), 3) := by decide +kernel
theorem dX8_erase_72 : decode cX8_erase 72 = .ok (.aload_n 0, 1) := by decide +kernel
theorem dX8_erase_73 : decode cX8_erase 73 = .ok (.dup, 1) := by decide +kernel
theorem dX8_erase_74 : decode cX8_erase 74 = .ok (.getfield 174, 3) := by decide +kernel
theorem dX8_erase_77 : decode cX8_erase 77 = .ok (.iconst 1, 1) := by decide +kernel
theorem dX8_erase_78 : decode cX8_erase 78 = .ok (.isub, 1) := by decide +kernel
theorem dX8_erase_79 : decode cX8_erase 79 = .ok (.putfield 174, 3) := by decide +kernel
theorem dX8_erase_82 : decode cX8_erase 82 = .ok (.aload_n 0, 1) := by decide +kernel
theorem dX8_erase_83 : decode cX8_erase 83 = .ok (.invokevirtual 140, 3) := by decide +kernel
theorem dX8_erase_86 : decode cX8_erase 86 = .ok (.aload_n 0, 1) := by decide +kernel
theorem dX8_erase_87 : decode cX8_erase 87 = .ok (.iload_n 1, 1) := by decide +kernel
theorem dX8_erase_88 : decode cX8_erase 88 = .ok (.iconst (-1), 1) := by decide +kernel
theorem dX8_erase_89 : decode cX8_erase 89 = .ok (.invokevirtual 299, 3) := by decide +kernel
theorem dX8_erase_92 : decode cX8_erase 92 = .ok (.aload_n 0, 1) := by decide +kernel
theorem dX8_erase_93 : decode cX8_erase 93 = .ok (.getfield 174, 3) := by decide +kernel
theorem dX8_erase_96 : decode cX8_erase 96 = .ok (.ireturn, 1) := by decide +kernel
theorem dX8_forms_0 : decode cX8_forms 0 = .ok (.aload_n 0, 1) := by decide +kernel
theorem dX8_forms_1 : decode cX8_forms 1 = .ok (.iconst 0, 1) := by decide +kernel
theorem dX8_forms_2 : decode cX8_forms 2 = .ok (.putfield 302, 3) := by decide +kernel
theorem dX8_forms_5 : decode cX8_forms 5 = .ok (.iconst (-1), 1) := by decide +kernel
theorem dX8_forms_6 : decode cX8_forms 6 = .ok (.istore_n 1, 1) := by decide +kernel
theorem dX8_forms_7 : decode cX8_forms 7 = .ok (.iconst 0, 1) := by decide +kernel
theorem dX8_forms_8 : decode cX8_forms 8 = .ok (.istore_n 2, 1) := by decide +kernel
theorem dX8_forms_9 : decode cX8_forms 9 = .ok (.iload_n 2, 1) := by decide +kernel
theorem dX8_forms_10 : decode cX8_forms 10 = .ok (.aload_n 0, 1) := by decide +kernel
theorem dX8_forms_11 : decode cX8_forms 11 = .ok (.getfield 187, 3) := by decide +kernel
theorem dX8_forms_14 : decode cX8_forms 14 = .ok (.if_icmp .gt 131, 3) := by decide +kernel
theorem dX8_forms_17 : decode cX8_forms 17 = .ok (.iload_n 2, 1) := by decide +kernel
theorem dX8_forms_18 : decode cX8_forms 18 = .ok (.aload_n 0, 1) := by decide +kernel
theorem dX8_forms_19 : decode cX8_forms 19 = .ok (.getfield 187, 3) := by decide +kernel
theorem dX8_forms_22 : decode cX8_forms 22 = .ok (.if_icmp .ge 12, 3) := by decide +kernel
theorem dX8_forms_25 : decode cX8_forms 25 = .ok (.aload_n 0, 1) := by decide +kernel
theorem dX8_forms_26 : decode cX8_forms 26 = .ok (.getfield 71, 3) := by decide +kernel
theorem dX8_forms_29 : decode cX8_forms 29 = .ok (.iload_n 2, 1) := by decide +kernel
theorem dX8_forms_30 : decode cX8_forms 30 = .ok (.iaload, 1) := by decide +kernel
theorem dX8_forms_31 : decode cX8_forms 31 = .ok (.goto 4, 3) := by decide +kernel
theorem dX8_forms_34 : decode cX8_forms 34 = .ok (.iconst (-1), 1) := by decide +kernel
theorem dX8_forms_35 : decode cX8_forms 35 = .ok (.istore_n 3, 1) := by decide +kernel
theorem dX8_forms_36 : decode cX8_forms 36 = .ok (.iload_n 1, 1) := by decide +kernel
theorem dX8_forms_37 : decode cX8_forms 37 = .ok (.iconst (-1), 1) := by decide +kernel
theorem dX8_forms_38 : decode cX8_forms 38 = .ok (.if_icmp .eq 29, 3) := by decide +kernel
theorem dX8_forms_41 : decode cX8_forms 41 = .ok (.iload_n 1, 1) := by decide +kernel
theorem dX8_forms_42 : decode cX8_forms 42 = .ok (.iload_n 3, 1) := by decide +kernel
theorem dX8_forms_43 : decode cX8_forms 43 = .ok (.if_icmp .eq 24, 3) := by decide +kernel
theorem dX8_forms_46 : decode cX8_forms 46 = .ok (.aload_n 0, 1) := by decide +kernel
theorem dX8_forms_47 : decode cX8_forms 47 = .ok (.iconst 1, 1) := by decide +kernel
theorem dX8_forms_48 : decode cX8_forms 48 = .ok (.aload_n 0, 1) := by decide +kernel
theorem dX8_forms_49 : decode cX8_forms 49 = .ok (.getfield 68, 3) := by decide +kernel
theorem dX8_forms_52 : decode cX8_forms 52 = .ok (.iload_n 1, 1) := by decide +kernel
theorem dX8_forms_53 : decode cX8_forms 53 = .ok (.iaload, 1) := by decide +kernel
theorem dX8_forms_54 : decode cX8_forms 54 = .ok (.invokevirtual 305, 3) := by decide +kernel
theorem dX8_forms_57 : decode cX8_forms 57 = .ok (.aload_n 0, 1) := by decide +kernel
theorem dX8_forms_58 : decode cX8_forms 58 = .ok (.getfield 71, 3) := by decide +kernel
theorem dX8_forms_61 : decode cX8_forms 61 = .ok (.iload_n 1, 1) := by decide +kernel
theorem dX8_forms_62 : decode cX8_forms 62 = .ok (.iaload, 1) := by decide +kernel
theorem dX8_forms_63 : decode cX8_forms 63 = .ok (.istore_n 1, 1) := by decide +kernel
theorem dX8_forms_64 : decode cX8_forms 64 = .ok (.goto (-28), 3) := by decide +kernel
theorem dX8_forms_67 : decode cX8_forms 67 = .ok (.iload_n 2, 1) := by decide +kernel
theorem dX8_forms_68 : decode cX8_forms 68 = .ok (.aload_n 0, 1) := by decide +kernel
theorem dX8_forms_69 : decode cX8_forms 69 = .ok (.getfield 187, 3) := by decide +kernel
theorem dX8_forms_72 : decode cX8_forms 72 = .ok (.if_icmp .ge 28, 3) := by decide +kernel
theorem dX8_forms_75 : decode cX8_forms 75 = .ok (.aload_n 0, 1) := by decide +kernel
theorem dX8_forms_76 : decode cX8_forms 76 = .ok (.getfield 68, 3) := by decide +kernel
theorem dX8_forms_79 : decode cX8_forms 79 = .ok (.iload_n 2, 1) := by decide +kernel
theorem dX8_forms_80 : decode cX8_forms 80 = .ok (.iaload, 1) := by decide +kernel
theorem dX8_forms_81 : decode cX8_forms 81 = .ok (.bipush 10, 2) := by decide +kernel
theorem dX8_forms_83 : decode cX8_forms 83 = .ok (.if_icmp .ne 17, 3) := by decide +kernel
theorem dX8_forms_86 : decode cX8_forms 86 = .ok (.aload_n 0, 1) := by decide +kernel
theorem dX8_forms_87 : decode cX8_forms 87 = .ok (.iconst 4, 1) := by decide +kernel
theorem dX8_forms_88 : decode cX8_forms 88 = .ok (.aload_n 0, 1) := by decide +kernel
theorem dX8_forms_89 : decode cX8_forms 89 = .ok (.getfield 74, 3) := by decide +kernel
theorem dX8_forms_92 : decode cX8_forms 92 = .ok (.iload_n 2, 1) := by decide +kernel
theorem dX8_forms_93 : decode cX8_forms 93 = .ok (.iaload, 1) := by decide +kernel
theorem dX8_forms_94 : decode cX8_forms 94 = .ok (.invokevirtual 305, 3) := by decide +kernel
theorem dX8_forms_97 : decode cX8_forms 97 = .ok (.goto 42, 3) := by decide +kernel
theorem dX8_forms_100 : decode cX8_forms 100 = .ok (.iload_n 2, 1) := by decide +kernel
theorem dX8_forms_101 : decode cX8_forms 101 = .ok (.aload_n 0, 1) := by decide +kernel
theorem dX8_forms_102 : decode cX8_forms 102 = .ok (.getfield 187, 3) := by decide +kernel
theorem dX8_forms_105 : decode cX8_forms 105 = .ok (.if_icmp .ge 34, 3) := by decide +kernel
theorem dX8_forms_108 : decode cX8_forms 108 = .ok (.aload_n 0, 1) := by decide +kernel
theorem dX8_forms_109 : decode cX8_forms 109 = .ok (.iconst 0, 1) := by decide +kernel
theorem dX8_forms_110 : decode cX8_forms 110 = .ok (.aload_n 0, 1) := by decide +kernel
theorem dX8_forms_111 : decode cX8_forms 111 = .ok (.getfield 68, 3) := by decide +kernel
theorem dX8_forms_114 : decode cX8_forms 114 = .ok (.iload_n 2, 1) := by decide +kernel
theorem dX8_forms_115 : decode cX8_forms 115 = .ok (.iaload, 1) := by decide +kernel
theorem dX8_forms_116 : decode cX8_forms 116 = .ok (.invokevirtual 305, 3) := by decide +kernel
theorem dX8_forms_119 : decode cX8_forms 119 = .ok (.aload_n 0, 1) := by decide +kernel
theorem dX8_forms_120 : decode cX8_forms 120 = .ok (.getfield 16, 3) := by decide +kernel
theorem dX8_forms_123 : decode cX8_forms 123 = .ok (.aload_n 0, 1) := by decide +kernel
theorem dX8_forms_124 : decode cX8_forms 124 = .ok (.getfield 68, 3) := by decide +kernel
theorem dX8_forms_127 : decode cX8_forms 127 = .ok (.iload_n 2, 1) := by decide +kernel
theorem dX8_forms_128 : decode cX8_forms 128 = .ok (.iaload, 1) := by decide +kernel
theorem dX8_forms_129 : decode cX8_forms 129 = .ok (.iaload, 1) := by decide +kernel
theorem dX8_forms_130 : decode cX8_forms 130 = .ok (.ifCond .le 7, 3) := by decide +kernel
theorem dX8_forms_133 : decode cX8_forms 133 = .ok (.iload_n 2, 1) := by decide +kernel
theorem dX8_forms_134 : decode cX8_forms 134 = .ok (.goto 4, 3) := by decide +kernel
theorem dX8_forms_137 : decode cX8_forms 137 = .ok (.iload_n 1, 1) := by decide +kernel
theorem dX8_forms_138 : decode cX8_forms 138 = .ok (.istore_n 1, 1) := by decide +kernel
theorem dX8_forms_139 : decode cX8_forms 139 = .ok (.iinc 2 1, 3) := by decide +kernel
theorem dX8_forms_142 : decode cX8_forms 142 = .ok (.goto (-133), 3) := by decide +kernel
theorem dX8_forms_145 : decode cX8_forms 145 = .ok (.return_, 1) := by decide +kernel
theorem dX8_writes_0 : decode cX8_writes 0 = .ok (.aload_n 0, 1) := by decide +kernel
theorem dX8_writes_1 : decode cX8_writes 1 = .ok (.getfield 125, 3) := by decide +kernel
theorem dX8_writes_4 : decode cX8_writes 4 = .ok (.aload_n 0, 1) := by decide +kernel
theorem dX8_writes_5 : decode cX8_writes 5 = .ok (.getfield 302, 3) := by decide +kernel
theorem dX8_writes_8 : decode cX8_writes 8 = .ok (.iload_n 1, 1) := by decide +kernel
theorem dX8_writes_9 : decode cX8_writes 9 = .ok (.iastore, 1) := by decide +kernel
theorem dX8_writes_10 : decode cX8_writes 10 = .ok (.aload_n 0, 1) := by decide +kernel
theorem dX8_writes_11 : decode cX8_writes 11 = .ok (.getfield 128, 3) := by decide +kernel
theorem dX8_writes_14 : decode cX8_writes 14 = .ok (.aload_n 0, 1) := by decide +kernel
theorem dX8_writes_15 : decode cX8_writes 15 = .ok (.getfield 302, 3) := by decide +kernel
theorem dX8_writes_18 : decode cX8_writes 18 = .ok (.iload_n 2, 1) := by decide +kernel
theorem dX8_writes_19 : decode cX8_writes 19 = .ok (.iastore, 1) := by decide +kernel
theorem dX8_writes_20 : decode cX8_writes 20 = .ok (.aload_n 0, 1) := by decide +kernel
theorem dX8_writes_21 : decode cX8_writes 21 = .ok (.dup, 1) := by decide +kernel
theorem dX8_writes_22 : decode cX8_writes 22 = .ok (.getfield 302, 3) := by decide +kernel
theorem dX8_writes_25 : decode cX8_writes 25 = .ok (.iconst 1, 1) := by decide +kernel
theorem dX8_writes_26 : decode cX8_writes 26 = .ok (.iadd, 1) := by decide +kernel
theorem dX8_writes_27 : decode cX8_writes 27 = .ok (.putfield 302, 3) := by decide +kernel
theorem dX8_writes_30 : decode cX8_writes 30 = .ok (.return_, 1) := by decide +kernel
theorem dX8_normalize_0 : decode cX8_normalize 0 = .ok (.aload_n 0, 1) := by decide +kernel
theorem dX8_normalize_1 : decode cX8_normalize 1 = .ok (.invokevirtual 308, 3) := by decide +kernel
theorem dX8_normalize_4 : decode cX8_normalize 4 = .ok (.aload_n 0, 1) := by decide +kernel
theorem dX8_normalize_5 : decode cX8_normalize 5 = .ok (.aload_n 0, 1) := by decide +kernel
theorem dX8_normalize_6 : decode cX8_normalize 6 = .ok (.getfield 302, 3) := by decide +kernel
theorem dX8_normalize_9 : decode cX8_normalize 9 = .ok (.bipush 60, 2) := by decide +kernel
theorem dX8_normalize_11 : decode cX8_normalize 11 = .ok (.if_icmp .gt 7, 3) := by decide +kernel
theorem dX8_normalize_14 : decode cX8_normalize 14 = .ok (.iconst 1, 1) := by decide +kernel
theorem dX8_normalize_15 : decode cX8_normalize 15 = .ok (.goto 4, 3) := by decide +kernel
theorem dX8_normalize_18 : decode cX8_normalize 18 = .ok (.iconst 0, 1) := by decide +kernel
theorem dX8_normalize_19 : decode cX8_normalize 19 = .ok (.iconst 1, 1) := by decide +kernel
theorem dX8_normalize_20 : decode cX8_normalize 20 = .ok (.iconst 1, 1) := by decide +kernel
theorem dX8_normalize_21 : decode cX8_normalize 21 = .ok (.invokevirtual 163, 3) := by decide +kernel
theorem dX8_normalize_24 : decode cX8_normalize 24 = .ok (.ifCond .ne 5, 3) := by decide +kernel
theorem dX8_normalize_27 : decode cX8_normalize 27 = .ok (.iconst 0, 1) := by decide +kernel
theorem dX8_normalize_28 : decode cX8_normalize 28 = .ok (.ireturn, 1) := by decide +kernel
theorem dX8_normalize_29 : decode cX8_normalize 29 = .ok (.aload_n 0, 1) := by decide +kernel
theorem dX8_normalize_30 : decode cX8_normalize 30 = .ok (.aload_n 0, 1) := by decide +kernel
theorem dX8_normalize_31 : decode cX8_normalize 31 = .ok (.getfield 302, 3) := by decide +kernel
theorem dX8_normalize_34 : decode cX8_normalize 34 = .ok (.putfield 174, 3) := by decide +kernel
theorem dX8_normalize_37 : decode cX8_normalize 37 = .ok (.iconst 0, 1) := by decide +kernel
theorem dX8_normalize_38 : decode cX8_normalize 38 = .ok (.istore_n 1, 1) := by decide +kernel
theorem dX8_normalize_39 : decode cX8_normalize 39 = .ok (.iload_n 1, 1) := by decide +kernel
theorem dX8_normalize_40 : decode cX8_normalize 40 = .ok (.aload_n 0, 1) := by decide +kernel
theorem dX8_normalize_41 : decode cX8_normalize 41 = .ok (.getfield 174, 3) := by decide +kernel
theorem dX8_normalize_44 : decode cX8_normalize 44 = .ok (.if_icmp .ge 33, 3) := by decide +kernel
theorem dX8_normalize_47 : decode cX8_normalize 47 = .ok (.aload_n 0, 1) := by decide +kernel
theorem dX8_normalize_48 : decode cX8_normalize 48 = .ok (.getfield 44, 3) := by decide +kernel
theorem dX8_normalize_51 : decode cX8_normalize 51 = .ok (.iload_n 1, 1) := by decide +kernel
theorem dX8_normalize_52 : decode cX8_normalize 52 = .ok (.aload_n 0, 1) := by decide +kernel
theorem dX8_normalize_53 : decode cX8_normalize 53 = .ok (.getfield 125, 3) := by decide +kernel
theorem dX8_normalize_56 : decode cX8_normalize 56 = .ok (.iload_n 1, 1) := by decide +kernel
theorem dX8_normalize_57 : decode cX8_normalize 57 = .ok (.iaload, 1) := by decide +kernel
theorem dX8_normalize_58 : decode cX8_normalize 58 = .ok (.iastore, 1) := by decide +kernel
theorem dX8_normalize_59 : decode cX8_normalize 59 = .ok (.aload_n 0, 1) := by decide +kernel
theorem dX8_normalize_60 : decode cX8_normalize 60 = .ok (.getfield 47, 3) := by decide +kernel
theorem dX8_normalize_63 : decode cX8_normalize 63 = .ok (.iload_n 1, 1) := by decide +kernel
theorem dX8_normalize_64 : decode cX8_normalize 64 = .ok (.aload_n 0, 1) := by decide +kernel
theorem dX8_normalize_65 : decode cX8_normalize 65 = .ok (.getfield 128, 3) := by decide +kernel
theorem dX8_normalize_68 : decode cX8_normalize 68 = .ok (.iload_n 1, 1) := by decide +kernel
theorem dX8_normalize_69 : decode cX8_normalize 69 = .ok (.iaload, 1) := by decide +kernel
theorem dX8_normalize_70 : decode cX8_normalize 70 = .ok (.iastore, 1) := by decide +kernel
theorem dX8_normalize_71 : decode cX8_normalize 71 = .ok (.iinc 1 1, 3) := by decide +kernel
theorem dX8_normalize_74 : decode cX8_normalize 74 = .ok (.goto (-35), 3) := by decide +kernel
theorem dX8_normalize_77 : decode cX8_normalize 77 = .ok (.aload_n 0, 1) := by decide +kernel
theorem dX8_normalize_78 : decode cX8_normalize 78 = .ok (.invokevirtual 171, 3) := by decide +kernel
theorem dX8_normalize_81 : decode cX8_normalize 81 = .ok (.aload_n 0, 1) := by decide +kernel
theorem dX8_normalize_82 : decode cX8_normalize 82 = .ok (.getfield 174, 3) := by decide +kernel
theorem dX8_normalize_85 : decode cX8_normalize 85 = .ok (.ireturn, 1) := by decide +kernel
theorem dX8_length_0 : decode cX8_length 0 = .ok (.aload_n 0, 1) := by decide +kernel
theorem dX8_length_1 : decode cX8_length 1 = .ok (.iconst 0, 1) := by decide +kernel
theorem dX8_length_2 : decode cX8_length 2 = .ok (.putfield 143, 3) := by decide +kernel
theorem dX8_length_5 : decode cX8_length 5 = .ok (.aload_n 0, 1) := by decide +kernel
theorem dX8_length_6 : decode cX8_length 6 = .ok (.getfield 174, 3) := by decide +kernel
theorem dX8_length_9 : decode cX8_length 9 = .ok (.ireturn, 1) := by decide +kernel
theorem dX8_anew_0 : decode cX8_anew 0 = .ok (.aload_n 0, 1) := by decide +kernel
theorem dX8_anew_1 : decode cX8_anew 1 = .ok (.iconst 0, 1) := by decide +kernel
theorem dX8_anew_2 : decode cX8_anew 2 = .ok (.putfield 143, 3) := by decide +kernel
theorem dX8_anew_5 : decode cX8_anew 5 = .ok (.aload_n 0, 1) := by decide +kernel
theorem dX8_anew_6 : decode cX8_anew 6 = .ok (.getfield 177, 3) := by decide +kernel
theorem dX8_anew_9 : decode cX8_anew 9 = .ok (.ireturn, 1) := by decide +kernel
theorem dX8_open_0 : decode cX8_open 0 = .ok (.aload_n 0, 1) := by decide +kernel
theorem dX8_open_1 : decode cX8_open 1 = .ok (.iload_n 1, 1) := by decide +kernel
theorem dX8_open_2 : decode cX8_open 2 = .ok (.iconst 0, 1) := by decide +kernel
theorem dX8_open_3 : decode cX8_open 3 = .ok (.aload_n 0, 1) := by decide +kernel
theorem dX8_open_4 : decode cX8_open 4 = .ok (.getfield 174, 3) := by decide +kernel
theorem dX8_open_7 : decode cX8_open 7 = .ok (.invokestatic 159, 3) := by decide +kernel
theorem dX8_open_10 : decode cX8_open 10 = .ok (.iconst 1, 1) := by decide +kernel
theorem dX8_open_11 : decode cX8_open 11 = .ok (.iconst 1, 1) := by decide +kernel
theorem dX8_open_12 : decode cX8_open 12 = .ok (.invokevirtual 163, 3) := by decide +kernel
theorem dX8_open_15 : decode cX8_open 15 = .ok (.ifCond .eq 12, 3) := by decide +kernel
theorem dX8_open_18 : decode cX8_open 18 = .ok (.aload_n 0, 1) := by decide +kernel
theorem dX8_open_19 : decode cX8_open 19 = .ok (.getfield 101, 3) := by decide +kernel
theorem dX8_open_22 : decode cX8_open 22 = .ok (.iload_n 1, 1) := by decide +kernel
theorem dX8_open_23 : decode cX8_open 23 = .ok (.iaload, 1) := by decide +kernel
theorem dX8_open_24 : decode cX8_open 24 = .ok (.goto 4, 3) := by decide +kernel
theorem dX8_open_27 : decode cX8_open 27 = .ok (.iconst 0, 1) := by decide +kernel
theorem dX8_open_28 : decode cX8_open 28 = .ok (.ireturn, 1) := by decide +kernel
theorem dX8_codeAt_0 : decode cX8_codeAt 0 = .ok (.aload_n 0, 1) := by decide +kernel
theorem dX8_codeAt_1 : decode cX8_codeAt 1 = .ok (.getfield 101, 3) := by decide +kernel
theorem dX8_codeAt_4 : decode cX8_codeAt 4 = .ok (.iload_n 1, 1) := by decide +kernel
theorem dX8_codeAt_5 : decode cX8_codeAt 5 = .ok (.iaload, 1) := by decide +kernel
theorem dX8_codeAt_6 : decode cX8_codeAt 6 = .ok (.ifCond .ne 7, 3) := by decide +kernel
theorem dX8_codeAt_9 : decode cX8_codeAt 9 = .ok (.iconst (-1), 1) := by decide +kernel
theorem dX8_codeAt_10 : decode cX8_codeAt 10 = .ok (.goto 21, 3) := by decide +kernel
theorem dX8_codeAt_13 : decode cX8_codeAt 13 = .ok (.aload_n 0, 1) := by decide +kernel
theorem dX8_codeAt_14 : decode cX8_codeAt 14 = .ok (.getfield 104, 3) := by decide +kernel
theorem dX8_codeAt_17 : decode cX8_codeAt 17 = .ok (.bipush 20, 2) := by decide +kernel
theorem dX8_codeAt_19 : decode cX8_codeAt 19 = .ok (.iload_n 1, 1) := by decide +kernel
theorem dX8_codeAt_20 : decode cX8_codeAt 20 = .ok (.imul, 1) := by decide +kernel
theorem dX8_codeAt_21 : decode cX8_codeAt 21 = .ok (.aload_n 0, 1) := by decide +kernel
theorem dX8_codeAt_22 : decode cX8_codeAt 22 = .ok (.getfield 101, 3) := by decide +kernel
theorem dX8_codeAt_25 : decode cX8_codeAt 25 = .ok (.iload_n 1, 1) := by decide +kernel
theorem dX8_codeAt_26 : decode cX8_codeAt 26 = .ok (.iaload, 1) := by decide +kernel
theorem dX8_codeAt_27 : decode cX8_codeAt 27 = .ok (.iadd, 1) := by decide +kernel
theorem dX8_codeAt_28 : decode cX8_codeAt 28 = .ok (.iconst 1, 1) := by decide +kernel
theorem dX8_codeAt_29 : decode cX8_codeAt 29 = .ok (.isub, 1) := by decide +kernel
theorem dX8_codeAt_30 : decode cX8_codeAt 30 = .ok (.iaload, 1) := by decide +kernel
theorem dX8_codeAt_31 : decode cX8_codeAt 31 = .ok (.ireturn, 1) := by decide +kernel
theorem dX8_current_0 : decode cX8_current 0 = .ok (.aload_n 0, 1) := by decide +kernel
theorem dX8_current_1 : decode cX8_current 1 = .ok (.iload_n 1, 1) := by decide +kernel
theorem dX8_current_2 : decode cX8_current 2 = .ok (.iconst 0, 1) := by decide +kernel
theorem dX8_current_3 : decode cX8_current 3 = .ok (.aload_n 0, 1) := by decide +kernel
theorem dX8_current_4 : decode cX8_current 4 = .ok (.getfield 174, 3) := by decide +kernel
theorem dX8_current_7 : decode cX8_current 7 = .ok (.invokestatic 159, 3) := by decide +kernel
theorem dX8_current_10 : decode cX8_current 10 = .ok (.iconst 1, 1) := by decide +kernel
theorem dX8_current_11 : decode cX8_current 11 = .ok (.iconst 1, 1) := by decide +kernel
theorem dX8_current_12 : decode cX8_current 12 = .ok (.invokevirtual 163, 3) := by decide +kernel
theorem dX8_current_15 : decode cX8_current 15 = .ok (.ifCond .ne 5, 3) := by decide +kernel
theorem dX8_current_18 : decode cX8_current 18 = .ok (.iconst 0, 1) := by decide +kernel
theorem dX8_current_19 : decode cX8_current 19 = .ok (.ireturn, 1) := by decide +kernel
theorem dX8_current_20 : decode cX8_current 20 = .ok (.aload_n 0, 1) := by decide +kernel
theorem dX8_current_21 : decode cX8_current 21 = .ok (.iload_n 1, 1) := by decide +kernel
theorem dX8_current_22 : decode cX8_current 22 = .ok (.invokevirtual 311, 3) := by decide +kernel
theorem dX8_current_25 : decode cX8_current 25 = .ok (.iconst (-1), 1) := by decide +kernel
theorem dX8_current_26 : decode cX8_current 26 = .ok (.if_icmp .ne 7, 3) := by decide +kernel
theorem dX8_current_29 : decode cX8_current 29 = .ok (.iconst (-1), 1) := by decide +kernel
theorem dX8_current_30 : decode cX8_current 30 = .ok (.goto 11, 3) := by decide +kernel
theorem dX8_current_33 : decode cX8_current 33 = .ok (.aload_n 0, 1) := by decide +kernel
theorem dX8_current_34 : decode cX8_current 34 = .ok (.iload_n 1, 1) := by decide +kernel
theorem dX8_current_35 : decode cX8_current 35 = .ok (.invokevirtual 311, 3) := by decide +kernel
theorem dX8_current_38 : decode cX8_current 38 = .ok (.bipush 16, 2) := by decide +kernel
theorem dX8_current_40 : decode cX8_current 40 = .ok (.idiv, 1) := by decide +kernel
theorem dX8_current_41 : decode cX8_current 41 = .ok (.ireturn, 1) := by decide +kernel
theorem dX8_next_0 : decode cX8_next 0 = .ok (.aload_n 0, 1) := by decide +kernel
theorem dX8_next_1 : decode cX8_next 1 = .ok (.iload_n 1, 1) := by decide +kernel
theorem dX8_next_2 : decode cX8_next 2 = .ok (.iconst 0, 1) := by decide +kernel
theorem dX8_next_3 : decode cX8_next 3 = .ok (.aload_n 0, 1) := by decide +kernel
theorem dX8_next_4 : decode cX8_next 4 = .ok (.getfield 174, 3) := by decide +kernel
theorem dX8_next_7 : decode cX8_next 7 = .ok (.invokestatic 159, 3) := by decide +kernel
theorem dX8_next_10 : decode cX8_next 10 = .ok (.iconst 1, 1) := by decide +kernel
theorem dX8_next_11 : decode cX8_next 11 = .ok (.iconst 1, 1) := by decide +kernel
theorem dX8_next_12 : decode cX8_next 12 = .ok (.invokevirtual 163, 3) := by decide +kernel
theorem dX8_next_15 : decode cX8_next 15 = .ok (.ifCond .ne 5, 3) := by decide +kernel
theorem dX8_next_18 : decode cX8_next 18 = .ok (.iconst 0, 1) := by decide +kernel
theorem dX8_next_19 : decode cX8_next 19 = .ok (.ireturn, 1) := by decide +kernel
theorem dX8_next_20 : decode cX8_next 20 = .ok (.aload_n 0, 1) := by decide +kernel
theorem dX8_next_21 : decode cX8_next 21 = .ok (.iload_n 1, 1) := by decide +kernel
theorem dX8_next_22 : decode cX8_next 22 = .ok (.invokevirtual 311, 3) := by decide +kernel
theorem dX8_next_25 : decode cX8_next 25 = .ok (.istore_n 2, 1) := by decide +kernel
theorem dX8_next_26 : decode cX8_next 26 = .ok (.iload_n 2, 1) := by decide +kernel
theorem dX8_next_27 : decode cX8_next 27 = .ok (.iconst (-1), 1) := by decide +kernel
theorem dX8_next_28 : decode cX8_next 28 = .ok (.if_icmp .ne 7, 3) := by decide +kernel
theorem dX8_next_31 : decode cX8_next 31 = .ok (.iconst 0, 1) := by decide +kernel
theorem dX8_next_32 : decode cX8_next 32 = .ok (.goto 29, 3) := by decide +kernel
theorem dX8_next_35 : decode cX8_next 35 = .ok (.aload_n 0, 1) := by decide +kernel
theorem dX8_next_36 : decode cX8_next 36 = .ok (.iload_n 2, 1) := by decide +kernel
theorem dX8_next_37 : decode cX8_next 37 = .ok (.bipush 16, 2) := by decide +kernel
theorem dX8_next_39 : decode cX8_next 39 = .ok (.idiv, 1) := by decide +kernel
theorem dX8_next_40 : decode cX8_next 40 = .ok (.iload_n 2, 1) := by decide +kernel
theorem dX8_next_41 : decode cX8_next 41 = .ok (.iconst 2, 1) := by decide +kernel
theorem dX8_next_42 : decode cX8_next 42 = .ok (.idiv, 1) := by decide +kernel
theorem dX8_next_43 : decode cX8_next 43 = .ok (.bipush 8, 2) := by decide +kernel
theorem dX8_next_45 : decode cX8_next 45 = .ok (.irem, 1) := by decide +kernel
theorem dX8_next_46 : decode cX8_next 46 = .ok (.iload_n 2, 1) := by decide +kernel
theorem dX8_next_47 : decode cX8_next 47 = .ok (.iconst 2, 1) := by decide +kernel
theorem dX8_next_48 : decode cX8_next 48 = .ok (.irem, 1) := by decide +kernel
theorem dX8_next_49 : decode cX8_next 49 = .ok (.iconst 1, 1) := by decide +kernel
theorem dX8_next_50 : decode cX8_next 50 = .ok (.if_icmp .ne 7, 3) := by decide +kernel
theorem dX8_next_53 : decode cX8_next 53 = .ok (.iconst 1, 1) := by decide +kernel
theorem dX8_next_54 : decode cX8_next 54 = .ok (.goto 4, 3) := by decide +kernel
theorem dX8_next_57 : decode cX8_next 57 = .ok (.iconst 0, 1) := by decide +kernel
theorem dX8_next_58 : decode cX8_next 58 = .ok (.invokevirtual 221, 3) := by decide +kernel
theorem dX8_next_61 : decode cX8_next 61 = .ok (.ireturn, 1) := by decide +kernel
theorem dX8_isThing_0 : decode cX8_isThing 0 = .ok (.aload_n 0, 1) := by decide +kernel
theorem dX8_isThing_1 : decode cX8_isThing 1 = .ok (.iload_n 1, 1) := by decide +kernel
theorem dX8_isThing_2 : decode cX8_isThing 2 = .ok (.iconst 0, 1) := by decide +kernel
theorem dX8_isThing_3 : decode cX8_isThing 3 = .ok (.aload_n 0, 1) := by decide +kernel
theorem dX8_isThing_4 : decode cX8_isThing 4 = .ok (.getfield 187, 3) := by decide +kernel
theorem dX8_isThing_7 : decode cX8_isThing 7 = .ok (.iconst 1, 1) := by decide +kernel
theorem dX8_isThing_8 : decode cX8_isThing 8 = .ok (.isub, 1) := by decide +kernel
theorem dX8_isThing_9 : decode cX8_isThing 9 = .ok (.invokestatic 159, 3) := by decide +kernel
theorem dX8_isThing_12 : decode cX8_isThing 12 = .ok (.iconst 1, 1) := by decide +kernel
theorem dX8_isThing_13 : decode cX8_isThing 13 = .ok (.iconst 1, 1) := by decide +kernel
theorem dX8_isThing_14 : decode cX8_isThing 14 = .ok (.invokevirtual 163, 3) := by decide +kernel
theorem dX8_isThing_17 : decode cX8_isThing 17 = .ok (.ireturn, 1) := by decide +kernel
theorem dX8_things_0 : decode cX8_things 0 = .ok (.aload_n 0, 1) := by decide +kernel
theorem dX8_things_1 : decode cX8_things 1 = .ok (.iconst 0, 1) := by decide +kernel
theorem dX8_things_2 : decode cX8_things 2 = .ok (.putfield 143, 3) := by decide +kernel
theorem dX8_things_5 : decode cX8_things 5 = .ok (.aload_n 0, 1) := by decide +kernel
theorem dX8_things_6 : decode cX8_things 6 = .ok (.getfield 187, 3) := by decide +kernel
theorem dX8_things_9 : decode cX8_things 9 = .ok (.ireturn, 1) := by decide +kernel
theorem dX8_kind_0 : decode cX8_kind 0 = .ok (.aload_n 0, 1) := by decide +kernel
theorem dX8_kind_1 : decode cX8_kind 1 = .ok (.iload_n 1, 1) := by decide +kernel
theorem dX8_kind_2 : decode cX8_kind 2 = .ok (.invokevirtual 314, 3) := by decide +kernel
theorem dX8_kind_5 : decode cX8_kind 5 = .ok (.ifCond .eq 12, 3) := by decide +kernel
theorem dX8_kind_8 : decode cX8_kind 8 = .ok (.aload_n 0, 1) := by decide +kernel
theorem dX8_kind_9 : decode cX8_kind 9 = .ok (.getfield 68, 3) := by decide +kernel
theorem dX8_kind_12 : decode cX8_kind 12 = .ok (.iload_n 1, 1) := by decide +kernel
theorem dX8_kind_13 : decode cX8_kind 13 = .ok (.iaload, 1) := by decide +kernel
theorem dX8_kind_14 : decode cX8_kind 14 = .ok (.goto 4, 3) := by decide +kernel
theorem dX8_kind_17 : decode cX8_kind 17 = .ok (.iconst 0, 1) := by decide +kernel
theorem dX8_kind_18 : decode cX8_kind 18 = .ok (.ireturn, 1) := by decide +kernel
theorem dX8_parent_0 : decode cX8_parent 0 = .ok (.aload_n 0, 1) := by decide +kernel
theorem dX8_parent_1 : decode cX8_parent 1 = .ok (.iload_n 1, 1) := by decide +kernel
theorem dX8_parent_2 : decode cX8_parent 2 = .ok (.invokevirtual 314, 3) := by decide +kernel
theorem dX8_parent_5 : decode cX8_parent 5 = .ok (.ifCond .eq 12, 3) := by decide +kernel
theorem dX8_parent_8 : decode cX8_parent 8 = .ok (.aload_n 0, 1) := by decide +kernel
theorem dX8_parent_9 : decode cX8_parent 9 = .ok (.getfield 71, 3) := by decide +kernel
theorem dX8_parent_12 : decode cX8_parent 12 = .ok (.iload_n 1, 1) := by decide +kernel
theorem dX8_parent_13 : decode cX8_parent 13 = .ok (.iaload, 1) := by decide +kernel
theorem dX8_parent_14 : decode cX8_parent 14 = .ok (.goto 4, 3) := by decide +kernel
theorem dX8_parent_17 : decode cX8_parent 17 = .ok (.iconst 0, 1) := by decide +kernel
theorem dX8_parent_18 : decode cX8_parent 18 = .ok (.ireturn, 1) := by decide +kernel
theorem dX8_letter_0 : decode cX8_letter 0 = .ok (.aload_n 0, 1) := by decide +kernel
theorem dX8_letter_1 : decode cX8_letter 1 = .ok (.iload_n 1, 1) := by decide +kernel
theorem dX8_letter_2 : decode cX8_letter 2 = .ok (.invokevirtual 314, 3) := by decide +kernel
theorem dX8_letter_5 : decode cX8_letter 5 = .ok (.ifCond .eq 12, 3) := by decide +kernel
theorem dX8_letter_8 : decode cX8_letter 8 = .ok (.aload_n 0, 1) := by decide +kernel
theorem dX8_letter_9 : decode cX8_letter 9 = .ok (.getfield 74, 3) := by decide +kernel
theorem dX8_letter_12 : decode cX8_letter 12 = .ok (.iload_n 1, 1) := by decide +kernel
theorem dX8_letter_13 : decode cX8_letter 13 = .ok (.iaload, 1) := by decide +kernel
theorem dX8_letter_14 : decode cX8_letter 14 = .ok (.goto 4, 3) := by decide +kernel
theorem dX8_letter_17 : decode cX8_letter 17 = .ok (.iconst 0, 1) := by decide +kernel
theorem dX8_letter_18 : decode cX8_letter 18 = .ok (.i2c, 1) := by decide +kernel
theorem dX8_letter_19 : decode cX8_letter 19 = .ok (.ireturn, 1) := by decide +kernel
theorem dX8_placeOf_0 : decode cX8_placeOf 0 = .ok (.aload_n 0, 1) := by decide +kernel
theorem dX8_placeOf_1 : decode cX8_placeOf 1 = .ok (.iload_n 1, 1) := by decide +kernel
theorem dX8_placeOf_2 : decode cX8_placeOf 2 = .ok (.invokevirtual 314, 3) := by decide +kernel
theorem dX8_placeOf_5 : decode cX8_placeOf 5 = .ok (.ifCond .eq 12, 3) := by decide +kernel
theorem dX8_placeOf_8 : decode cX8_placeOf 8 = .ok (.aload_n 0, 1) := by decide +kernel
theorem dX8_placeOf_9 : decode cX8_placeOf 9 = .ok (.getfield 77, 3) := by decide +kernel
theorem dX8_placeOf_12 : decode cX8_placeOf 12 = .ok (.iload_n 1, 1) := by decide +kernel
theorem dX8_placeOf_13 : decode cX8_placeOf 13 = .ok (.iaload, 1) := by decide +kernel
theorem dX8_placeOf_14 : decode cX8_placeOf 14 = .ok (.goto 4, 3) := by decide +kernel
theorem dX8_placeOf_17 : decode cX8_placeOf 17 = .ok (.iconst 0, 1) := by decide +kernel
theorem dX8_placeOf_18 : decode cX8_placeOf 18 = .ok (.ireturn, 1) := by decide +kernel
theorem dX8_isPutIn_0 : decode cX8_isPutIn 0 = .ok (.aload_n 0, 1) := by decide +kernel
theorem dX8_isPutIn_1 : decode cX8_isPutIn 1 = .ok (.iload_n 1, 1) := by decide +kernel
theorem dX8_isPutIn_2 : decode cX8_isPutIn 2 = .ok (.invokevirtual 314, 3) := by decide +kernel
theorem dX8_isPutIn_5 : decode cX8_isPutIn 5 = .ok (.ifCond .eq 16, 3) := by decide +kernel
theorem dX8_isPutIn_8 : decode cX8_isPutIn 8 = .ok (.aload_n 0, 1) := by decide +kernel
theorem dX8_isPutIn_9 : decode cX8_isPutIn 9 = .ok (.getfield 80, 3) := by decide +kernel
theorem dX8_isPutIn_12 : decode cX8_isPutIn 12 = .ok (.iload_n 1, 1) := by decide +kernel
theorem dX8_isPutIn_13 : decode cX8_isPutIn 13 = .ok (.baload, 1) := by decide +kernel
theorem dX8_isPutIn_14 : decode cX8_isPutIn 14 = .ok (.ifCond .eq 7, 3) := by decide +kernel
theorem dX8_isPutIn_17 : decode cX8_isPutIn 17 = .ok (.iconst 1, 1) := by decide +kernel
theorem dX8_isPutIn_18 : decode cX8_isPutIn 18 = .ok (.goto 4, 3) := by decide +kernel
theorem dX8_isPutIn_21 : decode cX8_isPutIn 21 = .ok (.iconst 0, 1) := by decide +kernel
theorem dX8_isPutIn_22 : decode cX8_isPutIn 22 = .ok (.ireturn, 1) := by decide +kernel
theorem dX8_endsPutIn_0 : decode cX8_endsPutIn 0 = .ok (.aload_n 0, 1) := by decide +kernel
theorem dX8_endsPutIn_1 : decode cX8_endsPutIn 1 = .ok (.iconst 0, 1) := by decide +kernel
theorem dX8_endsPutIn_2 : decode cX8_endsPutIn 2 = .ok (.putfield 143, 3) := by decide +kernel
theorem dX8_endsPutIn_5 : decode cX8_endsPutIn 5 = .ok (.aload_n 0, 1) := by decide +kernel
theorem dX8_endsPutIn_6 : decode cX8_endsPutIn 6 = .ok (.getfield 240, 3) := by decide +kernel
theorem dX8_endsPutIn_9 : decode cX8_endsPutIn 9 = .ok (.ireturn, 1) := by decide +kernel
theorem dX8_errors_0 : decode cX8_errors 0 = .ok (.aload_n 0, 1) := by decide +kernel
theorem dX8_errors_1 : decode cX8_errors 1 = .ok (.iconst 0, 1) := by decide +kernel
theorem dX8_errors_2 : decode cX8_errors 2 = .ok (.putfield 143, 3) := by decide +kernel
theorem dX8_errors_5 : decode cX8_errors 5 = .ok (.aload_n 0, 1) := by decide +kernel
theorem dX8_errors_6 : decode cX8_errors 6 = .ok (.getfield 184, 3) := by decide +kernel
theorem dX8_errors_9 : decode cX8_errors 9 = .ok (.ireturn, 1) := by decide +kernel
theorem dX8_errorKind_0 : decode cX8_errorKind 0 = .ok (.aload_n 0, 1) := by decide +kernel
theorem dX8_errorKind_1 : decode cX8_errorKind 1 = .ok (.iload_n 1, 1) := by decide +kernel
theorem dX8_errorKind_2 : decode cX8_errorKind 2 = .ok (.iconst 0, 1) := by decide +kernel
theorem dX8_errorKind_3 : decode cX8_errorKind 3 = .ok (.aload_n 0, 1) := by decide +kernel
theorem dX8_errorKind_4 : decode cX8_errorKind 4 = .ok (.getfield 184, 3) := by decide +kernel
theorem dX8_errorKind_7 : decode cX8_errorKind 7 = .ok (.iconst 1, 1) := by decide +kernel
theorem dX8_errorKind_8 : decode cX8_errorKind 8 = .ok (.isub, 1) := by decide +kernel
theorem dX8_errorKind_9 : decode cX8_errorKind 9 = .ok (.invokestatic 159, 3) := by decide +kernel
theorem dX8_errorKind_12 : decode cX8_errorKind 12 = .ok (.iconst 1, 1) := by decide +kernel
theorem dX8_errorKind_13 : decode cX8_errorKind 13 = .ok (.iconst 1, 1) := by decide +kernel
theorem dX8_errorKind_14 : decode cX8_errorKind 14 = .ok (.invokevirtual 163, 3) := by decide +kernel
theorem dX8_errorKind_17 : decode cX8_errorKind 17 = .ok (.ifCond .eq 12, 3) := by decide +kernel
theorem dX8_errorKind_20 : decode cX8_errorKind 20 = .ok (.aload_n 0, 1) := by decide +kernel
theorem dX8_errorKind_21 : decode cX8_errorKind 21 = .ok (.getfield 83, 3) := by decide +kernel
theorem dX8_errorKind_24 : decode cX8_errorKind 24 = .ok (.iload_n 1, 1) := by decide +kernel
theorem dX8_errorKind_25 : decode cX8_errorKind 25 = .ok (.iaload, 1) := by decide +kernel
theorem dX8_errorKind_26 : decode cX8_errorKind 26 = .ok (.goto 4, 3) := by decide +kernel
theorem dX8_errorKind_29 : decode cX8_errorKind 29 = .ok (.iconst 0, 1) := by decide +kernel
theorem dX8_errorKind_30 : decode cX8_errorKind 30 = .ok (.ireturn, 1) := by decide +kernel
theorem dX8_errorAt_0 : decode cX8_errorAt 0 = .ok (.aload_n 0, 1) := by decide +kernel
theorem dX8_errorAt_1 : decode cX8_errorAt 1 = .ok (.iload_n 1, 1) := by decide +kernel
theorem dX8_errorAt_2 : decode cX8_errorAt 2 = .ok (.iconst 0, 1) := by decide +kernel
theorem dX8_errorAt_3 : decode cX8_errorAt 3 = .ok (.aload_n 0, 1) := by decide +kernel
theorem dX8_errorAt_4 : decode cX8_errorAt 4 = .ok (.getfield 184, 3) := by decide +kernel
theorem dX8_errorAt_7 : decode cX8_errorAt 7 = .ok (.iconst 1, 1) := by decide +kernel
theorem dX8_errorAt_8 : decode cX8_errorAt 8 = .ok (.isub, 1) := by decide +kernel
theorem dX8_errorAt_9 : decode cX8_errorAt 9 = .ok (.invokestatic 159, 3) := by decide +kernel
theorem dX8_errorAt_12 : decode cX8_errorAt 12 = .ok (.iconst 1, 1) := by decide +kernel
theorem dX8_errorAt_13 : decode cX8_errorAt 13 = .ok (.iconst 1, 1) := by decide +kernel
theorem dX8_errorAt_14 : decode cX8_errorAt 14 = .ok (.invokevirtual 163, 3) := by decide +kernel
theorem dX8_errorAt_17 : decode cX8_errorAt 17 = .ok (.ifCond .eq 12, 3) := by decide +kernel
theorem dX8_errorAt_20 : decode cX8_errorAt 20 = .ok (.aload_n 0, 1) := by decide +kernel
theorem dX8_errorAt_21 : decode cX8_errorAt 21 = .ok (.getfield 86, 3) := by decide +kernel
theorem dX8_errorAt_24 : decode cX8_errorAt 24 = .ok (.iload_n 1, 1) := by decide +kernel
theorem dX8_errorAt_25 : decode cX8_errorAt 25 = .ok (.iaload, 1) := by decide +kernel
theorem dX8_errorAt_26 : decode cX8_errorAt 26 = .ok (.goto 4, 3) := by decide +kernel
theorem dX8_errorAt_29 : decode cX8_errorAt 29 = .ok (.iconst 0, 1) := by decide +kernel
theorem dX8_errorAt_30 : decode cX8_errorAt 30 = .ok (.ireturn, 1) := by decide +kernel
