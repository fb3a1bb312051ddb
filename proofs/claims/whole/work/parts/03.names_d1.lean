theorem dX5_addThing_0 : decode cX5_addThing 0 = .ok (.aload_n 0, 1) := by decide +kernel
theorem dX5_addThing_1 : decode cX5_addThing 1 = .ok (.getfield 29, 3) := by decide +kernel
theorem dX5_addThing_4 : decode cX5_addThing 4 = .ok (.sipush 300, 3) := by decide +kernel
theorem dX5_addThing_7 : decode cX5_addThing 7 = .ok (.if_icmp .ge 65, 3) := by decide +kernel
theorem dX5_addThing_10 : decode cX5_addThing 10 = .ok (.aload_n 0, 1) := by decide +kernel
theorem dX5_addThing_11 : decode cX5_addThing 11 = .ok (.getfield 9, 3) := by decide +kernel
theorem dX5_addThing_14 : decode cX5_addThing 14 = .ok (.aload_n 0, 1) := by decide +kernel
theorem dX5_addThing_15 : decode cX5_addThing 15 = .ok (.getfield 29, 3) := by decide +kernel
theorem dX5_addThing_18 : decode cX5_addThing 18 = .ok (.iload_n 1, 1) := by decide +kernel
theorem dX5_addThing_19 : decode cX5_addThing 19 = .ok (.iastore, 1) := by decide +kernel
theorem dX5_addThing_20 : decode cX5_addThing 20 = .ok (.aload_n 0, 1) := by decide +kernel
theorem dX5_addThing_21 : decode cX5_addThing 21 = .ok (.getfield 15, 3) := by decide +kernel
theorem dX5_addThing_24 : decode cX5_addThing 24 = .ok (.aload_n 0, 1) := by decide +kernel
theorem dX5_addThing_25 : decode cX5_addThing 25 = .ok (.getfield 29, 3) := by decide +kernel
theorem dX5_addThing_28 : decode cX5_addThing 28 = .ok (.iload_n 2, 1) := by decide +kernel
theorem dX5_addThing_29 : decode cX5_addThing 29 = .ok (.iastore, 1) := by decide +kernel
theorem dX5_addThing_30 : decode cX5_addThing 30 = .ok (.aload_n 0, 1) := by decide +kernel
theorem dX5_addThing_31 : decode cX5_addThing 31 = .ok (.getfield 18, 3) := by decide +kernel
theorem dX5_addThing_34 : decode cX5_addThing 34 = .ok (.aload_n 0, 1) := by decide +kernel
theorem dX5_addThing_35 : decode cX5_addThing 35 = .ok (.getfield 29, 3) := by decide +kernel
theorem dX5_addThing_38 : decode cX5_addThing 38 = .ok (.iload_n 3, 1) := by decide +kernel
theorem dX5_addThing_39 : decode cX5_addThing 39 = .ok (.castore, 1) := by decide +kernel
theorem dX5_addThing_40 : decode cX5_addThing 40 = .ok (.aload_n 0, 1) := by decide +kernel
theorem dX5_addThing_41 : decode cX5_addThing 41 = .ok (.getfield 22, 3) := by decide +kernel
theorem dX5_addThing_44 : decode cX5_addThing 44 = .ok (.aload_n 0, 1) := by decide +kernel
theorem dX5_addThing_45 : decode cX5_addThing 45 = .ok (.getfield 29, 3) := by decide +kernel
theorem dX5_addThing_48 : decode cX5_addThing 48 = .ok (.iload 4, 2) := by decide +kernel
theorem dX5_addThing_50 : decode cX5_addThing 50 = .ok (.iastore, 1) := by decide +kernel
theorem dX5_addThing_51 : decode cX5_addThing 51 = .ok (.aload_n 0, 1) := by decide +kernel
theorem dX5_addThing_52 : decode cX5_addThing 52 = .ok (.getfield 25, 3) := by decide +kernel
theorem dX5_addThing_55 : decode cX5_addThing 55 = .ok (.aload_n 0, 1) := by decide +kernel
theorem dX5_addThing_56 : decode cX5_addThing 56 = .ok (.getfield 29, 3) := by decide +kernel
theorem dX5_addThing_59 : decode cX5_addThing 59 = .ok (.iload 5, 2) := by decide +kernel
theorem dX5_addThing_61 : decode cX5_addThing 61 = .ok (.bastore, 1) := by decide +kernel
theorem dX5_addThing_62 : decode cX5_addThing 62 = .ok (.aload_n 0, 1) := by decide +kernel
theorem dX5_addThing_63 : decode cX5_addThing 63 = .ok (.dup, 1) := by decide +kernel
theorem dX5_addThing_64 : decode cX5_addThing 64 = .ok (.getfield 29, 3) := by decide +kernel
theorem dX5_addThing_67 : decode cX5_addThing 67 = .ok (.iconst 1, 1) := by decide +kernel
theorem dX5_addThing_68 : decode cX5_addThing 68 = .ok (.iadd, 1) := by decide +kernel
theorem dX5_addThing_69 : decode cX5_addThing 69 = .ok (.putfield 29, 3) := by decide +kernel
theorem dX5_addThing_72 : decode cX5_addThing 72 = .ok (.return_, 1) := by decide +kernel
theorem dX6_init_0 : decode cX6_init 0 = .ok (.aload_n 0, 1) := by decide +kernel
theorem dX6_init_1 : decode cX6_init 1 = .ok (.invokespecial 3, 3) := by decide +kernel
theorem dX6_init_4 : decode cX6_init 4 = .ok (.aload_n 0, 1) := by decide +kernel
theorem dX6_init_5 : decode cX6_init 5 = .ok (.bipush 9, 2) := by decide +kernel
theorem dX6_init_7 : decode cX6_init 7 = .ok (.anewarray 9, 3) := by decide +kernel
theorem dX6_init_10 : decode cX6_init 10 = .ok (.putfield 11, 3) := by decide +kernel
theorem dX6_init_13 : decode cX6_init 13 = .ok (.aload_n 0, 1) := by decide +kernel
theorem dX6_init_14 : decode cX6_init 14 = .ok (.aload_n 1, 1) := by decide +kernel
theorem dX6_init_15 : decode cX6_init 15 = .ok (.putfield 17, 3) := by decide +kernel
theorem dX6_init_18 : decode cX6_init 18 = .ok (.aload_n 0, 1) := by decide +kernel
theorem dX6_init_19 : decode cX6_init 19 = .ok (.aload_n 2, 1) := by decide +kernel
theorem dX6_init_20 : decode cX6_init 20 = .ok (.putfield 21, 3) := by decide +kernel
theorem dX6_init_23 : decode cX6_init 23 = .ok (.iconst 0, 1) := by decide +kernel
theorem dX6_init_24 : decode cX6_init 24 = .ok (.istore_n 3, 1) := by decide +kernel
theorem dX6_init_25 : decode cX6_init 25 = .ok (.iload_n 3, 1) := by decide +kernel
theorem dX6_init_26 : decode cX6_init 26 = .ok (.aload_n 0, 1) := by decide +kernel
theorem dX6_init_27 : decode cX6_init 27 = .ok (.getfield 11, 3) := by decide +kernel
theorem dX6_init_30 : decode cX6_init 30 = .ok (.arraylength, 1) := by decide +kernel
theorem dX6_init_31 : decode cX6_init 31 = .ok (.if_icmp .ge 23, 3) := by decide +kernel
theorem dX6_init_34 : decode cX6_init 34 = .ok (.aload_n 0, 1) := by decide +kernel
theorem dX6_init_35 : decode cX6_init 35 = .ok (.getfield 11, 3) := by decide +kernel
theorem dX6_init_38 : decode cX6_init 38 = .ok (.iload_n 3, 1) := by decide +kernel
theorem dX6_init_39 : decode cX6_init 39 = .ok (.new 9, 3) := by decide +kernel
theorem dX6_init_42 : decode cX6_init 42 = .ok (.dup, 1) := by decide +kernel
theorem dX6_init_43 : decode cX6_init 43 = .ok (.aload_n 1, 1) := by decide +kernel
theorem dX6_init_44 : decode cX6_init 44 = .ok (.invokespecial 25, 3) := by decide +kernel
theorem dX6_init_47 : decode cX6_init 47 = .ok (.aastore, 1) := by decide +kernel
theorem dX6_init_48 : decode cX6_init 48 = .ok (.iinc 3 1, 3) := by decide +kernel
theorem dX6_init_51 : decode cX6_init 51 = .ok (.goto (-26), 3) := by decide +kernel
theorem dX6_init_54 : decode cX6_init 54 = .ok (.return_, 1) := by decide +kernel
theorem dX6_countWays_0 : decode cX6_countWays 0 = .ok (.aload_n 0, 1) := by decide +kernel
theorem dX6_countWays_1 : decode cX6_countWays 1 = .ok (.iconst 0, 1) := by decide +kernel
theorem dX6_countWays_2 : decode cX6_countWays 2 = .ok (.putfield 28, 3) := by decide +kernel
theorem dX6_countWays_5 : decode cX6_countWays 5 = .ok (.aload_n 0, 1) := by decide +kernel
theorem dX6_countWays_6 : decode cX6_countWays 6 = .ok (.getfield 11, 3) := by decide +kernel
theorem dX6_countWays_9 : decode cX6_countWays 9 = .ok (.iconst 0, 1) := by decide +kernel
theorem dX6_countWays_10 : decode cX6_countWays 10 = .ok (.aaload, 1) := by decide +kernel
theorem dX6_countWays_11 : decode cX6_countWays 11 = .ok (.invokevirtual 32, 3) := by decide +kernel
theorem dX6_countWays_14 : decode cX6_countWays 14 = .ok (.aload_n 0, 1) := by decide +kernel
theorem dX6_countWays_15 : decode cX6_countWays 15 = .ok (.iconst 0, 1) := by decide +kernel
theorem dX6_countWays_16 : decode cX6_countWays 16 = .ok (.iconst 0, 1) := by decide +kernel
theorem dX6_countWays_17 : decode cX6_countWays 17 = .ok (.invokevirtual 35, 3) := by decide +kernel
theorem dX6_countWays_20 : decode cX6_countWays 20 = .ok (.aload_n 0, 1) := by decide +kernel
theorem dX6_countWays_21 : decode cX6_countWays 21 = .ok (.getfield 28, 3) := by decide +kernel
theorem dX6_countWays_24 : decode cX6_countWays 24 = .ok (.ireturn, 1) := by decide +kernel
theorem dX6_tryFrom_0 : decode cX6_tryFrom 0 = .ok (.iload_n 1, 1) := by decide +kernel
theorem dX6_tryFrom_1 : decode cX6_tryFrom 1 = .ok (.iload_n 2, 1) := by decide +kernel
theorem dX6_tryFrom_2 : decode cX6_tryFrom 2 = .ok (.iadd, 1) := by decide +kernel
theorem dX6_tryFrom_3 : decode cX6_tryFrom 3 = .ok (.istore_n 3, 1) := by decide +kernel
theorem dX6_tryFrom_4 : decode cX6_tryFrom 4 = .ok (.iload_n 3, 1) := by decide +kernel
theorem dX6_tryFrom_5 : decode cX6_tryFrom 5 = .ok (.aload_n 0, 1) := by decide +kernel
theorem dX6_tryFrom_6 : decode cX6_tryFrom 6 = .ok (.getfield 11, 3) := by decide +kernel
theorem dX6_tryFrom_9 : decode cX6_tryFrom 9 = .ok (.arraylength, 1) := by decide +kernel
theorem dX6_tryFrom_10 : decode cX6_tryFrom 10 = .ok (.if_icmp .ge 13, 3) := by decide +kernel
theorem dX6_tryFrom_13 : decode cX6_tryFrom 13 = .ok (.aload_n 0, 1) := by decide +kernel
theorem dX6_tryFrom_14 : decode cX6_tryFrom 14 = .ok (.getfield 28, 3) := by decide +kernel
theorem dX6_tryFrom_17 : decode cX6_tryFrom 17 = .ok (.sipush 1000, 3) := by decide +kernel
theorem dX6_tryFrom_20 : decode cX6_tryFrom 20 = .ok (.if_icmp .lt 4, 3) := by decide +kernel
theorem dX6_tryFrom_23 : decode cX6_tryFrom 23 = .ok (.return_, 1) := by decide +kernel
theorem dX6_tryFrom_24 : decode cX6_tryFrom 24 = .ok (.iload_n 1, 1) := by decide +kernel
theorem dX6_tryFrom_25 : decode cX6_tryFrom 25 = .ok (.aload_n 0, 1) := by decide +kernel
theorem dX6_tryFrom_26 : decode cX6_tryFrom 26 = .ok (.getfield 21, 3) := by decide +kernel
theorem dX6_tryFrom_29 : decode cX6_tryFrom 29 = .ok (.getfield 39, 3) := by decide +kernel
theorem dX6_tryFrom_32 : decode cX6_tryFrom 32 = .ok (.if_icmp .ge 31, 3) := by decide +kernel
theorem dX6_tryFrom_35 : decode cX6_tryFrom 35 = .ok (.aload_n 0, 1) := by decide +kernel
theorem dX6_tryFrom_36 : decode cX6_tryFrom 36 = .ok (.aload_n 0, 1) := by decide +kernel
theorem dX6_tryFrom_37 : decode cX6_tryFrom 37 = .ok (.getfield 21, 3) := by decide +kernel
theorem dX6_tryFrom_40 : decode cX6_tryFrom 40 = .ok (.getfield 44, 3) := by decide +kernel
theorem dX6_tryFrom_43 : decode cX6_tryFrom 43 = .ok (.iload_n 1, 1) := by decide +kernel
theorem dX6_tryFrom_44 : decode cX6_tryFrom 44 = .ok (.iaload, 1) := by decide +kernel
theorem dX6_tryFrom_45 : decode cX6_tryFrom 45 = .ok (.aload_n 0, 1) := by decide +kernel
theorem dX6_tryFrom_46 : decode cX6_tryFrom 46 = .ok (.getfield 21, 3) := by decide +kernel
theorem dX6_tryFrom_49 : decode cX6_tryFrom 49 = .ok (.getfield 48, 3) := by decide +kernel
theorem dX6_tryFrom_52 : decode cX6_tryFrom 52 = .ok (.iload_n 1, 1) := by decide +kernel
theorem dX6_tryFrom_53 : decode cX6_tryFrom 53 = .ok (.iaload, 1) := by decide +kernel
theorem dX6_tryFrom_54 : decode cX6_tryFrom 54 = .ok (.iload_n 1, 1) := by decide +kernel
theorem dX6_tryFrom_55 : decode cX6_tryFrom 55 = .ok (.iload_n 2, 1) := by decide +kernel
theorem dX6_tryFrom_56 : decode cX6_tryFrom 56 = .ok (.iconst 0, 1) := by decide +kernel
theorem dX6_tryFrom_57 : decode cX6_tryFrom 57 = .ok (.invokevirtual 51, 3) := by decide +kernel
theorem dX6_tryFrom_60 : decode cX6_tryFrom 60 = .ok (.goto 25, 3) := by decide +kernel
theorem dX6_tryFrom_63 : decode cX6_tryFrom 63 = .ok (.aload_n 0, 1) := by decide +kernel
theorem dX6_tryFrom_64 : decode cX6_tryFrom 64 = .ok (.getfield 11, 3) := by decide +kernel
theorem dX6_tryFrom_67 : decode cX6_tryFrom 67 = .ok (.iload_n 3, 1) := by decide +kernel
theorem dX6_tryFrom_68 : decode cX6_tryFrom 68 = .ok (.aaload, 1) := by decide +kernel
theorem dX6_tryFrom_69 : decode cX6_tryFrom 69 = .ok (.getfield 55, 3) := by decide +kernel
theorem dX6_tryFrom_72 : decode cX6_tryFrom 72 = .ok (.ifCond .ne 13, 3) := by decide +kernel
theorem dX6_tryFrom_75 : decode cX6_tryFrom 75 = .ok (.aload_n 0, 1) := by decide +kernel
theorem dX6_tryFrom_76 : decode cX6_tryFrom 76 = .ok (.dup, 1) := by decide +kernel
theorem dX6_tryFrom_77 : decode cX6_tryFrom 77 = .ok (.getfield 28, 3) := by decide +kernel
theorem dX6_tryFrom_80 : decode cX6_tryFrom 80 = .ok (.iconst 1, 1) := by decide +kernel
theorem dX6_tryFrom_81 : decode cX6_tryFrom 81 = .ok (.iadd, 1) := by decide +kernel
theorem dX6_tryFrom_82 : decode cX6_tryFrom 82 = .ok (.putfield 28, 3) := by decide +kernel
theorem dX6_tryFrom_85 : decode cX6_tryFrom 85 = .ok (.iconst 0, 1) := by decide +kernel
theorem dX6_tryFrom_86 : decode cX6_tryFrom 86 = .ok (.istore 4, 2) := by decide +kernel
theorem dX6_tryFrom_88 : decode cX6_tryFrom 88 = .ok (.iload 4, 2) := by decide +kernel
theorem dX6_tryFrom_90 : decode cX6_tryFrom 90 = .ok (.bipush 10, 2) := by decide +kernel
theorem dX6_tryFrom_92 : decode cX6_tryFrom 92 = .ok (.if_icmp .ge 60, 3) := by decide +kernel
theorem dX6_tryFrom_95 : decode cX6_tryFrom 95 = .ok (.iload_n 2, 1) := by decide +kernel
theorem dX6_tryFrom_96 : decode cX6_tryFrom 96 = .ok (.iconst 2, 1) := by decide +kernel
theorem dX6_tryFrom_97 : decode cX6_tryFrom 97 = .ok (.if_icmp .ge 55, 3) := by decide +kernel
theorem dX6_tryFrom_100 : decode cX6_tryFrom 100 = .ok (.aload_n 0, 1) := by decide +kernel
theorem dX6_tryFrom_101 : decode cX6_tryFrom 101 = .ok (.getfield 17, 3) := by decide +kernel
theorem dX6_tryFrom_104 : decode cX6_tryFrom 104 = .ok (.getfield 58, 3) := by decide +kernel
theorem dX6_tryFrom_107 : decode cX6_tryFrom 107 = .ok (.iload 4, 2) := by decide +kernel
theorem dX6_tryFrom_109 : decode cX6_tryFrom 109 = .ok (.baload, 1) := by decide +kernel
theorem dX6_tryFrom_110 : decode cX6_tryFrom 110 = .ok (.ifCond .eq 13, 3) := by decide +kernel
theorem dX6_tryFrom_113 : decode cX6_tryFrom 113 = .ok (.aload_n 0, 1) := by decide +kernel
theorem dX6_tryFrom_114 : decode cX6_tryFrom 114 = .ok (.iconst 0, 1) := by decide +kernel
theorem dX6_tryFrom_115 : decode cX6_tryFrom 115 = .ok (.iload 4, 2) := by decide +kernel
theorem dX6_tryFrom_117 : decode cX6_tryFrom 117 = .ok (.iload_n 1, 1) := by decide +kernel
theorem dX6_tryFrom_118 : decode cX6_tryFrom 118 = .ok (.iload_n 2, 1) := by decide +kernel
theorem dX6_tryFrom_119 : decode cX6_tryFrom 119 = .ok (.iconst 1, 1) := by decide +kernel
theorem dX6_tryFrom_120 : decode cX6_tryFrom 120 = .ok (.invokevirtual 51, 3) := by decide +kernel
theorem dX6_tryFrom_123 : decode cX6_tryFrom 123 = .ok (.aload_n 0, 1) := by decide +kernel
theorem dX6_tryFrom_124 : decode cX6_tryFrom 124 = .ok (.getfield 17, 3) := by decide +kernel
theorem dX6_tryFrom_127 : decode cX6_tryFrom 127 = .ok (.getfield 64, 3) := by decide +kernel
theorem dX6_tryFrom_130 : decode cX6_tryFrom 130 = .ok (.iload 4, 2) := by decide +kernel
theorem dX6_tryFrom_132 : decode cX6_tryFrom 132 = .ok (.baload, 1) := by decide +kernel
theorem dX6_tryFrom_133 : decode cX6_tryFrom 133 = .ok (.ifCond .eq 13, 3) := by decide +kernel
theorem dX6_tryFrom_136 : decode cX6_tryFrom 136 = .ok (.aload_n 0, 1) := by decide +kernel
theorem dX6_tryFrom_137 : decode cX6_tryFrom 137 = .ok (.iconst 1, 1) := by decide +kernel
theorem dX6_tryFrom_138 : decode cX6_tryFrom 138 = .ok (.iload 4, 2) := by decide +kernel
theorem dX6_tryFrom_140 : decode cX6_tryFrom 140 = .ok (.iload_n 1, 1) := by decide +kernel
theorem dX6_tryFrom_141 : decode cX6_tryFrom 141 = .ok (.iload_n 2, 1) := by decide +kernel
theorem dX6_tryFrom_142 : decode cX6_tryFrom 142 = .ok (.iconst 1, 1) := by decide +kernel
theorem dX6_tryFrom_143 : decode cX6_tryFrom 143 = .ok (.invokevirtual 51, 3) := by decide +kernel
theorem dX6_tryFrom_146 : decode cX6_tryFrom 146 = .ok (.iinc 4 1, 3) := by decide +kernel
theorem dX6_tryFrom_149 : decode cX6_tryFrom 149 = .ok (.goto (-61), 3) := by decide +kernel
theorem dX6_tryFrom_152 : decode cX6_tryFrom 152 = .ok (.return_, 1) := by decide +kernel
theorem dX6_tryToken_0 : decode cX6_tryToken 0 = .ok (.iload_n 3, 1) := by decide +kernel
theorem dX6_tryToken_1 : decode cX6_tryToken 1 = .ok (.iload 4, 2) := by decide +kernel
theorem dX6_tryToken_3 : decode cX6_tryToken 3 = .ok (.iadd, 1) := by decide +kernel
theorem dX6_tryToken_4 : decode cX6_tryToken 4 = .ok (.istore 6, 2) := by decide +kernel
theorem dX6_tryToken_6 : decode cX6_tryToken 6 = .ok (.iload 6, 2) := by decide +kernel
theorem dX6_tryToken_8 : decode cX6_tryToken 8 = .ok (.iconst 1, 1) := by decide +kernel
theorem dX6_tryToken_9 : decode cX6_tryToken 9 = .ok (.iadd, 1) := by decide +kernel
theorem dX6_tryToken_10 : decode cX6_tryToken 10 = .ok (.aload_n 0, 1) := by decide +kernel
theorem dX6_tryToken_11 : decode cX6_tryToken 11 = .ok (.getfield 11, 3) := by decide +kernel
theorem dX6_tryToken_14 : decode cX6_tryToken 14 = .ok (.arraylength, 1) := by decide +kernel
theorem dX6_tryToken_15 : decode cX6_tryToken 15 = .ok (.if_icmp .lt 4, 3) := by decide +kernel
theorem dX6_tryToken_18 : decode cX6_tryToken 18 = .ok (.return_, 1) := by decide +kernel
theorem dX6_tryToken_19 : decode cX6_tryToken 19 = .ok (.aload_n 0, 1) := by decide +kernel
theorem dX6_tryToken_20 : decode cX6_tryToken 20 = .ok (.getfield 11, 3) := by decide +kernel
theorem dX6_tryToken_23 : decode cX6_tryToken 23 = .ok (.iload 6, 2) := by decide +kernel
theorem dX6_tryToken_25 : decode cX6_tryToken 25 = .ok (.iconst 1, 1) := by decide +kernel
theorem dX6_tryToken_26 : decode cX6_tryToken 26 = .ok (.iadd, 1) := by decide +kernel
theorem dX6_tryToken_27 : decode cX6_tryToken 27 = .ok (.aaload, 1) := by decide +kernel
theorem dX6_tryToken_28 : decode cX6_tryToken 28 = .ok (.aload_n 0, 1) := by decide +kernel
theorem dX6_tryToken_29 : decode cX6_tryToken 29 = .ok (.getfield 11, 3) := by decide +kernel
theorem dX6_tryToken_32 : decode cX6_tryToken 32 = .ok (.iload 6, 2) := by decide +kernel
theorem dX6_tryToken_34 : decode cX6_tryToken 34 = .ok (.aaload, 1) := by decide +kernel
theorem dX6_tryToken_35 : decode cX6_tryToken 35 = .ok (.invokevirtual 67, 3) := by decide +kernel
theorem dX6_tryToken_38 : decode cX6_tryToken 38 = .ok (.aload_n 0, 1) := by decide +kernel
theorem dX6_tryToken_39 : decode cX6_tryToken 39 = .ok (.getfield 11, 3) := by decide +kernel
theorem dX6_tryToken_42 : decode cX6_tryToken 42 = .ok (.iload 6, 2) := by decide +kernel
theorem dX6_tryToken_44 : decode cX6_tryToken 44 = .ok (.iconst 1, 1) := by decide +kernel
theorem dX6_tryToken_45 : decode cX6_tryToken 45 = .ok (.iadd, 1) := by decide +kernel
theorem dX6_tryToken_46 : decode cX6_tryToken 46 = .ok (.aaload, 1) := by decide +kernel
theorem dX6_tryToken_47 : decode cX6_tryToken 47 = .ok (.iload_n 1, 1) := by decide +kernel
theorem dX6_tryToken_48 : decode cX6_tryToken 48 = .ok (.iload_n 2, 1) := by decide +kernel
theorem dX6_tryToken_49 : decode cX6_tryToken 49 = .ok (.invokevirtual 71, 3) := by decide +kernel
theorem dX6_tryToken_52 : decode cX6_tryToken 52 = .ok (.ifCond .eq 33, 3) := by decide +kernel
theorem dX6_tryToken_55 : decode cX6_tryToken 55 = .ok (.aload_n 0, 1) := by decide +kernel
theorem dX6_tryToken_56 : decode cX6_tryToken 56 = .ok (.iload 5, 2) := by decide +kernel
theorem dX6_tryToken_58 : decode cX6_tryToken 58 = .ok (.ifCond .eq 7, 3) := by decide +kernel
theorem dX6_tryToken_61 : decode cX6_tryToken 61 = .ok (.iload_n 3, 1) := by decide +kernel
theorem dX6_tryToken_62 : decode cX6_tryToken 62 = .ok (.goto 6, 3) := by decide +kernel
theorem dX6_tryToken_65 : decode cX6_tryToken 65 = .ok (.iload_n 3, 1) := by decide +kernel
theorem dX6_tryToken_66 : decode cX6_tryToken 66 = .ok (.iconst 1, 1) := by decide +kernel
theorem dX6_tryToken_67 : decode cX6_tryToken 67 = .ok (.iadd, 1) := by decide +kernel
theorem dX6_tryToken_68 : decode cX6_tryToken 68 = .ok (.iload 5, 2) := by decide +kernel
theorem dX6_tryToken_70 : decode cX6_tryToken 70 = .ok (.ifCond .eq 10, 3) := by decide +kernel
theorem dX6_tryToken_73 : decode cX6_tryToken 73 = .ok (.iload 4, 2) := by decide +kernel
theorem dX6_tryToken_75 : decode cX6_tryToken 75 = .ok (.iconst 1, 1) := by decide +kernel
theorem dX6_tryToken_76 : decode cX6_tryToken 76 = .ok (.iadd, 1) := by decide +kernel
theorem dX6_tryToken_77 : decode cX6_tryToken 77 = .ok (.goto 5, 3) := by decide +kernel
theorem dX6_tryToken_80 : decode cX6_tryToken 80 = .ok (.iload 4, 2) := by decide +kernel
theorem dX6_tryToken_82 : decode cX6_tryToken 82 = .ok (.invokevirtual 35, 3) := by decide +kernel
theorem dX6_tryToken_85 : decode cX6_tryToken 85 = .ok (.return_, 1) := by decide +kernel
theorem dX7_init_0 : decode cX7_init 0 = .ok (.aload_n 0, 1) := by decide +kernel
theorem dX7_init_1 : decode cX7_init 1 = .ok (.invokespecial 3, 3) := by decide +kernel
theorem dX7_init_4 : decode cX7_init 4 = .ok (.aload_n 0, 1) := by decide +kernel
theorem dX7_init_5 : decode cX7_init 5 = .ok (.new 9, 3) := by decide +kernel
theorem dX7_init_8 : decode cX7_init 8 = .ok (.dup, 1) := by decide +kernel
theorem dX7_init_9 : decode cX7_init 9 = .ok (.invokespecial 11, 3) := by decide +kernel
theorem dX7_init_12 : decode cX7_init 12 = .ok (.putfield 12, 3) := by decide +kernel
theorem dX7_init_15 : decode cX7_init 15 = .ok (.aload_n 0, 1) := by decide +kernel
theorem dX7_init_16 : decode cX7_init 16 = .ok (.new 16, 3) := by decide +kernel
theorem dX7_init_19 : decode cX7_init 19 = .ok (.dup, 1) := by decide +kernel
theorem dX7_init_20 : decode cX7_init 20 = .ok (.bipush 60, 2) := by decide +kernel
theorem dX7_init_22 : decode cX7_init 22 = .ok (.invokespecial 18, 3) := by decide +kernel
theorem dX7_init_25 : decode cX7_init 25 = .ok (.putfield 21, 3) := by decide +kernel
theorem dX7_init_28 : decode cX7_init 28 = .ok (.aload_n 0, 1) := by decide +kernel
theorem dX7_init_29 : decode cX7_init 29 = .ok (.bipush 6, 2) := by decide +kernel
theorem dX7_init_31 : decode cX7_init 31 = .ok (.anewarray 16, 3) := by decide +kernel
theorem dX7_init_34 : decode cX7_init 34 = .ok (.putfield 25, 3) := by decide +kernel
theorem dX7_init_37 : decode cX7_init 37 = .ok (.aload_n 0, 1) := by decide +kernel
theorem dX7_init_38 : decode cX7_init 38 = .ok (.iconst 4, 1) := by decide +kernel
theorem dX7_init_39 : decode cX7_init 39 = .ok (.newarray .int, 2) := by decide +kernel
theorem dX7_init_41 : decode cX7_init 41 = .ok (.putfield 29, 3) := by decide +kernel
theorem dX7_init_44 : decode cX7_init 44 = .ok (.iconst 0, 1) := by decide +kernel
theorem dX7_init_45 : decode cX7_init 45 = .ok (.istore_n 1, 1) := by decide +kernel
theorem dX7_init_46 : decode cX7_init 46 = .ok (.iload_n 1, 1) := by decide +kernel
theorem dX7_init_47 : decode cX7_init 47 = .ok (.bipush 6, 2) := by decide +kernel
theorem dX7_init_49 : decode cX7_init 49 = .ok (.if_icmp .ge 24, 3) := by decide +kernel
theorem dX7_init_52 : decode cX7_init 52 = .ok (.aload_n 0, 1) := by decide +kernel
theorem dX7_init_53 : decode cX7_init 53 = .ok (.getfield 25, 3) := by decide +kernel
theorem dX7_init_56 : decode cX7_init 56 = .ok (.iload_n 1, 1) := by decide +kernel
theorem dX7_init_57 : decode cX7_init 57 = .ok (.new 16, 3) := by decide +kernel
theorem dX7_init_60 : decode cX7_init 60 = .ok (.dup, 1) := by decide +kernel
theorem dX7_init_61 : decode cX7_init 61 = .ok (.bipush 6, 2) := by decide +kernel
theorem dX7_init_63 : decode cX7_init 63 = .ok (.invokespecial 18, 3) := by decide +kernel
theorem dX7_init_66 : decode cX7_init 66 = .ok (.aastore, 1) := by decide +kernel
theorem dX7_init_67 : decode cX7_init 67 = .ok (.iinc 1 1, 3) := by decide +kernel
theorem dX7_init_70 : decode cX7_init 70 = .ok (.goto (-24), 3) := by decide +kernel
theorem dX7_init_73 : decode cX7_init 73 = .ok (.aload_n 0, 1) := by decide +kernel
theorem dX7_init_74 : decode cX7_init 74 = .ok (.new 33, 3) := by decide +kernel
theorem dX7_init_77 : decode cX7_init 77 = .ok (.dup, 1) := by decide +kernel
theorem dX7_init_78 : decode cX7_init 78 = .ok (.aload_n 0, 1) := by decide +kernel
theorem dX7_init_79 : decode cX7_init 79 = .ok (.getfield 12, 3) := by decide +kernel
theorem dX7_init_82 : decode cX7_init 82 = .ok (.aload_n 0, 1) := by decide +kernel
theorem dX7_init_83 : decode cX7_init 83 = .ok (.getfield 21, 3) := by decide +kernel
theorem dX7_init_86 : decode cX7_init 86 = .ok (.aload_n 0, 1) := by decide +kernel
theorem dX7_init_87 : decode cX7_init 87 = .ok (.getfield 25, 3) := by decide +kernel
theorem dX7_init_90 : decode cX7_init 90 = .ok (.aload_n 0, 1) := by decide +kernel
theorem dX7_init_91 : decode cX7_init 91 = .ok (.getfield 29, 3) := by decide +kernel
theorem dX7_init_94 : decode cX7_init 94 = .ok (.invokespecial 35, 3) := by decide +kernel
theorem dX7_init_97 : decode cX7_init 97 = .ok (.putfield 38, 3) := by decide +kernel
theorem dX7_init_100 : decode cX7_init 100 = .ok (.aload_n 0, 1) := by decide +kernel
theorem dX7_init_101 : decode cX7_init 101 = .ok (.new 42, 3) := by decide +kernel
theorem dX7_init_104 : decode cX7_init 104 = .ok (.dup, 1) := by decide +kernel
theorem dX7_init_105 : decode cX7_init 105 = .ok (.aload_n 0, 1) := by decide +kernel
theorem dX7_init_106 : decode cX7_init 106 = .ok (.getfield 12, 3) := by decide +kernel
theorem dX7_init_109 : decode cX7_init 109 = .ok (.aload_n 0, 1) := by decide +kernel
theorem dX7_init_110 : decode cX7_init 110 = .ok (.getfield 21, 3) := by decide +kernel
theorem dX7_init_113 : decode cX7_init 113 = .ok (.invokespecial 44, 3) := by decide +kernel
theorem dX7_init_116 : decode cX7_init 116 = .ok (.putfield 47, 3) := by decide +kernel
theorem dX7_init_119 : decode cX7_init 119 = .ok (.return_, 1) := by decide +kernel
theorem dX7_slot_0 : decode cX7_slot 0 = .ok (.iload_n 1, 1) := by decide +kernel
theorem dX7_slot_1 : decode cX7_slot 1 = .ok (.bipush 10, 2) := by decide +kernel
theorem dX7_slot_3 : decode cX7_slot 3 = .ok (.invokestatic 51, 3) := by decide +kernel
theorem dX7_slot_6 : decode cX7_slot 6 = .ok (.iload_n 2, 1) := by decide +kernel
theorem dX7_slot_7 : decode cX7_slot 7 = .ok (.ifCond .ne 11, 3) := by decide +kernel
theorem dX7_slot_10 : decode cX7_slot 10 = .ok (.iload_n 3, 1) := by decide +kernel
theorem dX7_slot_11 : decode cX7_slot 11 = .ok (.ifCond .ne 7, 3) := by decide +kernel
theorem dX7_slot_14 : decode cX7_slot 14 = .ok (.iconst 1, 1) := by decide +kernel
theorem dX7_slot_15 : decode cX7_slot 15 = .ok (.goto 4, 3) := by decide +kernel
theorem dX7_slot_18 : decode cX7_slot 18 = .ok (.iconst 0, 1) := by decide +kernel
theorem dX7_slot_19 : decode cX7_slot 19 = .ok (.istore 5, 2) := by decide +kernel
theorem dX7_slot_21 : decode cX7_slot 21 = .ok (.iload_n 2, 1) := by decide +kernel
theorem dX7_slot_22 : decode cX7_slot 22 = .ok (.ifCond .lt 26, 3) := by decide +kernel
theorem dX7_slot_25 : decode cX7_slot 25 = .ok (.iload_n 2, 1) := by decide +kernel
theorem dX7_slot_26 : decode cX7_slot 26 = .ok (.sipush 1024, 3) := by decide +kernel
theorem dX7_slot_29 : decode cX7_slot 29 = .ok (.if_icmp .ge 19, 3) := by decide +kernel
theorem dX7_slot_32 : decode cX7_slot 32 = .ok (.iload 4, 2) := by decide +kernel
theorem dX7_slot_34 : decode cX7_slot 34 = .ok (.ifCond .lt 14, 3) := by decide +kernel
theorem dX7_slot_37 : decode cX7_slot 37 = .ok (.iload 4, 2) := by decide +kernel
theorem dX7_slot_39 : decode cX7_slot 39 = .ok (.iconst 3, 1) := by decide +kernel
theorem dX7_slot_40 : decode cX7_slot 40 = .ok (.if_icmp .gt 8, 3) := by decide +kernel
theorem dX7_slot_43 : decode cX7_slot 43 = .ok (.iload 5, 2) := by decide +kernel
theorem dX7_slot_45 : decode cX7_slot 45 = .ok (.ifCond .eq 13, 3) := by decide +kernel
theorem dX7_slot_48 : decode cX7_slot 48 = .ok (.new 55, 3) := by decide +kernel
theorem dX7_slot_51 : decode cX7_slot 51 = .ok (.dup, 1) := by decide +kernel
theorem dX7_slot_52 : decode cX7_slot 52 = .ok (.ldc 57, 2) := by decide +kernel
theorem dX7_slot_54 : decode cX7_slot 54 = .ok (.invokespecial 59, 3) := by decide +kernel
theorem dX7_slot_57 : decode cX7_slot 57 = .ok (.athrow, 1) := by decide +kernel
theorem dX7_slot_58 : decode cX7_slot 58 = .ok (.aload_n 0, 1) := by decide +kernel
theorem dX7_slot_59 : decode cX7_slot 59 = .ok (.getfield 12, 3) := by decide +kernel
theorem dX7_slot_62 : decode cX7_slot 62 = .ok (.getfield 62, 3) := by decide +kernel
theorem dX7_slot_65 : decode cX7_slot 65 = .ok (.iload_n 1, 1) := by decide +kernel
theorem dX7_slot_66 : decode cX7_slot 66 = .ok (.aaload, 1) := by decide +kernel
theorem dX7_slot_67 : decode cX7_slot 67 = .ok (.astore 6, 2) := by decide +kernel
theorem dX7_slot_69 : decode cX7_slot 69 = .ok (.aload 6, 2) := by decide +kernel
theorem dX7_slot_71 : decode cX7_slot 71 = .ok (.getfield 66, 3) := by decide +kernel
theorem dX7_slot_74 : decode cX7_slot 74 = .ok (.bipush 6, 2) := by decide +kernel
theorem dX7_slot_76 : decode cX7_slot 76 = .ok (.if_icmp .lt 13, 3) := by decide +kernel
theorem dX7_slot_79 : decode cX7_slot 79 = .ok (.new 72, 3) := by decide +kernel
theorem dX7_slot_82 : decode cX7_slot 82 = .ok (.dup, 1) := by decide +kernel
theorem dX7_slot_83 : decode cX7_slot 83 = .ok (.ldc 74, 2) := by decide +kernel
theorem dX7_slot_85 : decode cX7_slot 85 = .ok (.invokespecial 76, 3) := by decide +kernel
theorem dX7_slot_88 : decode cX7_slot 88 = .ok (.athrow, 1) := by decide +kernel
theorem dX7_slot_89 : decode cX7_slot 89 = .ok (.aload 6, 2) := by decide +kernel
theorem dX7_slot_91 : decode cX7_slot 91 = .ok (.iload_n 3, 1) := by decide +kernel
theorem dX7_slot_92 : decode cX7_slot 92 = .ok (.ifCond .eq 11, 3) := by decide +kernel
theorem dX7_slot_95 : decode cX7_slot 95 = .ok (.iload_n 2, 1) := by decide +kernel
theorem dX7_slot_96 : decode cX7_slot 96 = .ok (.sipush 1024, 3) := by decide +kernel
theorem dX7_slot_99 : decode cX7_slot 99 = .ok (.ior, 1) := by decide +kernel
theorem dX7_slot_100 : decode cX7_slot 100 = .ok (.goto 4, 3) := by decide +kernel
theorem dX7_slot_103 : decode cX7_slot 103 = .ok (.iload_n 2, 1) := by decide +kernel
theorem dX7_slot_104 : decode cX7_slot 104 = .ok (.iload 4, 2) := by decide +kernel
theorem dX7_slot_106 : decode cX7_slot 106 = .ok (.invokevirtual 77, 3) := by decide +kernel
theorem dX7_slot_109 : decode cX7_slot 109 = .ok (.aload 6, 2) := by decide +kernel
theorem dX7_slot_111 : decode cX7_slot 111 = .ok (.getfield 80, 3) := by decide +kernel
theorem dX7_slot_114 : decode cX7_slot 114 = .ok (.ifCond .eq 21, 3) := by decide +kernel
theorem dX7_slot_117 : decode cX7_slot 117 = .ok (.aload 6, 2) := by decide +kernel
theorem dX7_slot_119 : decode cX7_slot 119 = .ok (.getfield 80, 3) := by decide +kernel
theorem dX7_slot_122 : decode cX7_slot 122 = .ok (.invokestatic 83, 3) := by decide +kernel
theorem dX7_slot_125 : decode cX7_slot 125 = .ok (.istore 7, 2) := by decide +kernel
theorem dX7_slot_127 : decode cX7_slot 127 = .ok (.aload 6, 2) := by decide +kernel
theorem dX7_slot_129 : decode cX7_slot 129 = .ok (.invokevirtual 87, 3) := by decide +kernel
theorem dX7_slot_132 : decode cX7_slot 132 = .ok (.iload 7, 2) := by decide +kernel
theorem dX7_slot_134 : decode cX7_slot 134 = .ok (.ireturn, 1) := by decide +kernel
theorem dX7_slot_135 : decode cX7_slot 135 = .ok (.aload_n 0, 1) := by decide +kernel
theorem dX7_slot_136 : decode cX7_slot 136 = .ok (.getfield 38, 3) := by decide +kernel
theorem dX7_slot_139 : decode cX7_slot 139 = .ok (.invokevirtual 90, 3) := by decide +kernel
theorem dX7_slot_142 : decode cX7_slot 142 = .ok (.iconst (-1), 1) := by decide +kernel
theorem dX7_slot_143 : decode cX7_slot 143 = .ok (.ireturn, 1) := by decide +kernel
theorem dX7_empty_0 : decode cX7_empty 0 = .ok (.iload_n 1, 1) := by decide +kernel
theorem dX7_empty_1 : decode cX7_empty 1 = .ok (.bipush 10, 2) := by decide +kernel
theorem dX7_empty_3 : decode cX7_empty 3 = .ok (.invokestatic 51, 3) := by decide +kernel
theorem dX7_empty_6 : decode cX7_empty 6 = .ok (.aload_n 0, 1) := by decide +kernel
theorem dX7_empty_7 : decode cX7_empty 7 = .ok (.getfield 12, 3) := by decide +kernel
theorem dX7_empty_10 : decode cX7_empty 10 = .ok (.getfield 62, 3) := by decide +kernel
theorem dX7_empty_13 : decode cX7_empty 13 = .ok (.iload_n 1, 1) := by decide +kernel
theorem dX7_empty_14 : decode cX7_empty 14 = .ok (.aaload, 1) := by decide +kernel
theorem dX7_empty_15 : decode cX7_empty 15 = .ok (.getfield 66, 3) := by decide +kernel
theorem dX7_empty_18 : decode cX7_empty 18 = .ok (.istore_n 2, 1) := by decide +kernel
theorem dX7_empty_19 : decode cX7_empty 19 = .ok (.aload_n 0, 1) := by decide +kernel
theorem dX7_empty_20 : decode cX7_empty 20 = .ok (.getfield 12, 3) := by decide +kernel
theorem dX7_empty_23 : decode cX7_empty 23 = .ok (.getfield 62, 3) := by decide +kernel
theorem dX7_empty_26 : decode cX7_empty 26 = .ok (.iload_n 1, 1) := by decide +kernel
theorem dX7_empty_27 : decode cX7_empty 27 = .ok (.aaload, 1) := by decide +kernel
theorem dX7_empty_28 : decode cX7_empty 28 = .ok (.invokevirtual 93, 3) := by decide +kernel
theorem dX7_empty_31 : decode cX7_empty 31 = .ok (.aload_n 0, 1) := by decide +kernel
theorem dX7_empty_32 : decode cX7_empty 32 = .ok (.getfield 38, 3) := by decide +kernel
theorem dX7_empty_35 : decode cX7_empty 35 = .ok (.invokevirtual 90, 3) := by decide +kernel
theorem dX7_empty_38 : decode cX7_empty 38 = .ok (.iload_n 2, 1) := by decide +kernel
theorem dX7_empty_39 : decode cX7_empty 39 = .ok (.ireturn, 1) := by decide +kernel
theorem dX7_except_0 : decode cX7_except 0 = .ok (.iload_n 1, 1) := by decide +kernel
theorem dX7_except_1 : decode cX7_except 1 = .ok (.bipush 10, 2) := by decide +kernel
theorem dX7_except_3 : decode cX7_except 3 = .ok (.invokestatic 51, 3) := by decide +kernel
theorem dX7_except_6 : decode cX7_except 6 = .ok (.iload_n 2, 1) := by decide +kernel
theorem dX7_except_7 : decode cX7_except 7 = .ok (.ifCond .lt 21, 3) := by decide +kernel
theorem dX7_except_10 : decode cX7_except 10 = .ok (.iload_n 2, 1) := by decide +kernel
theorem dX7_except_11 : decode cX7_except 11 = .ok (.sipush 1024, 3) := by decide +kernel
theorem dX7_except_14 : decode cX7_except 14 = .ok (.if_icmp .ge 14, 3) := by decide +kernel
theorem dX7_except_17 : decode cX7_except 17 = .ok (.iload_n 3, 1) := by decide +kernel
theorem dX7_except_18 : decode cX7_except 18 = .ok (.ifCond .lt 10, 3) := by decide +kernel
theorem dX7_except_21 : decode cX7_except 21 = .ok (.iload_n 3, 1) := by decide +kernel
theorem dX7_except_22 : decode cX7_except 22 = .ok (.sipush 1024, 3) := by decide +kernel
theorem dX7_except_25 : decode cX7_except 25 = .ok (.if_icmp .lt 13, 3) := by decide +kernel
theorem dX7_except_28 : decode cX7_except 28 = .ok (.new 55, 3) := by decide +kernel
theorem dX7_except_31 : decode cX7_except 31 = .ok (.dup, 1) := by decide +kernel
theorem dX7_except_32 : decode cX7_except 32 = .ok (.ldc 96, 2) := by decide +kernel
theorem dX7_except_34 : decode cX7_except 34 = .ok (.invokespecial 59, 3) := by decide +kernel
theorem dX7_except_37 : decode cX7_except 37 = .ok (.athrow, 1) := by decide +kernel
theorem dX7_except_38 : decode cX7_except 38 = .ok (.aload_n 0, 1) := by decide +kernel
theorem dX7_except_39 : decode cX7_except 39 = .ok (.getfield 12, 3) := by decide +kernel
theorem dX7_except_42 : decode cX7_except 42 = .ok (.getfield 98, 3) := by decide +kernel
theorem dX7_except_45 : decode cX7_except 45 = .ok (.iload_n 1, 1) := by decide +kernel
theorem dX7_except_46 : decode cX7_except 46 = .ok (.iload_n 2, 1) := by decide +kernel
theorem dX7_except_47 : decode cX7_except 47 = .ok (.iastore, 1) := by decide +kernel
theorem dX7_except_48 : decode cX7_except 48 = .ok (.aload_n 0, 1) := by decide +kernel
theorem dX7_except_49 : decode cX7_except 49 = .ok (.getfield 12, 3) := by decide +kernel
theorem dX7_except_52 : decode cX7_except 52 = .ok (.getfield 101, 3) := by decide +kernel
theorem dX7_except_55 : decode cX7_except 55 = .ok (.iload_n 1, 1) := by decide +kernel
theorem dX7_except_56 : decode cX7_except 56 = .ok (.iload_n 3, 1) := by decide +kernel
theorem dX7_except_57 : decode cX7_except 57 = .ok (.iastore, 1) := by decide +kernel
theorem dX7_except_58 : decode cX7_except 58 = .ok (.aload_n 0, 1) := by decide +kernel
theorem dX7_except_59 : decode cX7_except 59 = .ok (.getfield 38, 3) := by decide +kernel
theorem dX7_except_62 : decode cX7_except 62 = .ok (.invokevirtual 90, 3) := by decide +kernel
theorem dX7_except_65 : decode cX7_except 65 = .ok (.return_, 1) := by decide +kernel
theorem dX7_omit_0 : decode cX7_omit 0 = .ok (.iload_n 1, 1) := by decide +kernel
theorem dX7_omit_1 : decode cX7_omit 1 = .ok (.bipush 10, 2) := by decide +kernel
theorem dX7_omit_3 : decode cX7_omit 3 = .ok (.invokestatic 51, 3) := by decide +kernel
theorem dX7_omit_6 : decode cX7_omit 6 = .ok (.aload_n 0, 1) := by decide +kernel
theorem dX7_omit_7 : decode cX7_omit 7 = .ok (.getfield 12, 3) := by decide +kernel
theorem dX7_omit_10 : decode cX7_omit 10 = .ok (.getfield 104, 3) := by decide +kernel
theorem dX7_omit_13 : decode cX7_omit 13 = .ok (.iload_n 1, 1) := by decide +kernel
theorem dX7_omit_14 : decode cX7_omit 14 = .ok (.iload_n 2, 1) := by decide +kernel
theorem dX7_omit_15 : decode cX7_omit 15 = .ok (.bastore, 1) := by decide +kernel
theorem dX7_omit_16 : decode cX7_omit 16 = .ok (.aload_n 0, 1) := by decide +kernel
theorem dX7_omit_17 : decode cX7_omit 17 = .ok (.getfield 12, 3) := by decide +kernel
theorem dX7_omit_20 : decode cX7_omit 20 = .ok (.getfield 108, 3) := by decide +kernel
theorem dX7_omit_23 : decode cX7_omit 23 = .ok (.iload_n 1, 1) := by decide +kernel
theorem dX7_omit_24 : decode cX7_omit 24 = .ok (.iload_n 3, 1) := by decide +kernel
theorem dX7_omit_25 : decode cX7_omit 25 = .ok (.bastore, 1) := by decide +kernel
theorem dX7_omit_26 : decode cX7_omit 26 = .ok (.aload_n 0, 1) := by decide +kernel
theorem dX7_omit_27 : decode cX7_omit 27 = .ok (.getfield 38, 3) := by decide +kernel
theorem dX7_omit_30 : decode cX7_omit 30 = .ok (.invokevirtual 90, 3) := by decide +kernel
theorem dX7_omit_33 : decode cX7_omit 33 = .ok (.return_, 1) := by decide +kernel
theorem dX7_entity_0 : decode cX7_entity 0 = .ok (.iload_n 1, 1) := by decide +kernel
theorem dX7_entity_1 : decode cX7_entity 1 = .ok (.bipush 6, 2) := by decide +kernel
theorem dX7_entity_3 : decode cX7_entity 3 = .ok (.invokestatic 51, 3) := by decide +kernel
theorem dX7_entity_6 : decode cX7_entity 6 = .ok (.iload_n 2, 1) := by decide +kernel
theorem dX7_entity_7 : decode cX7_entity 7 = .ok (.iload_n 3, 1) := by decide +kernel
theorem dX7_entity_8 : decode cX7_entity 8 = .ok (.invokestatic 111, 3) := by decide +kernel
theorem dX7_entity_11 : decode cX7_entity 11 = .ok (.aload_n 0, 1) := by decide +kernel
theorem dX7_entity_12 : decode cX7_entity 12 = .ok (.getfield 25, 3) := by decide +kernel
theorem dX7_entity_15 : decode cX7_entity 15 = .ok (.iload_n 1, 1) := by decide +kernel
theorem dX7_entity_16 : decode cX7_entity 16 = .ok (.aaload, 1) := by decide +kernel
theorem dX7_entity_17 : decode cX7_entity 17 = .ok (.astore 4, 2) := by decide +kernel
theorem dX7_entity_19 : decode cX7_entity 19 = .ok (.aload 4, 2) := by decide +kernel
theorem dX7_entity_21 : decode cX7_entity 21 = .ok (.getfield 114, 3) := by decide +kernel
theorem dX7_entity_24 : decode cX7_entity 24 = .ok (.bipush 6, 2) := by decide +kernel
theorem dX7_entity_26 : decode cX7_entity 26 = .ok (.if_icmp .lt 13, 3) := by decide +kernel
theorem dX7_entity_29 : decode cX7_entity 29 = .ok (.new 72, 3) := by decide +kernel
theorem dX7_entity_32 : decode cX7_entity 32 = .ok (.dup, 1) := by decide +kernel
theorem dX7_entity_33 : decode cX7_entity 33 = .ok (.ldc 117, 2) := by decide +kernel
theorem dX7_entity_35 : decode cX7_entity 35 = .ok (.invokespecial 76, 3) := by decide +kernel
theorem dX7_entity_38 : decode cX7_entity 38 = .ok (.athrow, 1) := by decide +kernel
theorem dX7_entity_39 : decode cX7_entity 39 = .ok (.aload 4, 2) := by decide +kernel
theorem dX7_entity_41 : decode cX7_entity 41 = .ok (.aload 4, 2) := by decide +kernel
theorem dX7_entity_43 : decode cX7_entity 43 = .ok (.getfield 114, 3) := by decide +kernel
theorem dX7_entity_46 : decode cX7_entity 46 = .ok (.iload_n 2, 1) := by decide +kernel
theorem dX7_entity_47 : decode cX7_entity 47 = .ok (.iload_n 3, 1) := by decide +kernel
theorem dX7_entity_48 : decode cX7_entity 48 = .ok (.invokevirtual 119, 3) := by decide +kernel
theorem dX7_entity_51 : decode cX7_entity 51 = .ok (.aload_n 0, 1) := by decide +kernel
theorem dX7_entity_52 : decode cX7_entity 52 = .ok (.getfield 38, 3) := by decide +kernel
theorem dX7_entity_55 : decode cX7_entity 55 = .ok (.invokevirtual 90, 3) := by decide +kernel
theorem dX7_entity_58 : decode cX7_entity 58 = .ok (.aload 4, 2) := by decide +kernel
theorem dX7_entity_60 : decode cX7_entity 60 = .ok (.getfield 114, 3) := by decide +kernel
theorem dX7_entity_63 : decode cX7_entity 63 = .ok (.ireturn, 1) := by decide +kernel
theorem dX7_clear_0 : decode cX7_clear 0 = .ok (.iload_n 1, 1) := by decide +kernel
theorem dX7_clear_1 : decode cX7_clear 1 = .ok (.bipush 6, 2) := by decide +kernel
theorem dX7_clear_3 : decode cX7_clear 3 = .ok (.invokestatic 51, 3) := by decide +kernel
theorem dX7_clear_6 : decode cX7_clear 6 = .ok (.aload_n 0, 1) := by decide +kernel
theorem dX7_clear_7 : decode cX7_clear 7 = .ok (.getfield 25, 3) := by decide +kernel
theorem dX7_clear_10 : decode cX7_clear 10 = .ok (.iload_n 1, 1) := by decide +kernel
theorem dX7_clear_11 : decode cX7_clear 11 = .ok (.aaload, 1) := by decide +kernel
theorem dX7_clear_12 : decode cX7_clear 12 = .ok (.getfield 114, 3) := by decide +kernel
theorem dX7_clear_15 : decode cX7_clear 15 = .ok (.istore_n 2, 1) := by decide +kernel
theorem dX7_clear_16 : decode cX7_clear 16 = .ok (.aload_n 0, 1) := by decide +kernel
theorem dX7_clear_17 : decode cX7_clear 17 = .ok (.getfield 25, 3) := by decide +kernel
theorem dX7_clear_20 : decode cX7_clear 20 = .ok (.iload_n 1, 1) := by decide +kernel
theorem dX7_clear_21 : decode cX7_clear 21 = .ok (.aaload, 1) := by decide +kernel
theorem dX7_clear_22 : decode cX7_clear 22 = .ok (.iconst 0, 1) := by decide +kernel
theorem dX7_clear_23 : decode cX7_clear 23 = .ok (.putfield 114, 3) := by decide +kernel
theorem dX7_clear_26 : decode cX7_clear 26 = .ok (.aload_n 0, 1) := by decide +kernel
theorem dX7_clear_27 : decode cX7_clear 27 = .ok (.getfield 38, 3) := by decide +kernel
theorem dX7_clear_30 : decode cX7_clear 30 = .ok (.invokevirtual 90, 3) := by decide +kernel
theorem dX7_clear_33 : decode cX7_clear 33 = .ok (.iload_n 2, 1) := by decide +kernel
theorem dX7_clear_34 : decode cX7_clear 34 = .ok (.ireturn, 1) := by decide +kernel
theorem dX7_flip_0 : decode cX7_flip 0 = .ok (.iload_n 1, 1) := by decide +kernel
theorem dX7_flip_1 : decode cX7_flip 1 = .ok (.iconst 4, 1) := by decide +kernel
theorem dX7_flip_2 : decode cX7_flip 2 = .ok (.invokestatic 51, 3) := by decide +kernel
theorem dX7_flip_5 : decode cX7_flip 5 = .ok (.iload_n 2, 1) := by decide +kernel
theorem dX7_flip_6 : decode cX7_flip 6 = .ok (.ifCond .lt 8, 3) := by decide +kernel
theorem dX7_flip_9 : decode cX7_flip 9 = .ok (.iload_n 2, 1) := by decide +kernel
theorem dX7_flip_10 : decode cX7_flip 10 = .ok (.iconst 2, 1) := by decide +kernel
theorem dX7_flip_11 : decode cX7_flip 11 = .ok (.if_icmp .le 13, 3) := by decide +kernel
theorem dX7_flip_14 : decode cX7_flip 14 = .ok (.new 55, 3) := by decide +kernel
theorem dX7_flip_17 : decode cX7_flip 17 = .ok (.dup, 1) := by decide +kernel
theorem dX7_flip_18 : decode cX7_flip 18 = .ok (.ldc 123, 2) := by decide +kernel
theorem dX7_flip_20 : decode cX7_flip 20 = .ok (.invokespecial 59, 3) := by decide +kernel
theorem dX7_flip_23 : decode cX7_flip 23 = .ok (.athrow, 1) := by decide +kernel
theorem dX7_flip_24 : decode cX7_flip 24 = .ok (.aload_n 0, 1) := by decide +kernel
theorem dX7_flip_25 : decode cX7_flip 25 = .ok (.getfield 29, 3) := by decide +kernel
theorem dX7_flip_28 : decode cX7_flip 28 = .ok (.iload_n 1, 1) := by decide +kernel
theorem dX7_flip_29 : decode cX7_flip 29 = .ok (.iaload, 1) := by decide +kernel
theorem dX7_flip_30 : decode cX7_flip 30 = .ok (.istore_n 3, 1) := by decide +kernel
theorem dX7_flip_31 : decode cX7_flip 31 = .ok (.aload_n 0, 1) := by decide +kernel
theorem dX7_flip_32 : decode cX7_flip 32 = .ok (.getfield 29, 3) := by decide +kernel
theorem dX7_flip_35 : decode cX7_flip 35 = .ok (.iload_n 1, 1) := by decide +kernel
theorem dX7_flip_36 : decode cX7_flip 36 = .ok (.iload_n 2, 1) := by decide +kernel
theorem dX7_flip_37 : decode cX7_flip 37 = .ok (.iastore, 1) := by decide +kernel
theorem dX7_flip_38 : decode cX7_flip 38 = .ok (.aload_n 0, 1) := by decide +kernel
theorem dX7_flip_39 : decode cX7_flip 39 = .ok (.getfield 38, 3) := by decide +kernel
theorem dX7_flip_42 : decode cX7_flip 42 = .ok (.invokevirtual 90, 3) := by decide +kernel
theorem dX7_flip_45 : decode cX7_flip 45 = .ok (.iload_n 3, 1) := by decide +kernel
theorem dX7_flip_46 : decode cX7_flip 46 = .ok (.ireturn, 1) := by decide +kernel
theorem dX7_insert_0 : decode cX7_insert 0 = .ok (.iload_n 1, 1) := by decide +kernel
theorem dX7_insert_1 : decode cX7_insert 1 = .ok (.aload_n 0, 1) := by decide +kernel
theorem dX7_insert_2 : decode cX7_insert 2 = .ok (.getfield 21, 3) := by decide +kernel
theorem dX7_insert_5 : decode cX7_insert 5 = .ok (.getfield 114, 3) := by decide +kernel
theorem dX7_insert_8 : decode cX7_insert 8 = .ok (.iconst 1, 1) := by decide +kernel
theorem dX7_insert_9 : decode cX7_insert 9 = .ok (.iadd, 1) := by decide +kernel
theorem dX7_insert_10 : decode cX7_insert 10 = .ok (.invokestatic 51, 3) := by decide +kernel
theorem dX7_insert_13 : decode cX7_insert 13 = .ok (.iload_n 2, 1) := by decide +kernel
theorem dX7_insert_14 : decode cX7_insert 14 = .ok (.iload_n 3, 1) := by decide +kernel
theorem dX7_insert_15 : decode cX7_insert 15 = .ok (.invokestatic 111, 3) := by decide +kernel
theorem dX7_insert_18 : decode cX7_insert 18 = .ok (.aload_n 0, 1) := by decide +kernel
theorem dX7_insert_19 : decode cX7_insert 19 = .ok (.getfield 21, 3) := by decide +kernel
theorem dX7_insert_22 : decode cX7_insert 22 = .ok (.getfield 114, 3) := by decide +kernel
theorem dX7_insert_25 : decode cX7_insert 25 = .ok (.bipush 60, 2) := by decide +kernel
theorem dX7_insert_27 : decode cX7_insert 27 = .ok (.if_icmp .lt 13, 3) := by decide +kernel
theorem dX7_insert_30 : decode cX7_insert 30 = .ok (.new 72, 3) := by decide +kernel
theorem dX7_insert_33 : decode cX7_insert 33 = .ok (.dup, 1) := by decide +kernel
theorem dX7_insert_34 : decode cX7_insert 34 = .ok (.ldc 125, 2) := by decide +kernel
theorem dX7_insert_36 : decode cX7_insert 36 = .ok (.invokespecial 76, 3) := by decide +kernel
theorem dX7_insert_39 : decode cX7_insert 39 = .ok (.athrow, 1) := by decide +kernel
theorem dX7_insert_40 : decode cX7_insert 40 = .ok (.aload_n 0, 1) := by decide +kernel
theorem dX7_insert_41 : decode cX7_insert 41 = .ok (.getfield 21, 3) := by decide +kernel
theorem dX7_insert_44 : decode cX7_insert 44 = .ok (.iload_n 1, 1) := by decide +kernel
theorem dX7_insert_45 : decode cX7_insert 45 = .ok (.iload_n 2, 1) := by decide +kernel
theorem dX7_insert_46 : decode cX7_insert 46 = .ok (.iload_n 3, 1) := by decide +kernel
theorem dX7_insert_47 : decode cX7_insert 47 = .ok (.invokevirtual 119, 3) := by decide +kernel
theorem dX7_insert_50 : decode cX7_insert 50 = .ok (.aload_n 0, 1) := by decide +kernel
theorem dX7_insert_51 : decode cX7_insert 51 = .ok (.getfield 38, 3) := by decide +kernel
theorem dX7_insert_54 : decode cX7_insert 54 = .ok (.invokevirtual 90, 3) := by decide +kernel
theorem dX7_insert_57 : decode cX7_insert 57 = .ok (.aload_n 0, 1) := by decide +kernel
theorem dX7_insert_58 : decode cX7_insert 58 = .ok (.getfield 38, 3) := by decide +kernel
theorem dX7_insert_61 : decode cX7_insert 61 = .ok (.iload_n 1, 1) := by decide +kernel
theorem dX7_insert_62 : decode cX7_insert 62 = .ok (.iload_n 1, 1) := by decide +kernel
theorem dX7_insert_63 : decode cX7_insert 63 = .ok (.iconst 1, 1) := by decide +kernel
theorem dX7_insert_64 : decode cX7_insert 64 = .ok (.iadd, 1) := by decide +kernel
theorem dX7_insert_65 : decode cX7_insert 65 = .ok (.iconst (-1), 1) := by decide +kernel
theorem dX7_insert_66 : decode cX7_insert 66 = .ok (.invokevirtual 127, 3) := by decide +kernel
theorem dX7_insert_69 : decode cX7_insert 69 = .ok (.aload_n 0, 1) := by decide +kernel
theorem dX7_insert_70 : decode cX7_insert 70 = .ok (.getfield 21, 3) := by decide +kernel
theorem dX7_insert_73 : decode cX7_insert 73 = .ok (.getfield 114, 3) := by decide +kernel
theorem dX7_insert_76 : decode cX7_insert 76 = .ok (.ireturn, 1) := by decide +kernel
theorem dX7_erase_0 : decode cX7_erase 0 = .ok (.iload_n 1, 1) := by decide +kernel
theorem dX7_erase_1 : decode cX7_erase 1 = .ok (.aload_n 0, 1) := by decide +kernel
theorem dX7_erase_2 : decode cX7_erase 2 = .ok (.getfield 21, 3) := by decide +kernel
theorem dX7_erase_5 : decode cX7_erase 5 = .ok (.getfield 114, 3) := by decide +kernel
theorem dX7_erase_8 : decode cX7_erase 8 = .ok (.invokestatic 51, 3) := by decide +kernel
theorem dX7_erase_11 : decode cX7_erase 11 = .ok (.aload_n 0, 1) := by decide +kernel
theorem dX7_erase_12 : decode cX7_erase 12 = .ok (.getfield 21, 3) := by decide +kernel
theorem dX7_erase_15 : decode cX7_erase 15 = .ok (.iload_n 1, 1) := by decide +kernel
theorem dX7_erase_16 : decode cX7_erase 16 = .ok (.invokevirtual 130, 3) := by decide +kernel
theorem dX7_erase_19 : decode cX7_erase 19 = .ok (.aload_n 0, 1) := by decide +kernel
theorem dX7_erase_20 : decode cX7_erase 20 = .ok (.getfield 38, 3) := by decide +kernel
theorem dX7_erase_23 : decode cX7_erase 23 = .ok (.invokevirtual 90, 3) := by decide +kernel
theorem dX7_erase_26 : decode cX7_erase 26 = .ok (.aload_n 0, 1) := by decide +kernel
theorem dX7_erase_27 : decode cX7_erase 27 = .ok (.getfield 38, 3) := by decide +kernel
theorem dX7_erase_30 : decode cX7_erase 30 = .ok (.iload_n 1, 1) := by decide +kernel
theorem dX7_erase_31 : decode cX7_erase 31 = .ok (.iload_n 1, 1) := by decide +kernel
theorem dX7_erase_32 : decode cX7_erase 32 = .ok (.iconst 1, 1) := by decide +kernel
theorem dX7_erase_33 : decode cX7_erase 33 = .ok (.invokevirtual 127, 3) := by decide +kernel
theorem dX7_erase_36 : decode cX7_erase 36 = .ok (.aload_n 0, 1) := by decide +kernel
theorem dX7_erase_37 : decode cX7_erase 37 = .ok (.getfield 21, 3) := by decide +kernel
theorem dX7_erase_40 : decode cX7_erase 40 = .ok (.getfield 114, 3) := by decide +kernel
theorem dX7_erase_43 : decode cX7_erase 43 = .ok (.ireturn, 1) := by decide +kernel
theorem dX7_normalize_0 : decode cX7_normalize 0 = .ok (.aload_n 0, 1) := by decide +kernel
theorem dX7_normalize_1 : decode cX7_normalize 1 = .ok (.getfield 38, 3) := by decide +kernel
theorem dX7_normalize_4 : decode cX7_normalize 4 = .ok (.getfield 133, 3) := by decide +kernel
theorem dX7_normalize_7 : decode cX7_normalize 7 = .ok (.getfield 114, 3) := by decide +kernel
theorem dX7_normalize_10 : decode cX7_normalize 10 = .ok (.bipush 60, 2) := by decide +kernel
theorem dX7_normalize_12 : decode cX7_normalize 12 = .ok (.if_icmp .le 13, 3) := by decide +kernel
theorem dX7_normalize_15 : decode cX7_normalize 15 = .ok (.new 72, 3) := by decide +kernel
theorem dX7_normalize_18 : decode cX7_normalize 18 = .ok (.dup, 1) := by decide +kernel
theorem dX7_normalize_19 : decode cX7_normalize 19 = .ok (.ldc 136, 2) := by decide +kernel
theorem dX7_normalize_21 : decode cX7_normalize 21 = .ok (.invokespecial 76, 3) := by decide +kernel
theorem dX7_normalize_24 : decode cX7_normalize 24 = .ok (.athrow, 1) := by decide +kernel
theorem dX7_normalize_25 : decode cX7_normalize 25 = .ok (.aload_n 0, 1) := by decide +kernel
theorem dX7_normalize_26 : decode cX7_normalize 26 = .ok (.getfield 21, 3) := by decide +kernel
theorem dX7_normalize_29 : decode cX7_normalize 29 = .ok (.aload_n 0, 1) := by decide +kernel
theorem dX7_normalize_30 : decode cX7_normalize 30 = .ok (.getfield 38, 3) := by decide +kernel
theorem dX7_normalize_33 : decode cX7_normalize 33 = .ok (.getfield 133, 3) := by decide +kernel
theorem dX7_normalize_36 : decode cX7_normalize 36 = .ok (.invokevirtual 138, 3) := by decide +kernel
theorem dX7_normalize_39 : decode cX7_normalize 39 = .ok (.aload_n 0, 1) := by decide +kernel
theorem dX7_normalize_40 : decode cX7_normalize 40 = .ok (.getfield 38, 3) := by decide +kernel
theorem dX7_normalize_43 : decode cX7_normalize 43 = .ok (.invokevirtual 90, 3) := by decide +kernel
theorem dX7_normalize_46 : decode cX7_normalize 46 = .ok (.aload_n 0, 1) := by decide +kernel
theorem dX7_normalize_47 : decode cX7_normalize 47 = .ok (.getfield 21, 3) := by decide +kernel
theorem dX7_normalize_50 : decode cX7_normalize 50 = .ok (.getfield 114, 3) := by decide +kernel
theorem dX7_normalize_53 : decode cX7_normalize 53 = .ok (.ireturn, 1) := by decide +kernel
theorem dX7_length_0 : decode cX7_length 0 = .ok (.aload_n 0, 1) := by decide +kernel
theorem dX7_length_1 : decode cX7_length 1 = .ok (.getfield 21, 3) := by decide +kernel
theorem dX7_length_4 : decode cX7_length 4 = .ok (.getfield 114, 3) := by decide +kernel
theorem dX7_length_7 : decode cX7_length 7 = .ok (.ireturn, 1) := by decide +kernel
theorem dX7_anew_0 : decode cX7_anew 0 = .ok (.aload_n 0, 1) := by decide +kernel
theorem dX7_anew_1 : decode cX7_anew 1 = .ok (.getfield 38, 3) := by decide +kernel
theorem dX7_anew_4 : decode cX7_anew 4 = .ok (.getfield 142, 3) := by decide +kernel
theorem dX7_anew_7 : decode cX7_anew 7 = .ok (.ireturn, 1) := by decide +kernel
theorem dX7_open_0 : decode cX7_open 0 = .ok (.iload_n 1, 1) := by decide +kernel
theorem dX7_open_1 : decode cX7_open 1 = .ok (.aload_n 0, 1) := by decide +kernel
theorem dX7_open_2 : decode cX7_open 2 = .ok (.getfield 21, 3) := by decide +kernel
theorem dX7_open_5 : decode cX7_open 5 = .ok (.getfield 114, 3) := by decide +kernel
theorem dX7_open_8 : decode cX7_open 8 = .ok (.iconst 1, 1) := by decide +kernel
theorem dX7_open_9 : decode cX7_open 9 = .ok (.iadd, 1) := by decide +kernel
theorem dX7_open_10 : decode cX7_open 10 = .ok (.invokestatic 51, 3) := by decide +kernel
theorem dX7_open_13 : decode cX7_open 13 = .ok (.aload_n 0, 1) := by decide +kernel
theorem dX7_open_14 : decode cX7_open 14 = .ok (.getfield 38, 3) := by decide +kernel
theorem dX7_open_17 : decode cX7_open 17 = .ok (.getfield 145, 3) := by decide +kernel
theorem dX7_open_20 : decode cX7_open 20 = .ok (.iload_n 1, 1) := by decide +kernel
theorem dX7_open_21 : decode cX7_open 21 = .ok (.aaload, 1) := by decide +kernel
theorem dX7_open_22 : decode cX7_open 22 = .ok (.getfield 149, 3) := by decide +kernel
theorem dX7_open_25 : decode cX7_open 25 = .ok (.ireturn, 1) := by decide +kernel
theorem dX7_current_0 : decode cX7_current 0 = .ok (.iload_n 1, 1) := by decide +kernel
theorem dX7_current_1 : decode cX7_current 1 = .ok (.aload_n 0, 1) := by decide +kernel
theorem dX7_current_2 : decode cX7_current 2 = .ok (.getfield 21, 3) := by decide +kernel
theorem dX7_current_5 : decode cX7_current 5 = .ok (.getfield 114, 3) := by decide +kernel
theorem dX7_current_8 : decode cX7_current 8 = .ok (.iconst 1, 1) := by decide +kernel
theorem dX7_current_9 : decode cX7_current 9 = .ok (.iadd, 1) := by decide +kernel
theorem dX7_current_10 : decode cX7_current 10 = .ok (.invokestatic 51, 3) := by decide +kernel
theorem dX7_current_13 : decode cX7_current 13 = .ok (.aload_n 0, 1) := by decide +kernel
theorem dX7_current_14 : decode cX7_current 14 = .ok (.getfield 38, 3) := by decide +kernel
theorem dX7_current_17 : decode cX7_current 17 = .ok (.getfield 145, 3) := by decide +kernel
theorem dX7_current_20 : decode cX7_current 20 = .ok (.iload_n 1, 1) := by decide +kernel
theorem dX7_current_21 : decode cX7_current 21 = .ok (.aaload, 1) := by decide +kernel
theorem dX7_current_22 : decode cX7_current 22 = .ok (.invokevirtual 154, 3) := by decide +kernel
theorem dX7_current_25 : decode cX7_current 25 = .ok (.ireturn, 1) := by decide +kernel
theorem dX7_next_0 : decode cX7_next 0 = .ok (.iload_n 1, 1) := by decide +kernel
theorem dX7_next_1 : decode cX7_next 1 = .ok (.aload_n 0, 1) := by decide +kernel
theorem dX7_next_2 : decode cX7_next 2 = .ok (.getfield 21, 3) := by decide +kernel
theorem dX7_next_5 : decode cX7_next 5 = .ok (.getfield 114, 3) := by decide +kernel
theorem dX7_next_8 : decode cX7_next 8 = .ok (.iconst 1, 1) := by decide +kernel
theorem dX7_next_9 : decode cX7_next 9 = .ok (.iadd, 1) := by decide +kernel
theorem dX7_next_10 : decode cX7_next 10 = .ok (.invokestatic 51, 3) := by decide +kernel
theorem dX7_next_13 : decode cX7_next 13 = .ok (.aload_n 0, 1) := by decide +kernel
theorem dX7_next_14 : decode cX7_next 14 = .ok (.getfield 38, 3) := by decide +kernel
theorem dX7_next_17 : decode cX7_next 17 = .ok (.getfield 145, 3) := by decide +kernel
theorem dX7_next_20 : decode cX7_next 20 = .ok (.iload_n 1, 1) := by decide +kernel
theorem dX7_next_21 : decode cX7_next 21 = .ok (.aaload, 1) := by decide +kernel
theorem dX7_next_22 : decode cX7_next 22 = .ok (.invokevirtual 158, 3) := by decide +kernel
theorem dX7_next_25 : decode cX7_next 25 = .ok (.ireturn, 1) := by decide +kernel
theorem dX7_things_0 : decode cX7_things 0 = .ok (.aload_n 0, 1) := by decide +kernel
theorem dX7_things_1 : decode cX7_things 1 = .ok (.getfield 38, 3) := by decide +kernel
theorem dX7_things_4 : decode cX7_things 4 = .ok (.getfield 161, 3) := by decide +kernel
theorem dX7_things_7 : decode cX7_things 7 = .ok (.getfield 165, 3) := by decide +kernel
theorem dX7_things_10 : decode cX7_things 10 = .ok (.ireturn, 1) := by decide +kernel
theorem dX7_kind_0 : decode cX7_kind 0 = .ok (.iload_n 1, 1) := by decide +kernel
theorem dX7_kind_1 : decode cX7_kind 1 = .ok (.aload_n 0, 1) := by decide +kernel
theorem dX7_kind_2 : decode cX7_kind 2 = .ok (.getfield 38, 3) := by decide +kernel
theorem dX7_kind_5 : decode cX7_kind 5 = .ok (.getfield 161, 3) := by decide +kernel
theorem dX7_kind_8 : decode cX7_kind 8 = .ok (.getfield 165, 3) := by decide +kernel
theorem dX7_kind_11 : decode cX7_kind 11 = .ok (.invokestatic 51, 3) := by decide +kernel
theorem dX7_kind_14 : decode cX7_kind 14 = .ok (.aload_n 0, 1) := by decide +kernel
theorem dX7_kind_15 : decode cX7_kind 15 = .ok (.getfield 38, 3) := by decide +kernel
theorem dX7_kind_18 : decode cX7_kind 18 = .ok (.getfield 161, 3) := by decide +kernel
theorem dX7_kind_21 : decode cX7_kind 21 = .ok (.getfield 168, 3) := by decide +kernel
theorem dX7_kind_24 : decode cX7_kind 24 = .ok (.iload_n 1, 1) := by decide +kernel
theorem dX7_kind_25 : decode cX7_kind 25 = .ok (.iaload, 1) := by decide +kernel
theorem dX7_kind_26 : decode cX7_kind 26 = .ok (.ireturn, 1) := by decide +kernel
theorem dX7_parent_0 : decode cX7_parent 0 = .ok (.iload_n 1, 1) := by decide +kernel
theorem dX7_parent_1 : decode cX7_parent 1 = .ok (.aload_n 0, 1) := by decide +kernel
theorem dX7_parent_2 : decode cX7_parent 2 = .ok (.getfield 38, 3) := by decide +kernel
theorem dX7_parent_5 : decode cX7_parent 5 = .ok (.getfield 161, 3) := by decide +kernel
theorem dX7_parent_8 : decode cX7_parent 8 = .ok (.getfield 165, 3) := by decide +kernel
theorem dX7_parent_11 : decode cX7_parent 11 = .ok (.invokestatic 51, 3) := by decide +kernel
theorem dX7_parent_14 : decode cX7_parent 14 = .ok (.aload_n 0, 1) := by decide +kernel
theorem dX7_parent_15 : decode cX7_parent 15 = .ok (.getfield 38, 3) := by decide +kernel
theorem dX7_parent_18 : decode cX7_parent 18 = .ok (.getfield 161, 3) := by decide +kernel
theorem dX7_parent_21 : decode cX7_parent 21 = .ok (.getfield 171, 3) := by decide +kernel
theorem dX7_parent_24 : decode cX7_parent 24 = .ok (.iload_n 1, 1) := by decide +kernel
theorem dX7_parent_25 : decode cX7_parent 25 = .ok (.iaload, 1) := by decide +kernel
theorem dX7_parent_26 : decode cX7_parent 26 = .ok (.ireturn, 1) := by decide +kernel
theorem dX7_letter_0 : decode cX7_letter 0 = .ok (.iload_n 1, 1) := by decide +kernel
theorem dX7_letter_1 : decode cX7_letter 1 = .ok (.aload_n 0, 1) := by decide +kernel
theorem dX7_letter_2 : decode cX7_letter 2 = .ok (.getfield 38, 3) := by decide +kernel
theorem dX7_letter_5 : decode cX7_letter 5 = .ok (.getfield 161, 3) := by decide +kernel
theorem dX7_letter_8 : decode cX7_letter 8 = .ok (.getfield 165, 3) := by decide +kernel
theorem dX7_letter_11 : decode cX7_letter 11 = .ok (.invokestatic 51, 3) := by decide +kernel
theorem dX7_letter_14 : decode cX7_letter 14 = .ok (.aload_n 0, 1) := by decide +kernel
theorem dX7_letter_15 : decode cX7_letter 15 = .ok (.getfield 38, 3) := by decide +kernel
theorem dX7_letter_18 : decode cX7_letter 18 = .ok (.getfield 161, 3) := by decide +kernel
theorem dX7_letter_21 : decode cX7_letter 21 = .ok (.getfield 174, 3) := by decide +kernel
theorem dX7_letter_24 : decode cX7_letter 24 = .ok (.iload_n 1, 1) := by decide +kernel
theorem dX7_letter_25 : decode cX7_letter 25 = .ok (.caload, 1) := by decide +kernel
theorem dX7_letter_26 : decode cX7_letter 26 = .ok (.ireturn, 1) := by decide +kernel
theorem dX7_placeOf_0 : decode cX7_placeOf 0 = .ok (.iload_n 1, 1) := by decide +kernel
theorem dX7_placeOf_1 : decode cX7_placeOf 1 = .ok (.aload_n 0, 1) := by decide +kernel
theorem dX7_placeOf_2 : decode cX7_placeOf 2 = .ok (.getfield 38, 3) := by decide +kernel
theorem dX7_placeOf_5 : decode cX7_placeOf 5 = .ok (.getfield 161, 3) := by decide +kernel
theorem dX7_placeOf_8 : decode cX7_placeOf 8 = .ok (.getfield 165, 3) := by decide +kernel
theorem dX7_placeOf_11 : decode cX7_placeOf 11 = .ok (.invokestatic 51, 3) := by decide +kernel
theorem dX7_placeOf_14 : decode cX7_placeOf 14 = .ok (.aload_n 0, 1) := by decide +kernel
theorem dX7_placeOf_15 : decode cX7_placeOf 15 = .ok (.getfield 38, 3) := by decide +kernel
theorem dX7_placeOf_18 : decode cX7_placeOf 18 = .ok (.getfield 161, 3) := by decide +kernel
theorem dX7_placeOf_21 : decode cX7_placeOf 21 = .ok (.getfield 178, 3) := by decide +kernel
theorem dX7_placeOf_24 : decode cX7_placeOf 24 = .ok (.iload_n 1, 1) := by decide +kernel
theorem dX7_placeOf_25 : decode cX7_placeOf 25 = .ok (.iaload, 1) := by decide +kernel
theorem dX7_placeOf_26 : decode cX7_placeOf 26 = .ok (.ireturn, 1) := by decide +kernel
theorem dX7_isPutIn_0 : decode cX7_isPutIn 0 = .ok (.iload_n 1, 1) := by decide +kernel
theorem dX7_isPutIn_1 : decode cX7_isPutIn 1 = .ok (.aload_n 0, 1) := by decide +kernel
theorem dX7_isPutIn_2 : decode cX7_isPutIn 2 = .ok (.getfield 38, 3) := by decide +kernel
theorem dX7_isPutIn_5 : decode cX7_isPutIn 5 = .ok (.getfield 161, 3) := by decide +kernel
theorem dX7_isPutIn_8 : decode cX7_isPutIn 8 = .ok (.getfield 165, 3) := by decide +kernel
theorem dX7_isPutIn_11 : decode cX7_isPutIn 11 = .ok (.invokestatic 51, 3) := by decide +kernel
theorem dX7_isPutIn_14 : decode cX7_isPutIn 14 = .ok (.aload_n 0, 1) := by decide +kernel
theorem dX7_isPutIn_15 : decode cX7_isPutIn 15 = .ok (.getfield 38, 3) := by decide +kernel
theorem dX7_isPutIn_18 : decode cX7_isPutIn 18 = .ok (.getfield 161, 3) := by decide +kernel
theorem dX7_isPutIn_21 : decode cX7_isPutIn 21 = .ok (.getfield 181, 3) := by decide +kernel
theorem dX7_isPutIn_24 : decode cX7_isPutIn 24 = .ok (.iload_n 1, 1) := by decide +kernel
theorem dX7_isPutIn_25 : decode cX7_isPutIn 25 = .ok (.baload, 1) := by decide +kernel
theorem dX7_isPutIn_26 : decode cX7_isPutIn 26 = .ok (.ireturn, 1) := by decide +kernel
theorem dX7_endsPutIn_0 : decode cX7_endsPutIn 0 = .ok (.aload_n 0, 1) := by decide +kernel
theorem dX7_endsPutIn_1 : decode cX7_endsPutIn 1 = .ok (.getfield 38, 3) := by decide +kernel
theorem dX7_endsPutIn_4 : decode cX7_endsPutIn 4 = .ok (.getfield 184, 3) := by decide +kernel
theorem dX7_endsPutIn_7 : decode cX7_endsPutIn 7 = .ok (.ireturn, 1) := by decide +kernel
theorem dX7_errors_0 : decode cX7_errors 0 = .ok (.aload_n 0, 1) := by decide +kernel
theorem dX7_errors_1 : decode cX7_errors 1 = .ok (.getfield 38, 3) := by decide +kernel
theorem dX7_errors_4 : decode cX7_errors 4 = .ok (.getfield 187, 3) := by decide +kernel
theorem dX7_errors_7 : decode cX7_errors 7 = .ok (.ireturn, 1) := by decide +kernel
theorem dX7_errorKind_0 : decode cX7_errorKind 0 = .ok (.iload_n 1, 1) := by decide +kernel
theorem dX7_errorKind_1 : decode cX7_errorKind 1 = .ok (.aload_n 0, 1) := by decide +kernel
theorem dX7_errorKind_2 : decode cX7_errorKind 2 = .ok (.getfield 38, 3) := by decide +kernel
theorem dX7_errorKind_5 : decode cX7_errorKind 5 = .ok (.getfield 187, 3) := by decide +kernel
theorem dX7_errorKind_8 : decode cX7_errorKind 8 = .ok (.invokestatic 51, 3) := by decide +kernel
theorem dX7_errorKind_11 : decode cX7_errorKind 11 = .ok (.aload_n 0, 1) := by decide +kernel
theorem dX7_errorKind_12 : decode cX7_errorKind 12 = .ok (.getfield 38, 3) := by decide +kernel
theorem dX7_errorKind_15 : decode cX7_errorKind 15 = .ok (.getfield 190, 3) := by decide +kernel
theorem dX7_errorKind_18 : decode cX7_errorKind 18 = .ok (.iload_n 1, 1) := by decide +kernel
theorem dX7_errorKind_19 : decode cX7_errorKind 19 = .ok (.iaload, 1) := by decide +kernel
theorem dX7_errorKind_20 : decode cX7_errorKind 20 = .ok (.ireturn, 1) := by decide +kernel
theorem dX7_errorAt_0 : decode cX7_errorAt 0 = .ok (.iload_n 1, 1) := by decide +kernel
theorem dX7_errorAt_1 : decode cX7_errorAt 1 = .ok (.aload_n 0, 1) := by decide +kernel
theorem dX7_errorAt_2 : decode cX7_errorAt 2 = .ok (.getfield 38, 3) := by decide +kernel
theorem dX7_errorAt_5 : decode cX7_errorAt 5 = .ok (.getfield 187, 3) := by decide +kernel
theorem dX7_errorAt_8 : decode cX7_errorAt 8 = .ok (.invokestatic 51, 3) := by decide +kernel
theorem dX7_errorAt_11 : decode cX7_errorAt 11 = .ok (.aload_n 0, 1) := by decide +kernel
theorem dX7_errorAt_12 : decode cX7_errorAt 12 = .ok (.getfield 38, 3) := by decide +kernel
theorem dX7_errorAt_15 : decode cX7_errorAt 15 = .ok (.getfield 193, 3) := by decide +kernel
theorem dX7_errorAt_18 : decode cX7_errorAt 18 = .ok (.iload_n 1, 1) := by decide +kernel
theorem dX7_errorAt_19 : decode cX7_errorAt 19 = .ok (.iaload, 1) := by decide +kernel
theorem dX7_errorAt_20 : decode cX7_errorAt 20 = .ok (.ireturn, 1) := by decide +kernel
theorem dX7_normal_0 : decode cX7_normal 0 = .ok (.aload_n 0, 1) := by decide +kernel
theorem dX7_normal_1 : decode cX7_normal 1 = .ok (.getfield 38, 3) := by decide +kernel
theorem dX7_normal_4 : decode cX7_normal 4 = .ok (.getfield 133, 3) := by decide +kernel
theorem dX7_normal_7 : decode cX7_normal 7 = .ok (.getfield 114, 3) := by decide +kernel
theorem dX7_normal_10 : decode cX7_normal 10 = .ok (.ireturn, 1) := by decide +kernel
theorem dX7_normalSort_0 : decode cX7_normalSort 0 = .ok (.iload_n 1, 1) := by decide +kernel
theorem dX7_normalSort_1 : decode cX7_normalSort 1 = .ok (.aload_n 0, 1) := by decide +kernel
theorem dX7_normalSort_2 : decode cX7_normalSort 2 = .ok (.getfield 38, 3) := by decide +kernel
theorem dX7_normalSort_5 : decode cX7_normalSort 5 = .ok (.getfield 133, 3) := by decide +kernel
theorem dX7_normalSort_8 : decode cX7_normalSort 8 = .ok (.getfield 114, 3) := by decide +kernel
theorem dX7_normalSort_11 : decode cX7_normalSort 11 = .ok (.invokestatic 51, 3) := by decide +kernel
theorem dX7_normalSort_14 : decode cX7_normalSort 14 = .ok (.aload_n 0, 1) := by decide +kernel
theorem dX7_normalSort_15 : decode cX7_normalSort 15 = .ok (.getfield 38, 3) := by decide +kernel
theorem dX7_normalSort_18 : decode cX7_normalSort 18 = .ok (.getfield 133, 3) := by decide +kernel
theorem dX7_normalSort_21 : decode cX7_normalSort 21 = .ok (.getfield 196, 3) := by decide +kernel
theorem dX7_normalSort_24 : decode cX7_normalSort 24 = .ok (.iload_n 1, 1) := by decide +kernel
theorem dX7_normalSort_25 : decode cX7_normalSort 25 = .ok (.iaload, 1) := by decide +kernel
theorem dX7_normalSort_26 : decode cX7_normalSort 26 = .ok (.ireturn, 1) := by decide +kernel
theorem dX7_normalValue_0 : decode cX7_normalValue 0 = .ok (.iload_n 1, 1) := by decide +kernel
theorem dX7_normalValue_1 : decode cX7_normalValue 1 = .ok (.aload_n 0, 1) := by decide +kernel
theorem dX7_normalValue_2 : decode cX7_normalValue 2 = .ok (.getfield 38, 3) := by decide +kernel
theorem dX7_normalValue_5 : decode cX7_normalValue 5 = .ok (.getfield 133, 3) := by decide +kernel
theorem dX7_normalValue_8 : decode cX7_normalValue 8 = .ok (.getfield 114, 3) := by decide +kernel
theorem dX7_normalValue_11 : decode cX7_normalValue 11 = .ok (.invokestatic 51, 3) := by decide +kernel
theorem dX7_normalValue_14 : decode cX7_normalValue 14 = .ok (.aload_n 0, 1) := by decide +kernel
theorem dX7_normalValue_15 : decode cX7_normalValue 15 = .ok (.getfield 38, 3) := by decide +kernel
theorem dX7_normalValue_18 : decode cX7_normalValue 18 = .ok (.getfield 133, 3) := by decide +kernel
theorem dX7_normalValue_21 : decode cX7_normalValue 21 = .ok (.getfield 199, 3) := by decide +kernel
theorem dX7_normalValue_24 : decode cX7_normalValue 24 = .ok (.iload_n 1, 1) := by decide +kernel
theorem dX7_normalValue_25 : decode cX7_normalValue 25 = .ok (.iaload, 1) := by decide +kernel
theorem dX7_normalValue_26 : decode cX7_normalValue 26 = .ok (.ireturn, 1) := by decide +kernel
theorem dX7_isSame_0 : decode cX7_isSame 0 = .ok (.aload_n 0, 1) := by decide +kernel
theorem dX7_isSame_1 : decode cX7_isSame 1 = .ok (.getfield 38, 3) := by decide +kernel
theorem dX7_isSame_4 : decode cX7_isSame 4 = .ok (.invokevirtual 202, 3) := by decide +kernel
theorem dX7_isSame_7 : decode cX7_isSame 7 = .ok (.ireturn, 1) := by decide +kernel
theorem dX7_ways_0 : decode cX7_ways 0 = .ok (.aload_n 0, 1) := by decide +kernel
theorem dX7_ways_1 : decode cX7_ways 1 = .ok (.getfield 21, 3) := by decide +kernel
theorem dX7_ways_4 : decode cX7_ways 4 = .ok (.getfield 114, 3) := by decide +kernel
theorem dX7_ways_7 : decode cX7_ways 7 = .ok (.bipush 6, 2) := by decide +kernel
theorem dX7_ways_9 : decode cX7_ways 9 = .ok (.if_icmp .le 13, 3) := by decide +kernel
theorem dX7_ways_12 : decode cX7_ways 12 = .ok (.new 72, 3) := by decide +kernel
theorem dX7_ways_15 : decode cX7_ways 15 = .ok (.dup, 1) := by decide +kernel
theorem dX7_ways_16 : decode cX7_ways 16 = .ok (.ldc 206, 2) := by decide +kernel
theorem dX7_ways_18 : decode cX7_ways 18 = .ok (.invokespecial 76, 3) := by decide +kernel
theorem dX7_ways_21 : decode cX7_ways 21 = .ok (.athrow, 1) := by decide +kernel
theorem dX7_ways_22 : decode cX7_ways 22 = .ok (.iconst 0, 1) := by decide +kernel
theorem dX7_ways_23 : decode cX7_ways 23 = .ok (.istore_n 1, 1) := by decide +kernel
theorem dX7_ways_24 : decode cX7_ways 24 = .ok (.iload_n 1, 1) := by decide +kernel
theorem dX7_ways_25 : decode cX7_ways 25 = .ok (.aload_n 0, 1) := by decide +kernel
theorem dX7_ways_26 : decode cX7_ways 26 = .ok (.getfield 21, 3) := by decide +kernel
theorem dX7_ways_29 : decode cX7_ways 29 = .ok (.getfield 114, 3) := by decide +kernel
theorem dX7_ways_32 : decode cX7_ways 32 = .ok (.if_icmp .ge 43, 3) := by decide +kernel
theorem dX7_ways_35 : decode cX7_ways 35 = .ok (.aload_n 0, 1) := by decide +kernel
theorem dX7_ways_36 : decode cX7_ways 36 = .ok (.getfield 21, 3) := by decide +kernel
theorem dX7_ways_39 : decode cX7_ways 39 = .ok (.getfield 196, 3) := by decide +kernel
theorem dX7_ways_42 : decode cX7_ways 42 = .ok (.iload_n 1, 1) := by decide +kernel
theorem dX7_ways_43 : decode cX7_ways 43 = .ok (.iaload, 1) := by decide +kernel
theorem dX7_ways_44 : decode cX7_ways 44 = .ok (.istore_n 2, 1) := by decide +kernel
theorem dX7_ways_45 : decode cX7_ways 45 = .ok (.iload_n 2, 1) := by decide +kernel
theorem dX7_ways_46 : decode cX7_ways 46 = .ok (.ifCond .eq 23, 3) := by decide +kernel
theorem dX7_ways_49 : decode cX7_ways 49 = .ok (.iload_n 2, 1) := by decide +kernel
theorem dX7_ways_50 : decode cX7_ways 50 = .ok (.iconst 1, 1) := by decide +kernel
theorem dX7_ways_51 : decode cX7_ways 51 = .ok (.if_icmp .eq 18, 3) := by decide +kernel
theorem dX7_ways_54 : decode cX7_ways 54 = .ok (.iload_n 2, 1) := by decide +kernel
theorem dX7_ways_55 : decode cX7_ways 55 = .ok (.iconst 4, 1) := by decide +kernel
theorem dX7_ways_56 : decode cX7_ways 56 = .ok (.if_icmp .eq 13, 3) := by decide +kernel
theorem dX7_ways_59 : decode cX7_ways 59 = .ok (.new 72, 3) := by decide +kernel
theorem dX7_ways_62 : decode cX7_ways 62 = .ok (.dup, 1) := by decide +kernel
theorem dX7_ways_63 : decode cX7_ways 63 = .ok (.ldc 208, 2) := by decide +kernel
theorem dX7_ways_65 : decode cX7_ways 65 = .ok (.invokespecial 76, 3) := by decide +kernel
theorem dX7_ways_68 : decode cX7_ways 68 = .ok (.athrow, 1) := by decide +kernel
theorem dX7_ways_69 : decode cX7_ways 69 = .ok (.iinc 1 1, 3) := by decide +kernel
theorem dX7_ways_72 : decode cX7_ways 72 = .ok (.goto (-48), 3) := by decide +kernel
theorem dX7_ways_75 : decode cX7_ways 75 = .ok (.aload_n 0, 1) := by decide +kernel
theorem dX7_ways_76 : decode cX7_ways 76 = .ok (.getfield 47, 3) := by decide +kernel
theorem dX7_ways_79 : decode cX7_ways 79 = .ok (.invokevirtual 210, 3) := by decide +kernel
theorem dX7_ways_82 : decode cX7_ways 82 = .ok (.ireturn, 1) := by decide +kernel
theorem dX7_checkIndex_0 : decode cX7_checkIndex 0 = .ok (.iload_n 0, 1) := by decide +kernel
theorem dX7_checkIndex_1 : decode cX7_checkIndex 1 = .ok (.ifCond .lt 8, 3) := by decide +kernel
theorem dX7_checkIndex_4 : decode cX7_checkIndex 4 = .ok (.iload_n 0, 1) := by decide +kernel
theorem dX7_checkIndex_5 : decode cX7_checkIndex 5 = .ok (.iload_n 1, 1) := by decide +kernel
theorem dX7_checkIndex_6 : decode cX7_checkIndex 6 = .ok (.if_icmp .lt 13, 3) := by decide +kernel
theorem dX7_checkIndex_9 : decode cX7_checkIndex 9 = .ok (.new 213, 3) := by decide +kernel
theorem dX7_checkIndex_12 : decode cX7_checkIndex 12 = .ok (.dup, 1) := by decide +kernel
theorem dX7_checkIndex_13 : decode cX7_checkIndex 13 = .ok (.ldc 215, 2) := by decide +kernel
theorem dX7_checkIndex_15 : decode cX7_checkIndex 15 = .ok (.invokespecial 217, 3) := by decide +kernel
theorem dX7_checkIndex_18 : decode cX7_checkIndex 18 = .ok (.athrow, 1) := by decide +kernel
theorem dX7_checkIndex_19 : decode cX7_checkIndex 19 = .ok (.return_, 1) := by decide +kernel
theorem dX7_checkToken_0 : decode cX7_checkToken 0 = .ok (.iload_n 0, 1) := by decide +kernel
theorem dX7_checkToken_1 : decode cX7_checkToken 1 = .ok (.ifCond .lt 17, 3) := by decide +kernel
theorem dX7_checkToken_4 : decode cX7_checkToken 4 = .ok (.iload_n 0, 1) := by decide +kernel
theorem dX7_checkToken_5 : decode cX7_checkToken 5 = .ok (.bipush 8, 2) := by decide +kernel
theorem dX7_checkToken_7 : decode cX7_checkToken 7 = .ok (.if_icmp .gt 11, 3) := by decide +kernel
theorem dX7_checkToken_10 : decode cX7_checkToken 10 = .ok (.iload_n 0, 1) := by decide +kernel
theorem dX7_checkToken_11 : decode cX7_checkToken 11 = .ok (.iload_n 1, 1) := by decide +kernel
theorem dX7_checkToken_12 : decode cX7_checkToken 12 = .ok (.invokestatic 218, 3) := by decide +kernel
theorem dX7_checkToken_15 : decode cX7_checkToken 15 = .ok (.ifCond .ne 13, 3) := by decide +kernel
theorem dX7_checkToken_18 : decode cX7_checkToken 18 = .ok (.new 55, 3) := by decide +kernel
theorem dX7_checkToken_21 : decode cX7_checkToken 21 = .ok (.dup, 1) := by decide +kernel
theorem dX7_checkToken_22 : decode cX7_checkToken 22 = .ok (.ldc 222, 2) := by decide +kernel
theorem dX7_checkToken_24 : decode cX7_checkToken 24 = .ok (.invokespecial 59, 3) := by decide +kernel
theorem dX7_checkToken_27 : decode cX7_checkToken 27 = .ok (.athrow, 1) := by decide +kernel
theorem dX7_checkToken_28 : decode cX7_checkToken 28 = .ok (.return_, 1) := by decide +kernel
theorem dX7_isValueOf_0 : decode cX7_isValueOf 0 = .ok (.iload_n 0, 1) := by decide +kernel
theorem dX7_isValueOf_1 : decode cX7_isValueOf 1 = .ok (.tableswitch 112 0 7 #[47, 47, 112, 112, 63, 112, 81, 97], 47) := by decide +kernel
theorem dX7_isValueOf_48 : decode cX7_isValueOf 48 = .ok (.iload_n 1, 1) := by decide +kernel
theorem dX7_isValueOf_49 : decode cX7_isValueOf 49 = .ok (.ifCond .lt 13, 3) := by decide +kernel
theorem dX7_isValueOf_52 : decode cX7_isValueOf 52 = .ok (.iload_n 1, 1) := by decide +kernel
theorem dX7_isValueOf_53 : decode cX7_isValueOf 53 = .ok (.bipush 10, 2) := by decide +kernel
theorem dX7_isValueOf_55 : decode cX7_isValueOf 55 = .ok (.if_icmp .ge 7, 3) := by decide +kernel
theorem dX7_isValueOf_58 : decode cX7_isValueOf 58 = .ok (.iconst 1, 1) := by decide +kernel
theorem dX7_isValueOf_59 : decode cX7_isValueOf 59 = .ok (.goto 4, 3) := by decide +kernel
theorem dX7_isValueOf_62 : decode cX7_isValueOf 62 = .ok (.iconst 0, 1) := by decide +kernel
theorem dX7_isValueOf_63 : decode cX7_isValueOf 63 = .ok (.ireturn, 1) := by decide +kernel
theorem dX7_isValueOf_64 : decode cX7_isValueOf 64 = .ok (.iload_n 1, 1) := by decide +kernel
theorem dX7_isValueOf_65 : decode cX7_isValueOf 65 = .ok (.bipush 32, 2) := by decide +kernel
theorem dX7_isValueOf_67 : decode cX7_isValueOf 67 = .ok (.if_icmp .lt 13, 3) := by decide +kernel
theorem dX7_isValueOf_70 : decode cX7_isValueOf 70 = .ok (.iload_n 1, 1) := by decide +kernel
theorem dX7_isValueOf_71 : decode cX7_isValueOf 71 = .ok (.bipush 126, 2) := by decide +kernel
theorem dX7_isValueOf_73 : decode cX7_isValueOf 73 = .ok (.if_icmp .gt 7, 3) := by decide +kernel
theorem dX7_isValueOf_76 : decode cX7_isValueOf 76 = .ok (.iconst 1, 1) := by decide +kernel
theorem dX7_isValueOf_77 : decode cX7_isValueOf 77 = .ok (.goto 4, 3) := by decide +kernel
theorem dX7_isValueOf_80 : decode cX7_isValueOf 80 = .ok (.iconst 0, 1) := by decide +kernel
theorem dX7_isValueOf_81 : decode cX7_isValueOf 81 = .ok (.ireturn, 1) := by decide +kernel
theorem dX7_isValueOf_82 : decode cX7_isValueOf 82 = .ok (.iload_n 1, 1) := by decide +kernel
theorem dX7_isValueOf_83 : decode cX7_isValueOf 83 = .ok (.ifCond .lt 13, 3) := by decide +kernel
theorem dX7_isValueOf_86 : decode cX7_isValueOf 86 = .ok (.iload_n 1, 1) := by decide +kernel
theorem dX7_isValueOf_87 : decode cX7_isValueOf 87 = .ok (.bipush 6, 2) := by decide +kernel
theorem dX7_isValueOf_89 : decode cX7_isValueOf 89 = .ok (.if_icmp .ge 7, 3) := by decide +kernel
theorem dX7_isValueOf_92 : decode cX7_isValueOf 92 = .ok (.iconst 1, 1) := by decide +kernel
theorem dX7_isValueOf_93 : decode cX7_isValueOf 93 = .ok (.goto 4, 3) := by decide +kernel
theorem dX7_isValueOf_96 : decode cX7_isValueOf 96 = .ok (.iconst 0, 1) := by decide +kernel
theorem dX7_isValueOf_97 : decode cX7_isValueOf 97 = .ok (.ireturn, 1) := by decide +kernel
theorem dX7_isValueOf_98 : decode cX7_isValueOf 98 = .ok (.iload_n 1, 1) := by decide +kernel
theorem dX7_isValueOf_99 : decode cX7_isValueOf 99 = .ok (.ifCond .lt 12, 3) := by decide +kernel
theorem dX7_isValueOf_102 : decode cX7_isValueOf 102 = .ok (.iload_n 1, 1) := by decide +kernel
theorem dX7_isValueOf_103 : decode cX7_isValueOf 103 = .ok (.iconst 4, 1) := by decide +kernel
theorem dX7_isValueOf_104 : decode cX7_isValueOf 104 = .ok (.if_icmp .ge 7, 3) := by decide +kernel
theorem dX7_isValueOf_107 : decode cX7_isValueOf 107 = .ok (.iconst 1, 1) := by decide +kernel
theorem dX7_isValueOf_108 : decode cX7_isValueOf 108 = .ok (.goto 4, 3) := by decide +kernel
theorem dX7_isValueOf_111 : decode cX7_isValueOf 111 = .ok (.iconst 0, 1) := by decide +kernel
theorem dX7_isValueOf_112 : decode cX7_isValueOf 112 = .ok (.ireturn, 1) := by decide +kernel
theorem dX7_isValueOf_113 : decode cX7_isValueOf 113 = .ok (.iconst 1, 1) := by decide +kernel
theorem dX7_isValueOf_114 : decode cX7_isValueOf 114 = .ok (.ireturn, 1) := by decide +kernel
theorem dX7_lowestOf_0 : decode cX7_lowestOf 0 = .ok (.iload_n 0, 1) := by decide +kernel
theorem dX7_lowestOf_1 : decode cX7_lowestOf 1 = .ok (.iload_n 0, 1) := by decide +kernel
theorem dX7_lowestOf_2 : decode cX7_lowestOf 2 = .ok (.ineg, 1) := by decide +kernel
theorem dX7_lowestOf_3 : decode cX7_lowestOf 3 = .ok (.iand, 1) := by decide +kernel
theorem dX7_lowestOf_4 : decode cX7_lowestOf 4 = .ok (.iconst 1, 1) := by decide +kernel
theorem dX7_lowestOf_5 : decode cX7_lowestOf 5 = .ok (.isub, 1) := by decide +kernel
theorem dX7_lowestOf_6 : decode cX7_lowestOf 6 = .ok (.invokestatic 224, 3) := by decide +kernel
theorem dX7_lowestOf_9 : decode cX7_lowestOf 9 = .ok (.ireturn, 1) := by decide +kernel
theorem dX8_init_0 : decode cX8_init 0 = .ok (.aload_n 0, 1) := by decide +kernel
theorem dX8_init_1 : decode cX8_init 1 = .ok (.invokespecial 1, 3) := by decide +kernel
theorem dX8_init_4 : decode cX8_init 4 = .ok (.aload_n 0, 1) := by decide +kernel
theorem dX8_init_5 : decode cX8_init 5 = .ok (.bipush 60, 2) := by decide +kernel
theorem dX8_init_7 : decode cX8_init 7 = .ok (.newarray .int, 2) := by decide +kernel
theorem dX8_init_9 : decode cX8_init 9 = .ok (.putfield 7, 3) := by decide +kernel
theorem dX8_init_12 : decode cX8_init 12 = .ok (.aload_n 0, 1) := by decide +kernel
theorem dX8_init_13 : decode cX8_init 13 = .ok (.bipush 60, 2) := by decide +kernel
theorem dX8_init_15 : decode cX8_init 15 = .ok (.newarray .int, 2) := by decide +kernel
theorem dX8_init_17 : decode cX8_init 17 = .ok (.putfield 13, 3) := by decide +kernel
theorem dX8_init_20 : decode cX8_init 20 = .ok (.aload_n 0, 1) := by decide +kernel
theorem dX8_init_21 : decode cX8_init 21 = .ok (.bipush 10, 2) := by decide +kernel
theorem dX8_init_23 : decode cX8_init 23 = .ok (.newarray .int, 2) := by decide +kernel
theorem dX8_init_25 : decode cX8_init 25 = .ok (.putfield 16, 3) := by decide +kernel
theorem dX8_init_28 : decode cX8_init 28 = .ok (.aload_n 0, 1) := by decide +kernel
theorem dX8_init_29 : decode cX8_init 29 = .ok (.bipush 10, 2) := by decide +kernel
theorem dX8_init_31 : decode cX8_init 31 = .ok (.newarray .int, 2) := by decide +kernel
theorem dX8_init_33 : decode cX8_init 33 = .ok (.putfield 19, 3) := by decide +kernel
theorem dX8_init_36 : decode cX8_init 36 = .ok (.aload_n 0, 1) := by decide +kernel
theorem dX8_init_37 : decode cX8_init 37 = .ok (.bipush 10, 2) := by decide +kernel
theorem dX8_init_39 : decode cX8_init 39 = .ok (.newarray .int, 2) := by decide +kernel
theorem dX8_init_41 : decode cX8_init 41 = .ok (.putfield 22, 3) := by decide +kernel
theorem dX8_init_44 : decode cX8_init 44 = .ok (.aload_n 0, 1) := by decide +kernel
theorem dX8_init_45 : decode cX8_init 45 = .ok (.bipush 10, 2) := by decide +kernel
theorem dX8_init_47 : decode cX8_init 47 = .ok (.newarray .boolean, 2) := by decide +kernel
theorem dX8_init_49 : decode cX8_init 49 = .ok (.putfield 25, 3) := by decide +kernel
theorem dX8_init_52 : decode cX8_init 52 = .ok (.aload_n 0, 1) := by decide +kernel
theorem dX8_init_53 : decode cX8_init 53 = .ok (.bipush 10, 2) := by decide +kernel
theorem dX8_init_55 : decode cX8_init 55 = .ok (.newarray .boolean, 2) := by decide +kernel
theorem dX8_init_57 : decode cX8_init 57 = .ok (.putfield 29, 3) := by decide +kernel
theorem dX8_init_60 : decode cX8_init 60 = .ok (.aload_n 0, 1) := by decide +kernel
theorem dX8_init_61 : decode cX8_init 61 = .ok (.bipush 36, 2) := by decide +kernel
theorem dX8_init_63 : decode cX8_init 63 = .ok (.newarray .int, 2) := by decide +kernel
theorem dX8_init_65 : decode cX8_init 65 = .ok (.putfield 32, 3) := by decide +kernel
theorem dX8_init_68 : decode cX8_init 68 = .ok (.aload_n 0, 1) := by decide +kernel
theorem dX8_init_69 : decode cX8_init 69 = .ok (.bipush 36, 2) := by decide +kernel
theorem dX8_init_71 : decode cX8_init 71 = .ok (.newarray .int, 2) := by decide +kernel
theorem dX8_init_73 : decode cX8_init 73 = .ok (.putfield 35, 3) := by decide +kernel
theorem dX8_init_76 : decode cX8_init 76 = .ok (.aload_n 0, 1) := by decide +kernel
theorem dX8_init_77 : decode cX8_init 77 = .ok (.bipush 6, 2) := by decide +kernel
theorem dX8_init_79 : decode cX8_init 79 = .ok (.newarray .int, 2) := by decide +kernel
theorem dX8_init_81 : decode cX8_init 81 = .ok (.putfield 38, 3) := by decide +kernel
theorem dX8_init_84 : decode cX8_init 84 = .ok (.aload_n 0, 1) := by decide +kernel
theorem dX8_init_85 : decode cX8_init 85 = .ok (.iconst 4, 1) := by decide +kernel
theorem dX8_init_86 : decode cX8_init 86 = .ok (.newarray .int, 2) := by decide +kernel
theorem dX8_init_88 : decode cX8_init 88 = .ok (.putfield 41, 3) := by decide +kernel
theorem dX8_init_91 : decode cX8_init 91 = .ok (.aload_n 0, 1) := by decide +kernel
theorem dX8_init_92 : decode cX8_init 92 = .ok (.bipush 60, 2) := by decide +kernel
theorem dX8_init_94 : decode cX8_init 94 = .ok (.newarray .int, 2) := by decide +kernel
theorem dX8_init_96 : decode cX8_init 96 = .ok (.putfield 44, 3) := by decide +kernel
theorem dX8_init_99 : decode cX8_init 99 = .ok (.aload_n 0, 1) := by decide +kernel
theorem dX8_init_100 : decode cX8_init 100 = .ok (.bipush 60, 2) := by decide +kernel
theorem dX8_init_102 : decode cX8_init 102 = .ok (.newarray .int, 2) := by decide +kernel
theorem dX8_init_104 : decode cX8_init 104 = .ok (.putfield 47, 3) := by decide +kernel
theorem dX8_init_107 : decode cX8_init 107 = .ok (.aload_n 0, 1) := by decide +kernel
theorem dX8_init_108 : decode cX8_init 108 = .ok (.sipush 620, 3) := by decide +kernel
theorem dX8_init_111 : decode cX8_init 111 = .ok (.newarray .int, 2) := by decide +kernel
theorem dX8_init_113 : decode cX8_init 113 = .ok (.putfield 50, 3) := by decide +kernel
theorem dX8_init_116 : decode cX8_init 116 = .ok (.aload_n 0, 1) := by decide +kernel
theorem dX8_init_117 : decode cX8_init 117 = .ok (.sipush 620, 3) := by decide +kernel
theorem dX8_init_120 : decode cX8_init 120 = .ok (.newarray .int, 2) := by decide +kernel
theorem dX8_init_122 : decode cX8_init 122 = .ok (.putfield 53, 3) := by decide +kernel
theorem dX8_init_125 : decode cX8_init 125 = .ok (.aload_n 0, 1) := by decide +kernel
theorem dX8_init_126 : decode cX8_init 126 = .ok (.bipush 20, 2) := by decide +kernel
theorem dX8_init_128 : decode cX8_init 128 = .ok (.newarray .int, 2) := by decide +kernel
theorem dX8_init_130 : decode cX8_init 130 = .ok (.putfield 56, 3) := by decide +kernel
theorem dX8_init_133 : decode cX8_init 133 = .ok (.aload_n 0, 1) := by decide +kernel
theorem dX8_init_134 : decode cX8_init 134 = .ok (.bipush 20, 2) := by decide +kernel
theorem dX8_init_136 : decode cX8_init 136 = .ok (.newarray .int, 2) := by decide +kernel
theorem dX8_init_138 : decode cX8_init 138 = .ok (.putfield 59, 3) := by decide +kernel
theorem dX8_init_141 : decode cX8_init 141 = .ok (.aload_n 0, 1) := by decide +kernel
theorem dX8_init_142 : decode cX8_init 142 = .ok (.bipush 20, 2) := by decide +kernel
theorem dX8_init_144 : decode cX8_init 144 = .ok (.newarray .boolean, 2) := by decide +kernel
theorem dX8_init_146 : decode cX8_init 146 = .ok (.putfield 62, 3) := by decide +kernel
theorem dX8_init_149 : decode cX8_init 149 = .ok (.aload_n 0, 1) := by decide +kernel
theorem dX8_init_150 : decode cX8_init 150 = .ok (.bipush 20, 2) := by decide +kernel
theorem dX8_init_152 : decode cX8_init 152 = .ok (.newarray .int, 2) := by decide +kernel
theorem dX8_init_154 : decode cX8_init 154 = .ok (.putfield 65, 3) := by decide +kernel
theorem dX8_init_157 : decode cX8_init 157 = .ok (.aload_n 0, 1) := by decide +kernel
theorem dX8_init_158 : decode cX8_init 158 = .ok (.sipush 300, 3) := by decide +kernel
theorem dX8_init_161 : decode cX8_init 161 = .ok (.newarray .int, 2) := by decide +kernel
theorem dX8_init_163 : decode cX8_init 163 = .ok (.putfield 68, 3) := by decide +kernel
theorem dX8_init_166 : decode cX8_init 166 = .ok (.aload_n 0, 1) := by decide +kernel
theorem dX8_init_167 : decode cX8_init 167 = .ok (.sipush 300, 3) := by decide +kernel
theorem dX8_init_170 : decode cX8_init 170 = .ok (.newarray .int, 2) := by decide +kernel
theorem dX8_init_172 : decode cX8_init 172 = .ok (.putfield 71, 3) := by decide +kernel
theorem dX8_init_175 : decode cX8_init 175 = .ok (.aload_n 0, 1) := by decide +kernel
theorem dX8_init_176 : decode cX8_init 176 = .ok (.sipush 300, 3) := by decide +kernel
theorem dX8_init_179 : decode cX8_init 179 = .ok (.newarray .int, 2) := by decide +kernel
theorem dX8_init_181 : decode cX8_init 181 = .ok (.putfield 74, 3) := by decide +kernel
theorem dX8_init_184 : decode cX8_init 184 = .ok (.aload_n 0, 1) := by decide +kernel
theorem dX8_init_185 : decode cX8_init 185 = .ok (.sipush 300, 3) := by decide +kernel
theorem dX8_init_188 : decode cX8_init 188 = .ok (.newarray .int, 2) := by decide +kernel
theorem dX8_init_190 : decode cX8_init 190 = .ok (.putfield 77, 3) := by decide +kernel
theorem dX8_init_193 : decode cX8_init 193 = .ok (.aload_n 0, 1) := by decide +kernel
theorem dX8_init_194 : decode cX8_init 194 = .ok (.sipush 300, 3) := by decide +kernel
theorem dX8_init_197 : decode cX8_init 197 = .ok (.newarray .boolean, 2) := by decide +kernel
theorem dX8_init_199 : decode cX8_init 199 = .ok (.putfield 80, 3) := by decide +kernel
theorem dX8_init_202 : decode cX8_init 202 = .ok (.aload_n 0, 1) := by decide +kernel
theorem dX8_init_203 : decode cX8_init 203 = .ok (.sipush 6000, 3) := by decide +kernel
theorem dX8_init_206 : decode cX8_init 206 = .ok (.newarray .int, 2) := by decide +kernel
theorem dX8_init_208 : decode cX8_init 208 = .ok (.putfield 83, 3) := by decide +kernel
theorem dX8_init_211 : decode cX8_init 211 = .ok (.aload_n 0, 1) := by decide +kernel
theorem dX8_init_212 : decode cX8_init 212 = .ok (.sipush 6000, 3) := by decide +kernel
theorem dX8_init_215 : decode cX8_init 215 = .ok (.newarray .int, 2) := by decide +kernel
theorem dX8_init_217 : decode cX8_init 217 = .ok (.putfield 86, 3) := by decide +kernel
theorem dX8_init_220 : decode cX8_init 220 = .ok (.aload_n 0, 1) := by decide +kernel
theorem dX8_init_221 : decode cX8_init 221 = .ok (.iconst 3, 1) := by decide +kernel
theorem dX8_init_222 : decode cX8_init 222 = .ok (.newarray .int, 2) := by decide +kernel
theorem dX8_init_224 : decode cX8_init 224 = .ok (.putfield 89, 3) := by decide +kernel
theorem dX8_init_227 : decode cX8_init 227 = .ok (.aload_n 0, 1) := by decide +kernel
theorem dX8_init_228 : decode cX8_init 228 = .ok (.iconst 3, 1) := by decide +kernel
theorem dX8_init_229 : decode cX8_init 229 = .ok (.newarray .int, 2) := by decide +kernel
theorem dX8_init_231 : decode cX8_init 231 = .ok (.putfield 92, 3) := by decide +kernel
theorem dX8_init_234 : decode cX8_init 234 = .ok (.aload_n 0, 1) := by decide +kernel
theorem dX8_init_235 : decode cX8_init 235 = .ok (.iconst 3, 1) := by decide +kernel
theorem dX8_init_236 : decode cX8_init 236 = .ok (.newarray .int, 2) := by decide +kernel
theorem dX8_init_238 : decode cX8_init 238 = .ok (.putfield 95, 3) := by decide +kernel
theorem dX8_init_241 : decode cX8_init 241 = .ok (.aload_n 0, 1) := by decide +kernel
theorem dX8_init_242 : decode cX8_init 242 = .ok (.sipush 1860, 3) := by decide +kernel
theorem dX8_init_245 : decode cX8_init 245 = .ok (.newarray .int, 2) := by decide +kernel
theorem dX8_init_247 : decode cX8_init 247 = .ok (.putfield 98, 3) := by decide +kernel
theorem dX8_init_250 : decode cX8_init 250 = .ok (.aload_n 0, 1) := by decide +kernel
theorem dX8_init_251 : decode cX8_init 251 = .ok (.bipush 61, 2) := by decide +kernel
theorem dX8_init_253 : decode cX8_init 253 = .ok (.newarray .int, 2) := by decide +kernel
theorem dX8_init_255 : decode cX8_init 255 = .ok (.putfield 101, 3) := by decide +kernel
theorem dX8_init_258 : decode cX8_init 258 = .ok (.aload_n 0, 1) := by decide +kernel
theorem dX8_init_259 : decode cX8_init 259 = .ok (.sipush 1220, 3) := by decide +kernel
theorem dX8_init_262 : decode cX8_init 262 = .ok (.newarray .int, 2) := by decide +kernel
theorem dX8_init_264 : decode cX8_init 264 = .ok (.putfield 104, 3) := by decide +kernel
theorem dX8_init_267 : decode cX8_init 267 = .ok (.aload_n 0, 1) := by decide +kernel
theorem dX8_init_268 : decode cX8_init 268 = .ok (.bipush 61, 2) := by decide +kernel
theorem dX8_init_270 : decode cX8_init 270 = .ok (.newarray .int, 2) := by decide +kernel
theorem dX8_init_272 : decode cX8_init 272 = .ok (.putfield 107, 3) := by decide +kernel
theorem dX8_init_275 : decode cX8_init 275 = .ok (.aload_n 0, 1) := by decide +kernel
theorem dX8_init_276 : decode cX8_init 276 = .ok (.bipush 61, 2) := by decide +kernel
theorem dX8_init_278 : decode cX8_init 278 = .ok (.newarray .int, 2) := by decide +kernel
theorem dX8_init_280 : decode cX8_init 280 = .ok (.putfield 110, 3) := by decide +kernel
theorem dX8_init_283 : decode cX8_init 283 = .ok (.aload_n 0, 1) := by decide +kernel
theorem dX8_init_284 : decode cX8_init 284 = .ok (.bipush 61, 2) := by decide +kernel
theorem dX8_init_286 : decode cX8_init 286 = .ok (.newarray .int, 2) := by decide +kernel
theorem dX8_init_288 : decode cX8_init 288 = .ok (.putfield 113, 3) := by decide +kernel
theorem dX8_init_291 : decode cX8_init 291 = .ok (.aload_n 0, 1) := by decide +kernel
theorem dX8_init_292 : decode cX8_init 292 = .ok (.sipush 1220, 3) := by decide +kernel
theorem dX8_init_295 : decode cX8_init 295 = .ok (.newarray .int, 2) := by decide +kernel
theorem dX8_init_297 : decode cX8_init 297 = .ok (.putfield 116, 3) := by decide +kernel
theorem dX8_init_300 : decode cX8_init 300 = .ok (.aload_n 0, 1) := by decide +kernel
theorem dX8_init_301 : decode cX8_init 301 = .ok (.bipush 61, 2) := by decide +kernel
theorem dX8_init_303 : decode cX8_init 303 = .ok (.newarray .int, 2) := by decide +kernel
theorem dX8_init_305 : decode cX8_init 305 = .ok (.putfield 119, 3) := by decide +kernel
theorem dX8_init_308 : decode cX8_init 308 = .ok (.aload_n 0, 1) := by decide +kernel
theorem dX8_init_309 : decode cX8_init 309 = .ok (.bipush 61, 2) := by decide +kernel
theorem dX8_init_311 : decode cX8_init 311 = .ok (.newarray .int, 2) := by decide +kernel
theorem dX8_init_313 : decode cX8_init 313 = .ok (.putfield 122, 3) := by decide +kernel
theorem dX8_init_316 : decode cX8_init 316 = .ok (.aload_n 0, 1) := by decide +kernel
theorem dX8_init_317 : decode cX8_init 317 = .ok (.sipush 620, 3) := by decide +kernel
theorem dX8_init_320 : decode cX8_init 320 = .ok (.newarray .int, 2) := by decide +kernel
theorem dX8_init_322 : decode cX8_init 322 = .ok (.putfield 125, 3) := by decide +kernel
theorem dX8_init_325 : decode cX8_init 325 = .ok (.aload_n 0, 1) := by decide +kernel
theorem dX8_init_326 : decode cX8_init 326 = .ok (.sipush 620, 3) := by decide +kernel
theorem dX8_init_329 : decode cX8_init 329 = .ok (.newarray .int, 2) := by decide +kernel
theorem dX8_init_331 : decode cX8_init 331 = .ok (.putfield 128, 3) := by decide +kernel
theorem dX8_init_334 : decode cX8_init 334 = .ok (.aload_n 0, 1) := by decide +kernel
theorem dX8_init_335 : decode cX8_init 335 = .ok (.sipush 300, 3) := by decide +kernel
theorem dX8_init_338 : decode cX8_init 338 = .ok (.newarray .int, 2) := by decide +kernel
theorem dX8_init_340 : decode cX8_init 340 = .ok (.putfield 131, 3) := by decide +kernel
theorem dX8_init_343 : decode cX8_init 343 = .ok (.aload_n 0, 1) := by decide +kernel
theorem dX8_init_344 : decode cX8_init 344 = .ok (.sipush 300, 3) := by decide +kernel
theorem dX8_init_347 : decode cX8_init 347 = .ok (.newarray .int, 2) := by decide +kernel
theorem dX8_init_349 : decode cX8_init 349 = .ok (.putfield 134, 3) := by decide +kernel
theorem dX8_init_352 : decode cX8_init 352 = .ok (.aload_n 0, 1) := by decide +kernel
theorem dX8_init_353 : decode cX8_init 353 = .ok (.sipush 300, 3) := by decide +kernel
theorem dX8_init_356 : decode cX8_init 356 = .ok (.newarray .int, 2) := by decide +kernel
theorem dX8_init_358 : decode cX8_init 358 = .ok (.putfield 137, 3) := by decide +kernel
theorem dX8_init_361 : decode cX8_init 361 = .ok (.aload_n 0, 1) := by decide +kernel
theorem dX8_init_362 : decode cX8_init 362 = .ok (.invokevirtual 140, 3) := by decide +kernel
theorem dX8_init_365 : decode cX8_init 365 = .ok (.return_, 1) := by decide +kernel
theorem dX8_thrown_0 : decode cX8_thrown 0 = .ok (.aload_n 0, 1) := by decide +kernel
theorem dX8_thrown_1 : decode cX8_thrown 1 = .ok (.getfield 143, 3) := by decide +kernel
theorem dX8_thrown_4 : decode cX8_thrown 4 = .ok (.ireturn, 1) := by decide +kernel
theorem dX8_in_0 : decode cX8_in 0 = .ok (.iload_n 0, 1) := by decide +kernel
theorem dX8_in_1 : decode cX8_in 1 = .ok (.iload_n 1, 1) := by decide +kernel
theorem dX8_in_2 : decode cX8_in 2 = .ok (.if_icmp .lt 12, 3) := by decide +kernel
theorem dX8_in_5 : decode cX8_in 5 = .ok (.iload_n 0, 1) := by decide +kernel
theorem dX8_in_6 : decode cX8_in 6 = .ok (.iload_n 2, 1) := by decide +kernel
theorem dX8_in_7 : decode cX8_in 7 = .ok (.if_icmp .gt 7, 3) := by decide +kernel
theorem dX8_in_10 : decode cX8_in 10 = .ok (.iconst 1, 1) := by decide +kernel
theorem dX8_in_11 : decode cX8_in 11 = .ok (.goto 4, 3) := by decide +kernel
theorem dX8_in_14 : decode cX8_in 14 = .ok (.iconst 0, 1) := by decide +kernel
theorem dX8_in_15 : decode cX8_in 15 = .ok (.ireturn, 1) := by decide +kernel
theorem dX8_goes_0 : decode cX8_goes 0 = .ok (.aload_n 0, 1) := by decide +kernel
theorem dX8_goes_1 : decode cX8_goes 1 = .ok (.iload_n 1, 1) := by decide +kernel
theorem dX8_goes_2 : decode cX8_goes 2 = .ok (.ifCond .ne 7, 3) := by decide +kernel
theorem dX8_goes_5 : decode cX8_goes 5 = .ok (.iconst 1, 1) := by decide +kernel
theorem dX8_goes_6 : decode cX8_goes 6 = .ok (.goto 20, 3) := by decide +kernel
theorem dX8_goes_9 : decode cX8_goes 9 = .ok (.iload_n 2, 1) := by decide +kernel
theorem dX8_goes_10 : decode cX8_goes 10 = .ok (.ifCond .ne 7, 3) := by decide +kernel
theorem dX8_goes_13 : decode cX8_goes 13 = .ok (.iconst 2, 1) := by decide +kernel
theorem dX8_goes_14 : decode cX8_goes 14 = .ok (.goto 12, 3) := by decide +kernel
theorem dX8_goes_17 : decode cX8_goes 17 = .ok (.iload_n 3, 1) := by decide +kernel
theorem dX8_goes_18 : decode cX8_goes 18 = .ok (.ifCond .eq 7, 3) := by decide +kernel
theorem dX8_goes_21 : decode cX8_goes 21 = .ok (.iconst 0, 1) := by decide +kernel
theorem dX8_goes_22 : decode cX8_goes 22 = .ok (.goto 4, 3) := by decide +kernel
theorem dX8_goes_25 : decode cX8_goes 25 = .ok (.iconst 3, 1) := by decide +kernel
theorem dX8_goes_26 : decode cX8_goes 26 = .ok (.putfield 143, 3) := by decide +kernel
theorem dX8_goes_29 : decode cX8_goes 29 = .ok (.aload_n 0, 1) := by decide +kernel
theorem dX8_goes_30 : decode cX8_goes 30 = .ok (.getfield 143, 3) := by decide +kernel
theorem dX8_goes_33 : decode cX8_goes 33 = .ok (.ifCond .ne 7, 3) := by decide +kernel
theorem dX8_goes_36 : decode cX8_goes 36 = .ok (.iconst 1, 1) := by decide +kernel
theorem dX8_goes_37 : decode cX8_goes 37 = .ok (.goto 4, 3) := by decide +kernel
theorem dX8_goes_40 : decode cX8_goes 40 = .ok (.iconst 0, 1) := by decide +kernel
theorem dX8_goes_41 : decode cX8_goes 41 = .ok (.ireturn, 1) := by decide +kernel
theorem dX8_hasEnough_0 : decode cX8_hasEnough 0 = .ok (.iload_n 2, 1) := by decide +kernel
theorem dX8_hasEnough_1 : decode cX8_hasEnough 1 = .ok (.ifCond .ne 23, 3) := by decide +kernel
theorem dX8_hasEnough_4 : decode cX8_hasEnough 4 = .ok (.aload_n 0, 1) := by decide +kernel
theorem dX8_hasEnough_5 : decode cX8_hasEnough 5 = .ok (.getfield 13, 3) := by decide +kernel
theorem dX8_hasEnough_8 : decode cX8_hasEnough 8 = .ok (.iload_n 1, 1) := by decide +kernel
theorem dX8_hasEnough_9 : decode cX8_hasEnough 9 = .ok (.iaload, 1) := by decide +kernel
theorem dX8_hasEnough_10 : decode cX8_hasEnough 10 = .ok (.iconst 1, 1) := by decide +kernel
theorem dX8_hasEnough_11 : decode cX8_hasEnough 11 = .ok (.if_icmp .eq 13, 3) := by decide +kernel
theorem dX8_hasEnough_14 : decode cX8_hasEnough 14 = .ok (.aload_n 0, 1) := by decide +kernel
theorem dX8_hasEnough_15 : decode cX8_hasEnough 15 = .ok (.getfield 13, 3) := by decide +kernel
theorem dX8_hasEnough_18 : decode cX8_hasEnough 18 = .ok (.iload_n 1, 1) := by decide +kernel
theorem dX8_hasEnough_19 : decode cX8_hasEnough 19 = .ok (.iaload, 1) := by decide +kernel
theorem dX8_hasEnough_20 : decode cX8_hasEnough 20 = .ok (.iconst 2, 1) := by decide +kernel
theorem dX8_hasEnough_21 : decode cX8_hasEnough 21 = .ok (.if_icmp .ne 7, 3) := by decide +kernel
theorem dX8_hasEnough_24 : decode cX8_hasEnough 24 = .ok (.iconst 1, 1) := by decide +kernel
theorem dX8_hasEnough_25 : decode cX8_hasEnough 25 = .ok (.goto 4, 3) := by decide +kernel
theorem dX8_hasEnough_28 : decode cX8_hasEnough 28 = .ok (.iconst 0, 1) := by decide +kernel
theorem dX8_hasEnough_29 : decode cX8_hasEnough 29 = .ok (.ireturn, 1) := by decide +kernel
theorem dX8_hasThing_0 : decode cX8_hasThing 0 = .ok (.aload_n 0, 1) := by decide +kernel
theorem dX8_hasThing_1 : decode cX8_hasThing 1 = .ok (.getfield 7, 3) := by decide +kernel
theorem dX8_hasThing_4 : decode cX8_hasThing 4 = .ok (.iload_n 1, 1) := by decide +kernel
theorem dX8_hasThing_5 : decode cX8_hasThing 5 = .ok (.iaload, 1) := by decide +kernel
theorem dX8_hasThing_6 : decode cX8_hasThing 6 = .ok (.iload_n 2, 1) := by decide +kernel
theorem dX8_hasThing_7 : decode cX8_hasThing 7 = .ok (.ishr, 1) := by decide +kernel
theorem dX8_hasThing_8 : decode cX8_hasThing 8 = .ok (.iconst 1, 1) := by decide +kernel
theorem dX8_hasThing_9 : decode cX8_hasThing 9 = .ok (.iand, 1) := by decide +kernel
theorem dX8_hasThing_10 : decode cX8_hasThing 10 = .ok (.iconst 1, 1) := by decide +kernel
theorem dX8_hasThing_11 : decode cX8_hasThing 11 = .ok (.if_icmp .ne 31, 3) := by decide +kernel
theorem dX8_hasThing_14 : decode cX8_hasThing 14 = .ok (.iload_n 3, 1) := by decide +kernel
theorem dX8_hasThing_15 : decode cX8_hasThing 15 = .ok (.ifCond .eq 23, 3) := by decide +kernel
theorem dX8_hasThing_18 : decode cX8_hasThing 18 = .ok (.aload_n 0, 1) := by decide +kernel
theorem dX8_hasThing_19 : decode cX8_hasThing 19 = .ok (.getfield 13, 3) := by decide +kernel
theorem dX8_hasThing_22 : decode cX8_hasThing 22 = .ok (.iload_n 1, 1) := by decide +kernel
theorem dX8_hasThing_23 : decode cX8_hasThing 23 = .ok (.iaload, 1) := by decide +kernel
theorem dX8_hasThing_24 : decode cX8_hasThing 24 = .ok (.iconst 2, 1) := by decide +kernel
theorem dX8_hasThing_25 : decode cX8_hasThing 25 = .ok (.if_icmp .eq 13, 3) := by decide +kernel
theorem dX8_hasThing_28 : decode cX8_hasThing 28 = .ok (.aload_n 0, 1) := by decide +kernel
theorem dX8_hasThing_29 : decode cX8_hasThing 29 = .ok (.getfield 13, 3) := by decide +kernel
theorem dX8_hasThing_32 : decode cX8_hasThing 32 = .ok (.iload_n 1, 1) := by decide +kernel
theorem dX8_hasThing_33 : decode cX8_hasThing 33 = .ok (.iaload, 1) := by decide +kernel
theorem dX8_hasThing_34 : decode cX8_hasThing 34 = .ok (.iconst 3, 1) := by decide +kernel
theorem dX8_hasThing_35 : decode cX8_hasThing 35 = .ok (.if_icmp .ne 7, 3) := by decide +kernel
theorem dX8_hasThing_38 : decode cX8_hasThing 38 = .ok (.iconst 1, 1) := by decide +kernel
theorem dX8_hasThing_39 : decode cX8_hasThing 39 = .ok (.goto 4, 3) := by decide +kernel
theorem dX8_hasThing_42 : decode cX8_hasThing 42 = .ok (.iconst 0, 1) := by decide +kernel
theorem dX8_hasThing_43 : decode cX8_hasThing 43 = .ok (.ireturn, 1) := by decide +kernel
theorem dX8_goesBy_0 : decode cX8_goesBy 0 = .ok (.iload_n 3, 1) := by decide +kernel
theorem dX8_goesBy_1 : decode cX8_goesBy 1 = .ok (.istore 5, 2) := by decide +kernel
theorem dX8_goesBy_3 : decode cX8_goesBy 3 = .ok (.iload_n 2, 1) := by decide +kernel
theorem dX8_goesBy_4 : decode cX8_goesBy 4 = .ok (.istore 6, 2) := by decide +kernel
theorem dX8_goesBy_6 : decode cX8_goesBy 6 = .ok (.iload 6, 2) := by decide +kernel
theorem dX8_goesBy_8 : decode cX8_goesBy 8 = .ok (.aload_n 0, 1) := by decide +kernel
theorem dX8_goesBy_9 : decode cX8_goesBy 9 = .ok (.getfield 16, 3) := by decide +kernel
theorem dX8_goesBy_12 : decode cX8_goesBy 12 = .ok (.iload_n 1, 1) := by decide +kernel
theorem dX8_goesBy_13 : decode cX8_goesBy 13 = .ok (.iaload, 1) := by decide +kernel
theorem dX8_goesBy_14 : decode cX8_goesBy 14 = .ok (.if_icmp .ge 50, 3) := by decide +kernel
theorem dX8_goesBy_17 : decode cX8_goesBy 17 = .ok (.bipush 6, 2) := by decide +kernel
theorem dX8_goesBy_19 : decode cX8_goesBy 19 = .ok (.iload_n 1, 1) := by decide +kernel
theorem dX8_goesBy_20 : decode cX8_goesBy 20 = .ok (.imul, 1) := by decide +kernel
theorem dX8_goesBy_21 : decode cX8_goesBy 21 = .ok (.iload 6, 2) := by decide +kernel
theorem dX8_goesBy_23 : decode cX8_goesBy 23 = .ok (.iadd, 1) := by decide +kernel
theorem dX8_goesBy_24 : decode cX8_goesBy 24 = .ok (.istore 7, 2) := by decide +kernel
theorem dX8_goesBy_26 : decode cX8_goesBy 26 = .ok (.aload_n 0, 1) := by decide +kernel
theorem dX8_goesBy_27 : decode cX8_goesBy 27 = .ok (.iload 7, 2) := by decide +kernel
theorem dX8_goesBy_29 : decode cX8_goesBy 29 = .ok (.iload 4, 2) := by decide +kernel
theorem dX8_goesBy_31 : decode cX8_goesBy 31 = .ok (.iload 5, 2) := by decide +kernel
theorem dX8_goesBy_33 : decode cX8_goesBy 33 = .ok (.invokevirtual 147, 3) := by decide +kernel
theorem dX8_goesBy_36 : decode cX8_goesBy 36 = .ok (.ifCond .eq 6, 3) := by decide +kernel
theorem dX8_goesBy_39 : decode cX8_goesBy 39 = .ok (.iload 6, 2) := by decide +kernel
theorem dX8_goesBy_41 : decode cX8_goesBy 41 = .ok (.ireturn, 1) := by decide +kernel
theorem dX8_goesBy_42 : decode cX8_goesBy 42 = .ok (.aload_n 0, 1) := by decide +kernel
theorem dX8_goesBy_43 : decode cX8_goesBy 43 = .ok (.iload 7, 2) := by decide +kernel
theorem dX8_goesBy_45 : decode cX8_goesBy 45 = .ok (.iload 5, 2) := by decide +kernel
theorem dX8_goesBy_47 : decode cX8_goesBy 47 = .ok (.invokevirtual 151, 3) := by decide +kernel
theorem dX8_goesBy_50 : decode cX8_goesBy 50 = .ok (.ifCond .ne 5, 3) := by decide +kernel
theorem dX8_goesBy_53 : decode cX8_goesBy 53 = .ok (.iconst (-1), 1) := by decide +kernel
theorem dX8_goesBy_54 : decode cX8_goesBy 54 = .ok (.ireturn, 1) := by decide +kernel
theorem dX8_goesBy_55 : decode cX8_goesBy 55 = .ok (.iconst 0, 1) := by decide +kernel
theorem dX8_goesBy_56 : decode cX8_goesBy 56 = .ok (.istore 5, 2) := by decide +kernel
theorem dX8_goesBy_58 : decode cX8_goesBy 58 = .ok (.iinc 6 1, 3) := by decide +kernel
theorem dX8_goesBy_61 : decode cX8_goesBy 61 = .ok (.goto (-55), 3) := by decide +kernel
theorem dX8_goesBy_64 : decode cX8_goesBy 64 = .ok (.iconst (-1), 1) := by decide +kernel
theorem dX8_goesBy_65 : decode cX8_goesBy 65 = .ok (.ireturn, 1) := by decide +kernel
theorem dX8_goesOn_0 : decode cX8_goesOn 0 = .ok (.iconst 0, 1) := by decide +kernel
theorem dX8_goesOn_1 : decode cX8_goesOn 1 = .ok (.istore 4, 2) := by decide +kernel
theorem dX8_goesOn_3 : decode cX8_goesOn 3 = .ok (.iconst 0, 1) := by decide +kernel
theorem dX8_goesOn_4 : decode cX8_goesOn 4 = .ok (.istore 5, 2) := by decide +kernel
theorem dX8_goesOn_6 : decode cX8_goesOn 6 = .ok (.iload 5, 2) := by decide +kernel
theorem dX8_goesOn_8 : decode cX8_goesOn 8 = .ok (.bipush 10, 2) := by decide +kernel
theorem dX8_goesOn_10 : decode cX8_goesOn 10 = .ok (.if_icmp .gt 35, 3) := by decide +kernel
theorem dX8_goesOn_13 : decode cX8_goesOn 13 = .ok (.iload 4, 2) := by decide +kernel
theorem dX8_goesOn_15 : decode cX8_goesOn 15 = .ok (.aload_n 0, 1) := by decide +kernel
theorem dX8_goesOn_16 : decode cX8_goesOn 16 = .ok (.iload_n 1, 1) := by decide +kernel
theorem dX8_goesOn_17 : decode cX8_goesOn 17 = .ok (.iload_n 2, 1) := by decide +kernel
theorem dX8_goesOn_18 : decode cX8_goesOn 18 = .ok (.iload_n 3, 1) := by decide +kernel
theorem dX8_goesOn_19 : decode cX8_goesOn 19 = .ok (.iload 5, 2) := by decide +kernel
theorem dX8_goesOn_21 : decode cX8_goesOn 21 = .ok (.invokevirtual 155, 3) := by decide +kernel
theorem dX8_goesOn_24 : decode cX8_goesOn 24 = .ok (.iconst (-1), 1) := by decide +kernel
theorem dX8_goesOn_25 : decode cX8_goesOn 25 = .ok (.if_icmp .ne 7, 3) := by decide +kernel
theorem dX8_goesOn_28 : decode cX8_goesOn 28 = .ok (.iconst 0, 1) := by decide +kernel
theorem dX8_goesOn_29 : decode cX8_goesOn 29 = .ok (.goto 7, 3) := by decide +kernel
theorem dX8_goesOn_32 : decode cX8_goesOn 32 = .ok (.iconst 1, 1) := by decide +kernel
theorem dX8_goesOn_33 : decode cX8_goesOn 33 = .ok (.iload 5, 2) := by decide +kernel
theorem dX8_goesOn_35 : decode cX8_goesOn 35 = .ok (.ishl, 1) := by decide +kernel
theorem dX8_goesOn_36 : decode cX8_goesOn 36 = .ok (.ior, 1) := by decide +kernel
theorem dX8_goesOn_37 : decode cX8_goesOn 37 = .ok (.istore 4, 2) := by decide +kernel
theorem dX8_goesOn_39 : decode cX8_goesOn 39 = .ok (.iinc 5 1, 3) := by decide +kernel
theorem dX8_goesOn_42 : decode cX8_goesOn 42 = .ok (.goto (-36), 3) := by decide +kernel
theorem dX8_goesOn_45 : decode cX8_goesOn 45 = .ok (.iload 4, 2) := by decide +kernel
theorem dX8_goesOn_47 : decode cX8_goesOn 47 = .ok (.ireturn, 1) := by decide +kernel
theorem dX8_canEnd_0 : decode cX8_canEnd 0 = .ok (.iload_n 3, 1) := by decide +kernel
theorem dX8_canEnd_1 : decode cX8_canEnd 1 = .ok (.istore 4, 2) := by decide +kernel
theorem dX8_canEnd_3 : decode cX8_canEnd 3 = .ok (.iload_n 2, 1) := by decide +kernel
theorem dX8_canEnd_4 : decode cX8_canEnd 4 = .ok (.istore 5, 2) := by decide +kernel
theorem dX8_canEnd_6 : decode cX8_canEnd 6 = .ok (.iload 5, 2) := by decide +kernel
theorem dX8_canEnd_8 : decode cX8_canEnd 8 = .ok (.aload_n 0, 1) := by decide +kernel
theorem dX8_canEnd_9 : decode cX8_canEnd 9 = .ok (.getfield 16, 3) := by decide +kernel
theorem dX8_canEnd_12 : decode cX8_canEnd 12 = .ok (.iload_n 1, 1) := by decide +kernel
theorem dX8_canEnd_13 : decode cX8_canEnd 13 = .ok (.iaload, 1) := by decide +kernel
theorem dX8_canEnd_14 : decode cX8_canEnd 14 = .ok (.if_icmp .ge 30, 3) := by decide +kernel
theorem dX8_canEnd_17 : decode cX8_canEnd 17 = .ok (.aload_n 0, 1) := by decide +kernel
theorem dX8_canEnd_18 : decode cX8_canEnd 18 = .ok (.bipush 6, 2) := by decide +kernel
theorem dX8_canEnd_20 : decode cX8_canEnd 20 = .ok (.iload_n 1, 1) := by decide +kernel
theorem dX8_canEnd_21 : decode cX8_canEnd 21 = .ok (.imul, 1) := by decide +kernel
theorem dX8_canEnd_22 : decode cX8_canEnd 22 = .ok (.iload 5, 2) := by decide +kernel
theorem dX8_canEnd_24 : decode cX8_canEnd 24 = .ok (.iadd, 1) := by decide +kernel
theorem dX8_canEnd_25 : decode cX8_canEnd 25 = .ok (.iload 4, 2) := by decide +kernel
theorem dX8_canEnd_27 : decode cX8_canEnd 27 = .ok (.invokevirtual 151, 3) := by decide +kernel
theorem dX8_canEnd_30 : decode cX8_canEnd 30 = .ok (.ifCond .ne 5, 3) := by decide +kernel
theorem dX8_canEnd_33 : decode cX8_canEnd 33 = .ok (.iconst 0, 1) := by decide +kernel
theorem dX8_canEnd_34 : decode cX8_canEnd 34 = .ok (.ireturn, 1) := by decide +kernel
theorem dX8_canEnd_35 : decode cX8_canEnd 35 = .ok (.iconst 0, 1) := by decide +kernel
theorem dX8_canEnd_36 : decode cX8_canEnd 36 = .ok (.istore 4, 2) := by decide +kernel
theorem dX8_canEnd_38 : decode cX8_canEnd 38 = .ok (.iinc 5 1, 3) := by decide +kernel
theorem dX8_canEnd_41 : decode cX8_canEnd 41 = .ok (.goto (-35), 3) := by decide +kernel
theorem dX8_canEnd_44 : decode cX8_canEnd 44 = .ok (.iconst 1, 1) := by decide +kernel
theorem dX8_canEnd_45 : decode cX8_canEnd 45 = .ok (.ireturn, 1) := by decide +kernel
theorem dX8_isDouble_0 : decode cX8_isDouble 0 = .ok (.iload_n 3, 1) := by decide +kernel
theorem dX8_isDouble_1 : decode cX8_isDouble 1 = .ok (.istore 5, 2) := by decide +kernel
theorem dX8_isDouble_3 : decode cX8_isDouble 3 = .ok (.iconst 0, 1) := by decide +kernel
theorem dX8_isDouble_4 : decode cX8_isDouble 4 = .ok (.istore 6, 2) := by decide +kernel
theorem dX8_isDouble_6 : decode cX8_isDouble 6 = .ok (.iload_n 2, 1) := by decide +kernel
theorem dX8_isDouble_7 : decode cX8_isDouble 7 = .ok (.istore 7, 2) := by decide +kernel
theorem dX8_isDouble_9 : decode cX8_isDouble 9 = .ok (.iload 7, 2) := by decide +kernel
theorem dX8_isDouble_11 : decode cX8_isDouble 11 = .ok (.aload_n 0, 1) := by decide +kernel
theorem dX8_isDouble_12 : decode cX8_isDouble 12 = .ok (.getfield 16, 3) := by decide +kernel
theorem dX8_isDouble_15 : decode cX8_isDouble 15 = .ok (.iload_n 1, 1) := by decide +kernel
theorem dX8_isDouble_16 : decode cX8_isDouble 16 = .ok (.iaload, 1) := by decide +kernel
theorem dX8_isDouble_17 : decode cX8_isDouble 17 = .ok (.if_icmp .ge 67, 3) := by decide +kernel
theorem dX8_isDouble_20 : decode cX8_isDouble 20 = .ok (.bipush 6, 2) := by decide +kernel
theorem dX8_isDouble_22 : decode cX8_isDouble 22 = .ok (.iload_n 1, 1) := by decide +kernel
theorem dX8_isDouble_23 : decode cX8_isDouble 23 = .ok (.imul, 1) := by decide +kernel
theorem dX8_isDouble_24 : decode cX8_isDouble 24 = .ok (.iload 7, 2) := by decide +kernel
theorem dX8_isDouble_26 : decode cX8_isDouble 26 = .ok (.iadd, 1) := by decide +kernel
theorem dX8_isDouble_27 : decode cX8_isDouble 27 = .ok (.istore 8, 2) := by decide +kernel
theorem dX8_isDouble_29 : decode cX8_isDouble 29 = .ok (.iload 6, 2) := by decide +kernel
theorem dX8_isDouble_31 : decode cX8_isDouble 31 = .ok (.aload_n 0, 1) := by decide +kernel
theorem dX8_isDouble_32 : decode cX8_isDouble 32 = .ok (.iload 8, 2) := by decide +kernel
theorem dX8_isDouble_34 : decode cX8_isDouble 34 = .ok (.iload 4, 2) := by decide +kernel
theorem dX8_isDouble_36 : decode cX8_isDouble 36 = .ok (.iload 5, 2) := by decide +kernel
theorem dX8_isDouble_38 : decode cX8_isDouble 38 = .ok (.invokevirtual 147, 3) := by decide +kernel
theorem dX8_isDouble_41 : decode cX8_isDouble 41 = .ok (.ifCond .eq 7, 3) := by decide +kernel
theorem dX8_isDouble_44 : decode cX8_isDouble 44 = .ok (.iconst 1, 1) := by decide +kernel
theorem dX8_isDouble_45 : decode cX8_isDouble 45 = .ok (.goto 4, 3) := by decide +kernel
theorem dX8_isDouble_48 : decode cX8_isDouble 48 = .ok (.iconst 0, 1) := by decide +kernel
theorem dX8_isDouble_49 : decode cX8_isDouble 49 = .ok (.iadd, 1) := by decide +kernel
theorem dX8_isDouble_50 : decode cX8_isDouble 50 = .ok (.istore 6, 2) := by decide +kernel
theorem dX8_isDouble_52 : decode cX8_isDouble 52 = .ok (.aload_n 0, 1) := by decide +kernel
theorem dX8_isDouble_53 : decode cX8_isDouble 53 = .ok (.iload 8, 2) := by decide +kernel
theorem dX8_isDouble_55 : decode cX8_isDouble 55 = .ok (.iload 5, 2) := by decide +kernel
theorem dX8_isDouble_57 : decode cX8_isDouble 57 = .ok (.invokevirtual 151, 3) := by decide +kernel
theorem dX8_isDouble_60 : decode cX8_isDouble 60 = .ok (.ifCond .ne 15, 3) := by decide +kernel
theorem dX8_isDouble_63 : decode cX8_isDouble 63 = .ok (.iload 6, 2) := by decide +kernel
theorem dX8_isDouble_65 : decode cX8_isDouble 65 = .ok (.iconst 1, 1) := by decide +kernel
theorem dX8_isDouble_66 : decode cX8_isDouble 66 = .ok (.if_icmp .le 7, 3) := by decide +kernel
theorem dX8_isDouble_69 : decode cX8_isDouble 69 = .ok (.iconst 1, 1) := by decide +kernel
theorem dX8_isDouble_70 : decode cX8_isDouble 70 = .ok (.goto 4, 3) := by decide +kernel
theorem dX8_isDouble_73 : decode cX8_isDouble 73 = .ok (.iconst 0, 1) := by decide +kernel
theorem dX8_isDouble_74 : decode cX8_isDouble 74 = .ok (.ireturn, 1) := by decide +kernel
theorem dX8_isDouble_75 : decode cX8_isDouble 75 = .ok (.iconst 0, 1) := by decide +kernel
theorem dX8_isDouble_76 : decode cX8_isDouble 76 = .ok (.istore 5, 2) := by decide +kernel
theorem dX8_isDouble_78 : decode cX8_isDouble 78 = .ok (.iinc 7 1, 3) := by decide +kernel
theorem dX8_isDouble_81 : decode cX8_isDouble 81 = .ok (.goto (-72), 3) := by decide +kernel
theorem dX8_isDouble_84 : decode cX8_isDouble 84 = .ok (.iload 6, 2) := by decide +kernel
theorem dX8_isDouble_86 : decode cX8_isDouble 86 = .ok (.iconst 1, 1) := by decide +kernel
theorem dX8_isDouble_87 : decode cX8_isDouble 87 = .ok (.if_icmp .le 7, 3) := by decide +kernel
theorem dX8_isDouble_90 : decode cX8_isDouble 90 = .ok (.iconst 1, 1) := by decide +kernel
theorem dX8_isDouble_91 : decode cX8_isDouble 91 = .ok (.goto 4, 3) := by decide +kernel
theorem dX8_isDouble_94 : decode cX8_isDouble 94 = .ok (.iconst 0, 1) := by decide +kernel
theorem dX8_isDouble_95 : decode cX8_isDouble 95 = .ok (.ireturn, 1) := by decide +kernel
theorem dX8_slot_0 : decode cX8_slot 0 = .ok (.iload_n 1, 1) := by decide +kernel
theorem dX8_slot_1 : decode cX8_slot 1 = .ok (.iconst 0, 1) := by decide +kernel
theorem dX8_slot_2 : decode cX8_slot 2 = .ok (.bipush 9, 2) := by decide +kernel
theorem dX8_slot_4 : decode cX8_slot 4 = .ok (.invokestatic 159, 3) := by decide +kernel
theorem dX8_slot_7 : decode cX8_slot 7 = .ok (.istore 5, 2) := by decide +kernel
theorem dX8_slot_9 : decode cX8_slot 9 = .ok (.iload_n 2, 1) := by decide +kernel
theorem dX8_slot_10 : decode cX8_slot 10 = .ok (.iconst 0, 1) := by decide +kernel
theorem dX8_slot_11 : decode cX8_slot 11 = .ok (.sipush 1023, 3) := by decide +kernel
theorem dX8_slot_14 : decode cX8_slot 14 = .ok (.invokestatic 159, 3) := by decide +kernel
theorem dX8_slot_17 : decode cX8_slot 17 = .ok (.ifCond .eq 25, 3) := by decide +kernel
theorem dX8_slot_20 : decode cX8_slot 20 = .ok (.iload 4, 2) := by decide +kernel
theorem dX8_slot_22 : decode cX8_slot 22 = .ok (.iconst 0, 1) := by decide +kernel
theorem dX8_slot_23 : decode cX8_slot 23 = .ok (.iconst 3, 1) := by decide +kernel
theorem dX8_slot_24 : decode cX8_slot 24 = .ok (.invokestatic 159, 3) := by decide +kernel
theorem dX8_slot_27 : decode cX8_slot 27 = .ok (.ifCond .eq 15, 3) := by decide +kernel
theorem dX8_slot_30 : decode cX8_slot 30 = .ok (.iload_n 2, 1) := by decide +kernel
theorem dX8_slot_31 : decode cX8_slot 31 = .ok (.ifCond .gt 7, 3) := by decide +kernel
theorem dX8_slot_34 : decode cX8_slot 34 = .ok (.iload_n 3, 1) := by decide +kernel
theorem dX8_slot_35 : decode cX8_slot 35 = .ok (.ifCond .eq 7, 3) := by decide +kernel
theorem dX8_slot_38 : decode cX8_slot 38 = .ok (.iconst 1, 1) := by decide +kernel
theorem dX8_slot_39 : decode cX8_slot 39 = .ok (.goto 4, 3) := by decide +kernel
theorem dX8_slot_42 : decode cX8_slot 42 = .ok (.iconst 0, 1) := by decide +kernel
theorem dX8_slot_43 : decode cX8_slot 43 = .ok (.istore 6, 2) := by decide +kernel
theorem dX8_slot_45 : decode cX8_slot 45 = .ok (.aload_n 0, 1) := by decide +kernel
theorem dX8_slot_46 : decode cX8_slot 46 = .ok (.iload 5, 2) := by decide +kernel
theorem dX8_slot_48 : decode cX8_slot 48 = .ok (.iload 6, 2) := by decide +kernel
theorem dX8_slot_50 : decode cX8_slot 50 = .ok (.iload 5, 2) := by decide +kernel
theorem dX8_slot_52 : decode cX8_slot 52 = .ok (.ifCond .eq 18, 3) := by decide +kernel
theorem dX8_slot_55 : decode cX8_slot 55 = .ok (.aload_n 0, 1) := by decide +kernel
theorem dX8_slot_56 : decode cX8_slot 56 = .ok (.getfield 16, 3) := by decide +kernel
theorem dX8_slot_59 : decode cX8_slot 59 = .ok (.iload_n 1, 1) := by decide +kernel
theorem dX8_slot_60 : decode cX8_slot 60 = .ok (.iaload, 1) := by decide +kernel
theorem dX8_slot_61 : decode cX8_slot 61 = .ok (.bipush 6, 2) := by decide +kernel
theorem dX8_slot_63 : decode cX8_slot 63 = .ok (.if_icmp .ge 7, 3) := by decide +kernel
theorem dX8_slot_66 : decode cX8_slot 66 = .ok (.iconst 1, 1) := by decide +kernel
theorem dX8_slot_67 : decode cX8_slot 67 = .ok (.goto 4, 3) := by decide +kernel
theorem dX8_slot_70 : decode cX8_slot 70 = .ok (.iconst 0, 1) := by decide +kernel
theorem dX8_slot_71 : decode cX8_slot 71 = .ok (.invokevirtual 163, 3) := by decide +kernel
theorem dX8_slot_74 : decode cX8_slot 74 = .ok (.ifCond .ne 5, 3) := by decide +kernel
theorem dX8_slot_77 : decode cX8_slot 77 = .ok (.iconst 0, 1) := by decide +kernel
theorem dX8_slot_78 : decode cX8_slot 78 = .ok (.ireturn, 1) := by decide +kernel
theorem dX8_slot_79 : decode cX8_slot 79 = .ok (.aload_n 0, 1) := by decide +kernel
theorem dX8_slot_80 : decode cX8_slot 80 = .ok (.getfield 7, 3) := by decide +kernel
theorem dX8_slot_83 : decode cX8_slot 83 = .ok (.bipush 6, 2) := by decide +kernel
theorem dX8_slot_85 : decode cX8_slot 85 = .ok (.iload_n 1, 1) := by decide +kernel
theorem dX8_slot_86 : decode cX8_slot 86 = .ok (.imul, 1) := by decide +kernel
theorem dX8_slot_87 : decode cX8_slot 87 = .ok (.aload_n 0, 1) := by decide +kernel
theorem dX8_slot_88 : decode cX8_slot 88 = .ok (.getfield 16, 3) := by decide +kernel
theorem dX8_slot_91 : decode cX8_slot 91 = .ok (.iload_n 1, 1) := by decide +kernel
theorem dX8_slot_92 : decode cX8_slot 92 = .ok (.iaload, 1) := by decide +kernel
theorem dX8_slot_93 : decode cX8_slot 93 = .ok (.iadd, 1) := by decide +kernel
theorem dX8_slot_94 : decode cX8_slot 94 = .ok (.iload_n 2, 1) := by decide +kernel
theorem dX8_slot_95 : decode cX8_slot 95 = .ok (.iload_n 3, 1) := by decide +kernel
theorem dX8_slot_96 : decode cX8_slot 96 = .ok (.ifCond .eq 9, 3) := by decide +kernel
theorem dX8_slot_99 : decode cX8_slot 99 = .ok (.sipush 1024, 3) := by decide +kernel
theorem dX8_slot_102 : decode cX8_slot 102 = .ok (.goto 4, 3) := by decide +kernel
theorem dX8_slot_105 : decode cX8_slot 105 = .ok (.iconst 0, 1) := by decide +kernel
theorem dX8_slot_106 : decode cX8_slot 106 = .ok (.ior, 1) := by decide +kernel
theorem dX8_slot_107 : decode cX8_slot 107 = .ok (.iastore, 1) := by decide +kernel
theorem dX8_slot_108 : decode cX8_slot 108 = .ok (.aload_n 0, 1) := by decide +kernel
theorem dX8_slot_109 : decode cX8_slot 109 = .ok (.getfield 13, 3) := by decide +kernel
theorem dX8_slot_112 : decode cX8_slot 112 = .ok (.bipush 6, 2) := by decide +kernel
theorem dX8_slot_114 : decode cX8_slot 114 = .ok (.iload_n 1, 1) := by decide +kernel
theorem dX8_slot_115 : decode cX8_slot 115 = .ok (.imul, 1) := by decide +kernel
theorem dX8_slot_116 : decode cX8_slot 116 = .ok (.aload_n 0, 1) := by decide +kernel
theorem dX8_slot_117 : decode cX8_slot 117 = .ok (.getfield 16, 3) := by decide +kernel
theorem dX8_slot_120 : decode cX8_slot 120 = .ok (.iload_n 1, 1) := by decide +kernel
theorem dX8_slot_121 : decode cX8_slot 121 = .ok (.iaload, 1) := by decide +kernel
theorem dX8_slot_122 : decode cX8_slot 122 = .ok (.iadd, 1) := by decide +kernel
theorem dX8_slot_123 : decode cX8_slot 123 = .ok (.iload 4, 2) := by decide +kernel
theorem dX8_slot_125 : decode cX8_slot 125 = .ok (.iastore, 1) := by decide +kernel
theorem dX8_slot_126 : decode cX8_slot 126 = .ok (.aload_n 0, 1) := by decide +kernel
theorem dX8_slot_127 : decode cX8_slot 127 = .ok (.getfield 16, 3) := by decide +kernel
theorem dX8_slot_130 : decode cX8_slot 130 = .ok (.iload_n 1, 1) := by decide +kernel
theorem dX8_slot_131 : decode cX8_slot 131 = .ok (.dup2, 1) := by decide +kernel
theorem dX8_slot_132 : decode cX8_slot 132 = .ok (.iaload, 1) := by decide +kernel
theorem dX8_slot_133 : decode cX8_slot 133 = .ok (.iconst 1, 1) := by decide +kernel
theorem dX8_slot_134 : decode cX8_slot 134 = .ok (.iadd, 1) := by decide +kernel
theorem dX8_slot_135 : decode cX8_slot 135 = .ok (.iastore, 1) := by decide +kernel
theorem dX8_slot_136 : decode cX8_slot 136 = .ok (.iconst 0, 1) := by decide +kernel
theorem dX8_slot_137 : decode cX8_slot 137 = .ok (.istore 7, 2) := by decide +kernel
theorem dX8_slot_139 : decode cX8_slot 139 = .ok (.iload 7, 2) := by decide +kernel
theorem dX8_slot_141 : decode cX8_slot 141 = .ok (.bipush 10, 2) := by decide +kernel
theorem dX8_slot_143 : decode cX8_slot 143 = .ok (.if_icmp .gt 68, 3) := by decide +kernel
theorem dX8_slot_146 : decode cX8_slot 146 = .ok (.iconst 0, 1) := by decide +kernel
theorem dX8_slot_147 : decode cX8_slot 147 = .ok (.istore 8, 2) := by decide +kernel
theorem dX8_slot_149 : decode cX8_slot 149 = .ok (.iload 8, 2) := by decide +kernel
theorem dX8_slot_151 : decode cX8_slot 151 = .ok (.aload_n 0, 1) := by decide +kernel
theorem dX8_slot_152 : decode cX8_slot 152 = .ok (.getfield 16, 3) := by decide +kernel
theorem dX8_slot_155 : decode cX8_slot 155 = .ok (.iload_n 1, 1) := by decide +kernel
theorem dX8_slot_156 : decode cX8_slot 156 = .ok (.iaload, 1) := by decide +kernel
theorem dX8_slot_157 : decode cX8_slot 157 = .ok (.if_icmp .ge 48, 3) := by decide +kernel
theorem dX8_slot_160 : decode cX8_slot 160 = .ok (.aload_n 0, 1) := by decide +kernel
theorem dX8_slot_161 : decode cX8_slot 161 = .ok (.iload_n 1, 1) := by decide +kernel
theorem dX8_slot_162 : decode cX8_slot 162 = .ok (.iload 8, 2) := by decide +kernel
theorem dX8_slot_164 : decode cX8_slot 164 = .ok (.iconst 0, 1) := by decide +kernel
theorem dX8_slot_165 : decode cX8_slot 165 = .ok (.iload 7, 2) := by decide +kernel
theorem dX8_slot_167 : decode cX8_slot 167 = .ok (.invokevirtual 167, 3) := by decide +kernel
theorem dX8_slot_170 : decode cX8_slot 170 = .ok (.ifCond .ne 16, 3) := by decide +kernel
theorem dX8_slot_173 : decode cX8_slot 173 = .ok (.aload_n 0, 1) := by decide +kernel
theorem dX8_slot_174 : decode cX8_slot 174 = .ok (.iload_n 1, 1) := by decide +kernel
theorem dX8_slot_175 : decode cX8_slot 175 = .ok (.iload 8, 2) := by decide +kernel
theorem dX8_slot_177 : decode cX8_slot 177 = .ok (.iconst 1, 1) := by decide +kernel
theorem dX8_slot_178 : decode cX8_slot 178 = .ok (.iload 7, 2) := by decide +kernel
theorem dX8_slot_180 : decode cX8_slot 180 = .ok (.invokevirtual 167, 3) := by decide +kernel
theorem dX8_slot_183 : decode cX8_slot 183 = .ok (.ifCond .eq 16, 3) := by decide +kernel
theorem dX8_slot_186 : decode cX8_slot 186 = .ok (.aload_n 0, 1) := by decide +kernel
theorem dX8_slot_187 : decode cX8_slot 187 = .ok (.getfield 16, 3) := by decide +kernel
theorem dX8_slot_190 : decode cX8_slot 190 = .ok (.iload_n 1, 1) := by decide +kernel
theorem dX8_slot_191 : decode cX8_slot 191 = .ok (.dup2, 1) := by decide +kernel
theorem dX8_slot_192 : decode cX8_slot 192 = .ok (.iaload, 1) := by decide +kernel
theorem dX8_slot_193 : decode cX8_slot 193 = .ok (.iconst 1, 1) := by decide +kernel
theorem dX8_slot_194 : decode cX8_slot 194 = .ok (.isub, 1) := by decide +kernel
theorem dX8_slot_195 : decode cX8_slot 195 = .ok (.iastore, 1) := by decide +kernel
theorem dX8_slot_196 : decode cX8_slot 196 = .ok (.iload 7, 2) := by decide +kernel
theorem dX8_slot_198 : decode cX8_slot 198 = .ok (.ireturn, 1) := by decide +kernel
theorem dX8_slot_199 : decode cX8_slot 199 = .ok (.iinc 8 1, 3) := by decide +kernel
theorem dX8_slot_202 : decode cX8_slot 202 = .ok (.goto (-53), 3) := by decide +kernel
theorem dX8_slot_205 : decode cX8_slot 205 = .ok (.iinc 7 1, 3) := by decide +kernel
theorem dX8_slot_208 : decode cX8_slot 208 = .ok (.goto (-69), 3) := by decide +kernel
theorem dX8_slot_211 : decode cX8_slot 211 = .ok (.aload_n 0, 1) := by decide +kernel
theorem dX8_slot_212 : decode cX8_slot 212 = .ok (.invokevirtual 171, 3) := by decide +kernel
theorem dX8_slot_215 : decode cX8_slot 215 = .ok (.iconst (-1), 1) := by decide +kernel
theorem dX8_slot_216 : decode cX8_slot 216 = .ok (.ireturn, 1) := by decide +kernel
theorem dX8_allAnew_0 : decode cX8_allAnew 0 = .ok (.aload_n 0, 1) := by decide +kernel
theorem dX8_allAnew_1 : decode cX8_allAnew 1 = .ok (.invokevirtual 140, 3) := by decide +kernel
theorem dX8_allAnew_4 : decode cX8_allAnew 4 = .ok (.aload_n 0, 1) := by decide +kernel
theorem dX8_allAnew_5 : decode cX8_allAnew 5 = .ok (.aload_n 0, 1) := by decide +kernel
theorem dX8_allAnew_6 : decode cX8_allAnew 6 = .ok (.getfield 174, 3) := by decide +kernel
theorem dX8_allAnew_9 : decode cX8_allAnew 9 = .ok (.putfield 177, 3) := by decide +kernel
theorem dX8_allAnew_12 : decode cX8_allAnew 12 = .ok (.return_, 1) := by decide +kernel
theorem dX8_empty_0 : decode cX8_empty 0 = .ok (.aload_n 0, 1) := by decide +kernel
theorem dX8_empty_1 : decode cX8_empty 1 = .ok (.iload_n 1, 1) := by decide +kernel
theorem dX8_empty_2 : decode cX8_empty 2 = .ok (.iconst 0, 1) := by decide +kernel
theorem dX8_empty_3 : decode cX8_empty 3 = .ok (.bipush 9, 2) := by decide +kernel
theorem dX8_empty_5 : decode cX8_empty 5 = .ok (.invokestatic 159, 3) := by decide +kernel
theorem dX8_empty_8 : decode cX8_empty 8 = .ok (.iconst 1, 1) := by decide +kernel
theorem dX8_empty_9 : decode cX8_empty 9 = .ok (.iconst 1, 1) := by decide +kernel
theorem dX8_empty_10 : decode cX8_empty 10 = .ok (.invokevirtual 163, 3) := by decide +kernel
theorem dX8_empty_13 : decode cX8_empty 13 = .ok (.ifCond .ne 5, 3) := by decide +kernel
theorem dX8_empty_16 : decode cX8_empty 16 = .ok (.iconst 0, 1) := by decide +kernel
theorem dX8_empty_17 : decode cX8_empty 17 = .ok (.ireturn, 1) := by decide +kernel
theorem dX8_empty_18 : decode cX8_empty 18 = .ok (.aload_n 0, 1) := by decide +kernel
theorem dX8_empty_19 : decode cX8_empty 19 = .ok (.getfield 16, 3) := by decide +kernel
theorem dX8_empty_22 : decode cX8_empty 22 = .ok (.iload_n 1, 1) := by decide +kernel
theorem dX8_empty_23 : decode cX8_empty 23 = .ok (.iaload, 1) := by decide +kernel
theorem dX8_empty_24 : decode cX8_empty 24 = .ok (.istore_n 2, 1) := by decide +kernel
theorem dX8_empty_25 : decode cX8_empty 25 = .ok (.aload_n 0, 1) := by decide +kernel
theorem dX8_empty_26 : decode cX8_empty 26 = .ok (.getfield 16, 3) := by decide +kernel
theorem dX8_empty_29 : decode cX8_empty 29 = .ok (.iload_n 1, 1) := by decide +kernel
theorem dX8_empty_30 : decode cX8_empty 30 = .ok (.iconst 0, 1) := by decide +kernel
theorem dX8_empty_31 : decode cX8_empty 31 = .ok (.iastore, 1) := by decide +kernel
theorem dX8_empty_32 : decode cX8_empty 32 = .ok (.aload_n 0, 1) := by decide +kernel
theorem dX8_empty_33 : decode cX8_empty 33 = .ok (.invokevirtual 171, 3) := by decide +kernel
theorem dX8_empty_36 : decode cX8_empty 36 = .ok (.iload_n 2, 1) := by decide +kernel
theorem dX8_empty_37 : decode cX8_empty 37 = .ok (.ireturn, 1) := by decide +kernel
theorem dX8_except_0 : decode cX8_except 0 = .ok (.aload_n 0, 1) := by decide +kernel
theorem dX8_except_1 : decode cX8_except 1 = .ok (.iload_n 1, 1) := by decide +kernel
theorem dX8_except_2 : decode cX8_except 2 = .ok (.iconst 0, 1) := by decide +kernel
theorem dX8_except_3 : decode cX8_except 3 = .ok (.bipush 9, 2) := by decide +kernel
theorem dX8_except_5 : decode cX8_except 5 = .ok (.invokestatic 159, 3) := by decide +kernel
theorem dX8_except_8 : decode cX8_except 8 = .ok (.iload_n 2, 1) := by decide +kernel
theorem dX8_except_9 : decode cX8_except 9 = .ok (.iconst 0, 1) := by decide +kernel
theorem dX8_except_10 : decode cX8_except 10 = .ok (.sipush 1023, 3) := by decide +kernel
theorem dX8_except_13 : decode cX8_except 13 = .ok (.invokestatic 159, 3) := by decide +kernel
theorem dX8_except_16 : decode cX8_except 16 = .ok (.ifCond .eq 18, 3) := by decide +kernel
theorem dX8_except_19 : decode cX8_except 19 = .ok (.iload_n 3, 1) := by decide +kernel
theorem dX8_except_20 : decode cX8_except 20 = .ok (.iconst 0, 1) := by decide +kernel
theorem dX8_except_21 : decode cX8_except 21 = .ok (.sipush 1023, 3) := by decide +kernel
theorem dX8_except_24 : decode cX8_except 24 = .ok (.invokestatic 159, 3) := by decide +kernel
theorem dX8_except_27 : decode cX8_except 27 = .ok (.ifCond .eq 7, 3) := by decide +kernel
theorem dX8_except_30 : decode cX8_except 30 = .ok (.iconst 1, 1) := by decide +kernel
theorem dX8_except_31 : decode cX8_except 31 = .ok (.goto 4, 3) := by decide +kernel
theorem dX8_except_34 : decode cX8_except 34 = .ok (.iconst 0, 1) := by decide +kernel
theorem dX8_except_35 : decode cX8_except 35 = .ok (.iconst 1, 1) := by decide +kernel
theorem dX8_except_36 : decode cX8_except 36 = .ok (.invokevirtual 163, 3) := by decide +kernel
theorem dX8_except_39 : decode cX8_except 39 = .ok (.ifCond .eq 21, 3) := by decide +kernel
theorem dX8_except_42 : decode cX8_except 42 = .ok (.aload_n 0, 1) := by decide +kernel
theorem dX8_except_43 : decode cX8_except 43 = .ok (.getfield 19, 3) := by decide +kernel
theorem dX8_except_46 : decode cX8_except 46 = .ok (.iload_n 1, 1) := by decide +kernel
theorem dX8_except_47 : decode cX8_except 47 = .ok (.iload_n 2, 1) := by decide +kernel
theorem dX8_except_48 : decode cX8_except 48 = .ok (.iastore, 1) := by decide +kernel
theorem dX8_except_49 : decode cX8_except 49 = .ok (.aload_n 0, 1) := by decide +kernel
theorem dX8_except_50 : decode cX8_except 50 = .ok (.getfield 22, 3) := by decide +kernel
theorem dX8_except_53 : decode cX8_except 53 = .ok (.iload_n 1, 1) := by decide +kernel
theorem dX8_except_54 : decode cX8_except 54 = .ok (.iload_n 3, 1) := by decide +kernel
theorem dX8_except_55 : decode cX8_except 55 = .ok (.iastore, 1) := by decide +kernel
theorem dX8_except_56 : decode cX8_except 56 = .ok (.aload_n 0, 1) := by decide +kernel
theorem dX8_except_57 : decode cX8_except 57 = .ok (.invokevirtual 171, 3) := by decide +kernel
theorem dX8_except_60 : decode cX8_except 60 = .ok (.return_, 1) := by decide +kernel
theorem dX8_omit_0 : decode cX8_omit 0 = .ok (.aload_n 0, 1) := by decide +kernel
theorem dX8_omit_1 : decode cX8_omit 1 = .ok (.iload_n 1, 1) := by decide +kernel
theorem dX8_omit_2 : decode cX8_omit 2 = .ok (.iconst 0, 1) := by decide +kernel
theorem dX8_omit_3 : decode cX8_omit 3 = .ok (.bipush 9, 2) := by decide +kernel
theorem dX8_omit_5 : decode cX8_omit 5 = .ok (.invokestatic 159, 3) := by decide +kernel
theorem dX8_omit_8 : decode cX8_omit 8 = .ok (.iconst 1, 1) := by decide +kernel
theorem dX8_omit_9 : decode cX8_omit 9 = .ok (.iconst 1, 1) := by decide +kernel
theorem dX8_omit_10 : decode cX8_omit 10 = .ok (.invokevirtual 163, 3) := by decide +kernel
theorem dX8_omit_13 : decode cX8_omit 13 = .ok (.ifCond .eq 21, 3) := by decide +kernel
theorem dX8_omit_16 : decode cX8_omit 16 = .ok (.aload_n 0, 1) := by decide +kernel
theorem dX8_omit_17 : decode cX8_omit 17 = .ok (.getfield 25, 3) := by decide +kernel
theorem dX8_omit_20 : decode cX8_omit 20 = .ok (.iload_n 1, 1) := by decide +kernel
theorem dX8_omit_21 : decode cX8_omit 21 = .ok (.iload_n 2, 1) := by decide +kernel
theorem dX8_omit_22 : decode cX8_omit 22 = .ok (.bastore, 1) := by decide +kernel
theorem dX8_omit_23 : decode cX8_omit 23 = .ok (.aload_n 0, 1) := by decide +kernel
theorem dX8_omit_24 : decode cX8_omit 24 = .ok (.getfield 29, 3) := by decide +kernel
theorem dX8_omit_27 : decode cX8_omit 27 = .ok (.iload_n 1, 1) := by decide +kernel
theorem dX8_omit_28 : decode cX8_omit 28 = .ok (.iload_n 3, 1) := by decide +kernel
theorem dX8_omit_29 : decode cX8_omit 29 = .ok (.bastore, 1) := by decide +kernel
theorem dX8_omit_30 : decode cX8_omit 30 = .ok (.aload_n 0, 1) := by decide +kernel
theorem dX8_omit_31 : decode cX8_omit 31 = .ok (.invokevirtual 171, 3) := by decide +kernel
theorem dX8_omit_34 : decode cX8_omit 34 = .ok (.return_, 1) := by decide +kernel
theorem dX8_isToken_0 : decode cX8_isToken 0 = .ok (.iload_n 0, 1) := by decide +kernel
theorem dX8_isToken_1 : decode cX8_isToken 1 = .ok (.ifCond .eq 8, 3) := by decide +kernel
theorem dX8_isToken_4 : decode cX8_isToken 4 = .ok (.iload_n 0, 1) := by decide +kernel
theorem dX8_isToken_5 : decode cX8_isToken 5 = .ok (.iconst 1, 1) := by decide +kernel
theorem dX8_isToken_6 : decode cX8_isToken 6 = .ok (.if_icmp .ne 13, 3) := by decide +kernel
theorem dX8_isToken_9 : decode cX8_isToken 9 = .ok (.iload_n 1, 1) := by decide +kernel
theorem dX8_isToken_10 : decode cX8_isToken 10 = .ok (.iconst 0, 1) := by decide +kernel
theorem dX8_isToken_11 : decode cX8_isToken 11 = .ok (.bipush 9, 2) := by decide +kernel
theorem dX8_isToken_13 : decode cX8_isToken 13 = .ok (.invokestatic 159, 3) := by decide +kernel
theorem dX8_isToken_16 : decode cX8_isToken 16 = .ok (.goto 56, 3) := by decide +kernel
theorem dX8_isToken_19 : decode cX8_isToken 19 = .ok (.iload_n 0, 1) := by decide +kernel
theorem dX8_isToken_20 : decode cX8_isToken 20 = .ok (.iconst 4, 1) := by decide +kernel
theorem dX8_isToken_21 : decode cX8_isToken 21 = .ok (.if_icmp .ne 14, 3) := by decide +kernel
theorem dX8_isToken_24 : decode cX8_isToken 24 = .ok (.iload_n 1, 1) := by decide +kernel
theorem dX8_isToken_25 : decode cX8_isToken 25 = .ok (.bipush 32, 2) := by decide +kernel
theorem dX8_isToken_27 : decode cX8_isToken 27 = .ok (.bipush 126, 2) := by decide +kernel
theorem dX8_isToken_29 : decode cX8_isToken 29 = .ok (.invokestatic 159, 3) := by decide +kernel
theorem dX8_isToken_32 : decode cX8_isToken 32 = .ok (.goto 40, 3) := by decide +kernel
theorem dX8_isToken_35 : decode cX8_isToken 35 = .ok (.iload_n 0, 1) := by decide +kernel
theorem dX8_isToken_36 : decode cX8_isToken 36 = .ok (.bipush 6, 2) := by decide +kernel
theorem dX8_isToken_38 : decode cX8_isToken 38 = .ok (.if_icmp .ne 12, 3) := by decide +kernel
theorem dX8_isToken_41 : decode cX8_isToken 41 = .ok (.iload_n 1, 1) := by decide +kernel
theorem dX8_isToken_42 : decode cX8_isToken 42 = .ok (.iconst 0, 1) := by decide +kernel
theorem dX8_isToken_43 : decode cX8_isToken 43 = .ok (.iconst 5, 1) := by decide +kernel
theorem dX8_isToken_44 : decode cX8_isToken 44 = .ok (.invokestatic 159, 3) := by decide +kernel
theorem dX8_isToken_47 : decode cX8_isToken 47 = .ok (.goto 25, 3) := by decide +kernel
theorem dX8_isToken_50 : decode cX8_isToken 50 = .ok (.iload_n 0, 1) := by decide +kernel
theorem dX8_isToken_51 : decode cX8_isToken 51 = .ok (.bipush 7, 2) := by decide +kernel
theorem dX8_isToken_53 : decode cX8_isToken 53 = .ok (.if_icmp .ne 12, 3) := by decide +kernel
theorem dX8_isToken_56 : decode cX8_isToken 56 = .ok (.iload_n 1, 1) := by decide +kernel
theorem dX8_isToken_57 : decode cX8_isToken 57 = .ok (.iconst 0, 1) := by decide +kernel
theorem dX8_isToken_58 : decode cX8_isToken 58 = .ok (.iconst 3, 1) := by decide +kernel
theorem dX8_isToken_59 : decode cX8_isToken 59 = .ok (.invokestatic 159, 3) := by decide +kernel
theorem dX8_isToken_62 : decode cX8_isToken 62 = .ok (.goto 10, 3) := by decide +kernel
theorem dX8_isToken_65 : decode cX8_isToken 65 = .ok (.iload_n 0, 1) := by decide +kernel
theorem dX8_isToken_66 : decode cX8_isToken 66 = .ok (.iconst 0, 1) := by decide +kernel
theorem dX8_isToken_67 : decode cX8_isToken 67 = .ok (.bipush 8, 2) := by decide +kernel
theorem dX8_isToken_69 : decode cX8_isToken 69 = .ok (.invokestatic 159, 3) := by decide +kernel
theorem dX8_isToken_72 : decode cX8_isToken 72 = .ok (.ireturn, 1) := by decide +kernel
theorem dX8_entity_0 : decode cX8_entity 0 = .ok (.iload_n 1, 1) := by decide +kernel
theorem dX8_entity_1 : decode cX8_entity 1 = .ok (.iconst 0, 1) := by decide +kernel
theorem dX8_entity_2 : decode cX8_entity 2 = .ok (.iconst 5, 1) := by decide +kernel
theorem dX8_entity_3 : decode cX8_entity 3 = .ok (.invokestatic 159, 3) := by decide +kernel
theorem dX8_entity_6 : decode cX8_entity 6 = .ok (.istore 4, 2) := by decide +kernel
theorem dX8_entity_8 : decode cX8_entity 8 = .ok (.aload_n 0, 1) := by decide +kernel
theorem dX8_entity_9 : decode cX8_entity 9 = .ok (.iload 4, 2) := by decide +kernel
theorem dX8_entity_11 : decode cX8_entity 11 = .ok (.iload_n 2, 1) := by decide +kernel
theorem dX8_entity_12 : decode cX8_entity 12 = .ok (.iload_n 3, 1) := by decide +kernel
theorem dX8_entity_13 : decode cX8_entity 13 = .ok (.invokestatic 180, 3) := by decide +kernel
theorem dX8_entity_16 : decode cX8_entity 16 = .ok (.iload 4, 2) := by decide +kernel
theorem dX8_entity_18 : decode cX8_entity 18 = .ok (.ifCond .eq 18, 3) := by decide +kernel
theorem dX8_entity_21 : decode cX8_entity 21 = .ok (.aload_n 0, 1) := by decide +kernel
theorem dX8_entity_22 : decode cX8_entity 22 = .ok (.getfield 38, 3) := by decide +kernel
theorem dX8_entity_25 : decode cX8_entity 25 = .ok (.iload_n 1, 1) := by decide +kernel
theorem dX8_entity_26 : decode cX8_entity 26 = .ok (.iaload, 1) := by decide +kernel
theorem dX8_entity_27 : decode cX8_entity 27 = .ok (.bipush 6, 2) := by decide +kernel
theorem dX8_entity_29 : decode cX8_entity 29 = .ok (.if_icmp .ge 7, 3) := by decide +kernel
theorem dX8_entity_32 : decode cX8_entity 32 = .ok (.iconst 1, 1) := by decide +kernel
theorem dX8_entity_33 : decode cX8_entity 33 = .ok (.goto 4, 3) := by decide +kernel
theorem dX8_entity_36 : decode cX8_entity 36 = .ok (.iconst 0, 1) := by decide +kernel
theorem dX8_entity_37 : decode cX8_entity 37 = .ok (.invokevirtual 163, 3) := by decide +kernel
theorem dX8_entity_40 : decode cX8_entity 40 = .ok (.ifCond .ne 5, 3) := by decide +kernel
theorem dX8_entity_43 : decode cX8_entity 43 = .ok (.iconst 0, 1) := by decide +kernel
theorem dX8_entity_44 : decode cX8_entity 44 = .ok (.ireturn, 1) := by decide +kernel
theorem dX8_entity_45 : decode cX8_entity 45 = .ok (.aload_n 0, 1) := by decide +kernel
theorem dX8_entity_46 : decode cX8_entity 46 = .ok (.getfield 32, 3) := by decide +kernel
theorem dX8_entity_49 : decode cX8_entity 49 = .ok (.bipush 6, 2) := by decide +kernel
theorem dX8_entity_51 : decode cX8_entity 51 = .ok (.iload_n 1, 1) := by decide +kernel
theorem dX8_entity_52 : decode cX8_entity 52 = .ok (.imul, 1) := by decide +kernel
theorem dX8_entity_53 : decode cX8_entity 53 = .ok (.aload_n 0, 1) := by decide +kernel
theorem dX8_entity_54 : decode cX8_entity 54 = .ok (.getfield 38, 3) := by decide +kernel
theorem dX8_entity_57 : decode cX8_entity 57 = .ok (.iload_n 1, 1) := by decide +kernel
theorem dX8_entity_58 : decode cX8_entity 58 = .ok (.iaload, 1) := by decide +kernel
theorem dX8_entity_59 : decode cX8_entity 59 = .ok (.iadd, 1) := by decide +kernel
theorem dX8_entity_60 : decode cX8_entity 60 = .ok (.iload_n 2, 1) := by decide +kernel
theorem dX8_entity_61 : decode cX8_entity 61 = .ok (.iastore, 1) := by decide +kernel
theorem dX8_entity_62 : decode cX8_entity 62 = .ok (.aload_n 0, 1) := by decide +kernel
theorem dX8_entity_63 : decode cX8_entity 63 = .ok (.getfield 35, 3) := by decide +kernel
theorem dX8_entity_66 : decode cX8_entity 66 = .ok (.bipush 6, 2) := by decide +kernel
theorem dX8_entity_68 : decode cX8_entity 68 = .ok (.iload_n 1, 1) := by decide +kernel
theorem dX8_entity_69 : decode cX8_entity 69 = .ok (.imul, 1) := by decide +kernel
theorem dX8_entity_70 : decode cX8_entity 70 = .ok (.aload_n 0, 1) := by decide +kernel
theorem dX8_entity_71 : decode cX8_entity 71 = .ok (.getfield 38, 3) := by decide +kernel
theorem dX8_entity_74 : decode cX8_entity 74 = .ok (.iload_n 1, 1) := by decide +kernel
theorem dX8_entity_75 : decode cX8_entity 75 = .ok (.iaload, 1) := by decide +kernel
theorem dX8_entity_76 : decode cX8_entity 76 = .ok (.iadd, 1) := by decide +kernel
theorem dX8_entity_77 : decode cX8_entity 77 = .ok (.iload_n 3, 1) := by decide +kernel
theorem dX8_entity_78 : decode cX8_entity 78 = .ok (.iastore, 1) := by decide +kernel
theorem dX8_entity_79 : decode cX8_entity 79 = .ok (.aload_n 0, 1) := by decide +kernel
theorem dX8_entity_80 : decode cX8_entity 80 = .ok (.getfield 38, 3) := by decide +kernel
theorem dX8_entity_83 : decode cX8_entity 83 = .ok (.iload_n 1, 1) := by decide +kernel
theorem dX8_entity_84 : decode cX8_entity 84 = .ok (.dup2, 1) := by decide +kernel
theorem dX8_entity_85 : decode cX8_entity 85 = .ok (.iaload, 1) := by decide +kernel
theorem dX8_entity_86 : decode cX8_entity 86 = .ok (.iconst 1, 1) := by decide +kernel
theorem dX8_entity_87 : decode cX8_entity 87 = .ok (.iadd, 1) := by decide +kernel
theorem dX8_entity_88 : decode cX8_entity 88 = .ok (.iastore, 1) := by decide +kernel
theorem dX8_entity_89 : decode cX8_entity 89 = .ok (.aload_n 0, 1) := by decide +kernel
theorem dX8_entity_90 : decode cX8_entity 90 = .ok (.invokevirtual 171, 3) := by decide +kernel
theorem dX8_entity_93 : decode cX8_entity 93 = .ok (.aload_n 0, 1) := by decide +kernel
theorem dX8_entity_94 : decode cX8_entity 94 = .ok (.getfield 38, 3) := by decide +kernel
theorem dX8_entity_97 : decode cX8_entity 97 = .ok (.iload_n 1, 1) := by decide +kernel
theorem dX8_entity_98 : decode cX8_entity 98 = .ok (.iaload, 1) := by decide +kernel
theorem dX8_entity_99 : decode cX8_entity 99 = .ok (.ireturn, 1) := by decide +kernel
theorem dX8_clear_0 : decode cX8_clear 0 = .ok (.aload_n 0, 1) := by decide +kernel
theorem dX8_clear_1 : decode cX8_clear 1 = .ok (.iload_n 1, 1) := by decide +kernel
theorem dX8_clear_2 : decode cX8_clear 2 = .ok (.iconst 0, 1) := by decide +kernel
theorem dX8_clear_3 : decode cX8_clear 3 = .ok (.iconst 5, 1) := by decide +kernel
theorem dX8_clear_4 : decode cX8_clear 4 = .ok (.invokestatic 159, 3) := by decide +kernel
theorem dX8_clear_7 : decode cX8_clear 7 = .ok (.iconst 1, 1) := by decide +kernel
theorem dX8_clear_8 : decode cX8_clear 8 = .ok (.iconst 1, 1) := by decide +kernel
theorem dX8_clear_9 : decode cX8_clear 9 = .ok (.invokevirtual 163, 3) := by decide +kernel
theorem dX8_clear_12 : decode cX8_clear 12 = .ok (.ifCond .ne 5, 3) := by decide +kernel
theorem dX8_clear_15 : decode cX8_clear 15 = .ok (.iconst 0, 1) := by decide +kernel
theorem dX8_clear_16 : decode cX8_clear 16 = .ok (.ireturn, 1) := by decide +kernel
theorem dX8_clear_17 : decode cX8_clear 17 = .ok (.aload_n 0, 1) := by decide +kernel
theorem dX8_clear_18 : decode cX8_clear 18 = .ok (.getfield 38, 3) := by decide +kernel
theorem dX8_clear_21 : decode cX8_clear 21 = .ok (.iload_n 1, 1) := by decide +kernel
theorem dX8_clear_22 : decode cX8_clear 22 = .ok (.iaload, 1) := by decide +kernel
theorem dX8_clear_23 : decode cX8_clear 23 = .ok (.istore_n 2, 1) := by decide +kernel
theorem dX8_clear_24 : decode cX8_clear 24 = .ok (.aload_n 0, 1) := by decide +kernel
theorem dX8_clear_25 : decode cX8_clear 25 = .ok (.getfield 38, 3) := by decide +kernel
theorem dX8_clear_28 : decode cX8_clear 28 = .ok (.iload_n 1, 1) := by decide +kernel
theorem dX8_clear_29 : decode cX8_clear 29 = .ok (.iconst 0, 1) := by decide +kernel
theorem dX8_clear_30 : decode cX8_clear 30 = .ok (.iastore, 1) := by decide +kernel
theorem dX8_clear_31 : decode cX8_clear 31 = .ok (.aload_n 0, 1) := by decide +kernel
theorem dX8_clear_32 : decode cX8_clear 32 = .ok (.invokevirtual 171, 3) := by decide +kernel
theorem dX8_clear_35 : decode cX8_clear 35 = .ok (.iload_n 2, 1) := by decide +kernel
theorem dX8_clear_36 : decode cX8_clear 36 = .ok (.ireturn, 1) := by decide +kernel
theorem dX8_flip_0 : decode cX8_flip 0 = .ok (.aload_n 0, 1) := by decide +kernel
theorem dX8_flip_1 : decode cX8_flip 1 = .ok (.iload_n 1, 1) := by decide +kernel
theorem dX8_flip_2 : decode cX8_flip 2 = .ok (.iconst 0, 1) := by decide +kernel
theorem dX8_flip_3 : decode cX8_flip 3 = .ok (.iconst 3, 1) := by decide +kernel
theorem dX8_flip_4 : decode cX8_flip 4 = .ok (.invokestatic 159, 3) := by decide +kernel
theorem dX8_flip_7 : decode cX8_flip 7 = .ok (.iload_n 2, 1) := by decide +kernel
theorem dX8_flip_8 : decode cX8_flip 8 = .ok (.iconst 0, 1) := by decide +kernel
theorem dX8_flip_9 : decode cX8_flip 9 = .ok (.iconst 2, 1) := by decide +kernel
theorem dX8_flip_10 : decode cX8_flip 10 = .ok (.invokestatic 159, 3) := by decide +kernel
theorem dX8_flip_13 : decode cX8_flip 13 = .ok (.iconst 1, 1) := by decide +kernel
theorem dX8_flip_14 : decode cX8_flip 14 = .ok (.invokevirtual 163, 3) := by decide +kernel
theorem dX8_flip_17 : decode cX8_flip 17 = .ok (.ifCond .ne 5, 3) := by decide +kernel
theorem dX8_flip_20 : decode cX8_flip 20 = .ok (.iconst 0, 1) := by decide +kernel
theorem dX8_flip_21 : decode cX8_flip 21 = .ok (.ireturn, 1) := by decide +kernel
theorem dX8_flip_22 : decode cX8_flip 22 = .ok (.aload_n 0, 1) := by decide +kernel
theorem dX8_flip_23 : decode cX8_flip 23 = .ok (.getfield 41, 3) := by decide +kernel
theorem dX8_flip_26 : decode cX8_flip 26 = .ok (.iload_n 1, 1) := by decide +kernel
theorem dX8_flip_27 : decode cX8_flip 27 = .ok (.iaload, 1) := by decide +kernel
theorem dX8_flip_28 : decode cX8_flip 28 = .ok (.istore_n 3, 1) := by decide +kernel
theorem dX8_flip_29 : decode cX8_flip 29 = .ok (.aload_n 0, 1) := by decide +kernel
theorem dX8_flip_30 : decode cX8_flip 30 = .ok (.getfield 41, 3) := by decide +kernel
theorem dX8_flip_33 : decode cX8_flip 33 = .ok (.iload_n 1, 1) := by decide +kernel
theorem dX8_flip_34 : decode cX8_flip 34 = .ok (.iload_n 2, 1) := by decide +kernel
theorem dX8_flip_35 : decode cX8_flip 35 = .ok (.iastore, 1) := by decide +kernel
theorem dX8_flip_36 : decode cX8_flip 36 = .ok (.aload_n 0, 1) := by decide +kernel
theorem dX8_flip_37 : decode cX8_flip 37 = .ok (.invokevirtual 171, 3) := by decide +kernel
theorem dX8_flip_40 : decode cX8_flip 40 = .ok (.iload_n 3, 1) := by decide +kernel
theorem dX8_flip_41 : decode cX8_flip 41 = .ok (.ireturn, 1) := by decide +kernel
theorem dX8_fails_0 : decode cX8_fails 0 = .ok (.aload_n 0, 1) := by decide +kernel
theorem dX8_fails_1 : decode cX8_fails 1 = .ok (.getfield 83, 3) := by decide +kernel
theorem dX8_fails_4 : decode cX8_fails 4 = .ok (.aload_n 0, 1) := by decide +kernel
theorem dX8_fails_5 : decode cX8_fails 5 = .ok (.getfield 184, 3) := by decide +kernel
theorem dX8_fails_8 : decode cX8_fails 8 = .ok (.iload_n 1, 1) := by decide +kernel
theorem dX8_fails_9 : decode cX8_fails 9 = .ok (.iastore, 1) := by decide +kernel
theorem dX8_fails_10 : decode cX8_fails 10 = .ok (.aload_n 0, 1) := by decide +kernel
theorem dX8_fails_11 : decode cX8_fails 11 = .ok (.getfield 86, 3) := by decide +kernel
theorem dX8_fails_14 : decode cX8_fails 14 = .ok (.aload_n 0, 1) := by decide +kernel
theorem dX8_fails_15 : decode cX8_fails 15 = .ok (.getfield 184, 3) := by decide +kernel
theorem dX8_fails_18 : decode cX8_fails 18 = .ok (.aload_n 0, 1) := by decide +kernel
theorem dX8_fails_19 : decode cX8_fails 19 = .ok (.getfield 92, 3) := by decide +kernel
theorem dX8_fails_22 : decode cX8_fails 22 = .ok (.iconst 0, 1) := by decide +kernel
theorem dX8_fails_23 : decode cX8_fails 23 = .ok (.iaload, 1) := by decide +kernel
theorem dX8_fails_24 : decode cX8_fails 24 = .ok (.iastore, 1) := by decide +kernel
theorem dX8_fails_25 : decode cX8_fails 25 = .ok (.aload_n 0, 1) := by decide +kernel
theorem dX8_fails_26 : decode cX8_fails 26 = .ok (.dup, 1) := by decide +kernel
theorem dX8_fails_27 : decode cX8_fails 27 = .ok (.getfield 184, 3) := by decide +kernel
theorem dX8_fails_30 : decode cX8_fails 30 = .ok (.iconst 1, 1) := by decide +kernel
theorem dX8_fails_31 : decode cX8_fails 31 = .ok (.iadd, 1) := by decide +kernel
theorem dX8_fails_32 : decode cX8_fails 32 = .ok (.putfield 184, 3) := by decide +kernel
theorem dX8_fails_35 : decode cX8_fails 35 = .ok (.return_, 1) := by decide +kernel
theorem dX8_puts_0 : decode cX8_puts 0 = .ok (.aload_n 0, 1) := by decide +kernel
theorem dX8_puts_1 : decode cX8_puts 1 = .ok (.getfield 68, 3) := by decide +kernel
theorem dX8_puts_4 : decode cX8_puts 4 = .ok (.aload_n 0, 1) := by decide +kernel
theorem dX8_puts_5 : decode cX8_puts 5 = .ok (.getfield 187, 3) := by decide +kernel
theorem dX8_puts_8 : decode cX8_puts 8 = .ok (.iload_n 1, 1) := by decide +kernel
theorem dX8_puts_9 : decode cX8_puts 9 = .ok (.iastore, 1) := by decide +kernel
theorem dX8_puts_10 : decode cX8_puts 10 = .ok (.aload_n 0, 1) := by decide +kernel
theorem dX8_puts_11 : decode cX8_puts 11 = .ok (.getfield 71, 3) := by decide +kernel
theorem dX8_puts_14 : decode cX8_puts 14 = .ok (.aload_n 0, 1) := by decide +kernel
theorem dX8_puts_15 : decode cX8_puts 15 = .ok (.getfield 187, 3) := by decide +kernel
theorem dX8_puts_18 : decode cX8_puts 18 = .ok (.aload_n 0, 1) := by decide +kernel
theorem dX8_puts_19 : decode cX8_puts 19 = .ok (.getfield 190, 3) := by decide +kernel
theorem dX8_puts_22 : decode cX8_puts 22 = .ok (.ifCond .ne 7, 3) := by decide +kernel
theorem dX8_puts_25 : decode cX8_puts 25 = .ok (.iconst (-1), 1) := by decide +kernel
theorem dX8_puts_26 : decode cX8_puts 26 = .ok (.goto 14, 3) := by decide +kernel
theorem dX8_puts_29 : decode cX8_puts 29 = .ok (.aload_n 0, 1) := by decide +kernel
theorem dX8_puts_30 : decode cX8_puts 30 = .ok (.getfield 65, 3) := by decide +kernel
theorem dX8_puts_33 : decode cX8_puts 33 = .ok (.aload_n 0, 1) := by decide +kernel
theorem dX8_puts_34 : decode cX8_puts 34 = .ok (.getfield 190, 3) := by decide +kernel
theorem dX8_puts_37 : decode cX8_puts 37 = .ok (.iconst 1, 1) := by decide +kernel
theorem dX8_puts_38 : decode cX8_puts 38 = .ok (.isub, 1) := by decide +kernel
theorem dX8_puts_39 : decode cX8_puts 39 = .ok (.iaload, 1) := by decide +kernel
theorem dX8_puts_40 : decode cX8_puts 40 = .ok (.iastore, 1) := by decide +kernel
theorem dX8_puts_41 : decode cX8_puts 41 = .ok (.aload_n 0, 1) := by decide +kernel
theorem dX8_puts_42 : decode cX8_puts 42 = .ok (.getfield 74, 3) := by decide +kernel
theorem dX8_puts_45 : decode cX8_puts 45 = .ok (.aload_n 0, 1) := by decide +kernel
theorem dX8_puts_46 : decode cX8_puts 46 = .ok (.getfield 187, 3) := by decide +kernel
theorem dX8_puts_49 : decode cX8_puts 49 = .ok (.iload_n 2, 1) := by decide +kernel
theorem dX8_puts_50 : decode cX8_puts 50 = .ok (.iastore, 1) := by decide +kernel
theorem dX8_puts_51 : decode cX8_puts 51 = .ok (.aload_n 0, 1) := by decide +kernel
theorem dX8_puts_52 : decode cX8_puts 52 = .ok (.getfield 77, 3) := by decide +kernel
theorem dX8_puts_55 : decode cX8_puts 55 = .ok (.aload_n 0, 1) := by decide +kernel
theorem dX8_puts_56 : decode cX8_puts 56 = .ok (.getfield 187, 3) := by decide +kernel
theorem dX8_puts_59 : decode cX8_puts 59 = .ok (.aload_n 0, 1) := by decide +kernel
theorem dX8_puts_60 : decode cX8_puts 60 = .ok (.getfield 92, 3) := by decide +kernel
theorem dX8_puts_63 : decode cX8_puts 63 = .ok (.iconst 0, 1) := by decide +kernel
theorem dX8_puts_64 : decode cX8_puts 64 = .ok (.iaload, 1) := by decide +kernel
theorem dX8_puts_65 : decode cX8_puts 65 = .ok (.iastore, 1) := by decide +kernel
theorem dX8_puts_66 : decode cX8_puts 66 = .ok (.aload_n 0, 1) := by decide +kernel
theorem dX8_puts_67 : decode cX8_puts 67 = .ok (.getfield 80, 3) := by decide +kernel
theorem dX8_puts_70 : decode cX8_puts 70 = .ok (.aload_n 0, 1) := by decide +kernel
theorem dX8_puts_71 : decode cX8_puts 71 = .ok (.getfield 187, 3) := by decide +kernel
theorem dX8_puts_74 : decode cX8_puts 74 = .ok (.iload_n 3, 1) := by decide +kernel
theorem dX8_puts_75 : decode cX8_puts 75 = .ok (.bastore, 1) := by decide +kernel
theorem dX8_puts_76 : decode cX8_puts 76 = .ok (.aload_n 0, 1) := by decide +kernel
theorem dX8_puts_77 : decode cX8_puts 77 = .ok (.dup, 1) := by decide +kernel
theorem dX8_puts_78 : decode cX8_puts 78 = .ok (.getfield 187, 3) := by decide +kernel
theorem dX8_puts_81 : decode cX8_puts 81 = .ok (.iconst 1, 1) := by decide +kernel
theorem dX8_puts_82 : decode cX8_puts 82 = .ok (.iadd, 1) := by decide +kernel
theorem dX8_puts_83 : decode cX8_puts 83 = .ok (.putfield 187, 3) := by decide +kernel
theorem dX8_puts_86 : decode cX8_puts 86 = .ok (.return_, 1) := by decide +kernel
theorem dX8_opensElement_0 : decode cX8_opensElement 0 = .ok (.aload_n 0, 1) := by decide +kernel
theorem dX8_opensElement_1 : decode cX8_opensElement 1 = .ok (.iload_n 1, 1) := by decide +kernel
theorem dX8_opensElement_2 : decode cX8_opensElement 2 = .ok (.bipush 60, 2) := by decide +kernel
theorem dX8_opensElement_4 : decode cX8_opensElement 4 = .ok (.iload_n 2, 1) := by decide +kernel
theorem dX8_opensElement_5 : decode cX8_opensElement 5 = .ok (.invokevirtual 193, 3) := by decide +kernel
theorem dX8_opensElement_8 : decode cX8_opensElement 8 = .ok (.aload_n 0, 1) := by decide +kernel
theorem dX8_opensElement_9 : decode cX8_opensElement 9 = .ok (.dup, 1) := by decide +kernel
theorem dX8_opensElement_10 : decode cX8_opensElement 10 = .ok (.getfield 197, 3) := by decide +kernel
theorem dX8_opensElement_13 : decode cX8_opensElement 13 = .ok (.iload_n 2, 1) := by decide +kernel
theorem dX8_opensElement_14 : decode cX8_opensElement 14 = .ok (.ifCond .eq 7, 3) := by decide +kernel
theorem dX8_opensElement_17 : decode cX8_opensElement 17 = .ok (.iconst 1, 1) := by decide +kernel
theorem dX8_opensElement_18 : decode cX8_opensElement 18 = .ok (.goto 4, 3) := by decide +kernel
theorem dX8_opensElement_21 : decode cX8_opensElement 21 = .ok (.iconst 0, 1) := by decide +kernel
theorem dX8_opensElement_22 : decode cX8_opensElement 22 = .ok (.iadd, 1) := by decide +kernel
theorem dX8_opensElement_23 : decode cX8_opensElement 23 = .ok (.putfield 197, 3) := by decide +kernel
theorem dX8_opensElement_26 : decode cX8_opensElement 26 = .ok (.aload_n 0, 1) := by decide +kernel
theorem dX8_opensElement_27 : decode cX8_opensElement 27 = .ok (.iconst 1, 1) := by decide +kernel
theorem dX8_opensElement_28 : decode cX8_opensElement 28 = .ok (.putfield 200, 3) := by decide +kernel
theorem dX8_opensElement_31 : decode cX8_opensElement 31 = .ok (.aload_n 0, 1) := by decide +kernel
theorem dX8_opensElement_32 : decode cX8_opensElement 32 = .ok (.iload_n 1, 1) := by decide +kernel
theorem dX8_opensElement_33 : decode cX8_opensElement 33 = .ok (.putfield 204, 3) := by decide +kernel
theorem dX8_opensElement_36 : decode cX8_opensElement 36 = .ok (.aload_n 0, 1) := by decide +kernel
theorem dX8_opensElement_37 : decode cX8_opensElement 37 = .ok (.getfield 16, 3) := by decide +kernel
theorem dX8_opensElement_40 : decode cX8_opensElement 40 = .ok (.iload_n 1, 1) := by decide +kernel
theorem dX8_opensElement_41 : decode cX8_opensElement 41 = .ok (.iaload, 1) := by decide +kernel
theorem dX8_opensElement_42 : decode cX8_opensElement 42 = .ok (.ifCond .le 58, 3) := by decide +kernel
theorem dX8_opensElement_45 : decode cX8_opensElement 45 = .ok (.aload_n 0, 1) := by decide +kernel
theorem dX8_opensElement_46 : decode cX8_opensElement 46 = .ok (.getfield 56, 3) := by decide +kernel
theorem dX8_opensElement_49 : decode cX8_opensElement 49 = .ok (.aload_n 0, 1) := by decide +kernel
theorem dX8_opensElement_50 : decode cX8_opensElement 50 = .ok (.getfield 190, 3) := by decide +kernel
theorem dX8_opensElement_53 : decode cX8_opensElement 53 = .ok (.iload_n 1, 1) := by decide +kernel
theorem dX8_opensElement_54 : decode cX8_opensElement 54 = .ok (.iastore, 1) := by decide +kernel
theorem dX8_opensElement_55 : decode cX8_opensElement 55 = .ok (.aload_n 0, 1) := by decide +kernel
theorem dX8_opensElement_56 : decode cX8_opensElement 56 = .ok (.getfield 59, 3) := by decide +kernel
theorem dX8_opensElement_59 : decode cX8_opensElement 59 = .ok (.aload_n 0, 1) := by decide +kernel
theorem dX8_opensElement_60 : decode cX8_opensElement 60 = .ok (.getfield 190, 3) := by decide +kernel
theorem dX8_opensElement_63 : decode cX8_opensElement 63 = .ok (.iconst 0, 1) := by decide +kernel
theorem dX8_opensElement_64 : decode cX8_opensElement 64 = .ok (.iastore, 1) := by decide +kernel
theorem dX8_opensElement_65 : decode cX8_opensElement 65 = .ok (.aload_n 0, 1) := by decide +kernel
theorem dX8_opensElement_66 : decode cX8_opensElement 66 = .ok (.getfield 62, 3) := by decide +kernel
theorem dX8_opensElement_69 : decode cX8_opensElement 69 = .ok (.aload_n 0, 1) := by decide +kernel
theorem dX8_opensElement_70 : decode cX8_opensElement 70 = .ok (.getfield 190, 3) := by decide +kernel
theorem dX8_opensElement_73 : decode cX8_opensElement 73 = .ok (.iconst 0, 1) := by decide +kernel
theorem dX8_opensElement_74 : decode cX8_opensElement 74 = .ok (.bastore, 1) := by decide +kernel
theorem dX8_opensElement_75 : decode cX8_opensElement 75 = .ok (.aload_n 0, 1) := by decide +kernel
theorem dX8_opensElement_76 : decode cX8_opensElement 76 = .ok (.getfield 65, 3) := by decide +kernel
theorem dX8_opensElement_79 : decode cX8_opensElement 79 = .ok (.aload_n 0, 1) := by decide +kernel
theorem dX8_opensElement_80 : decode cX8_opensElement 80 = .ok (.getfield 190, 3) := by decide +kernel
theorem dX8_opensElement_83 : decode cX8_opensElement 83 = .ok (.aload_n 0, 1) := by decide +kernel
theorem dX8_opensElement_84 : decode cX8_opensElement 84 = .ok (.getfield 187, 3) := by decide +kernel
theorem dX8_opensElement_87 : decode cX8_opensElement 87 = .ok (.iconst 1, 1) := by decide +kernel
theorem dX8_opensElement_88 : decode cX8_opensElement 88 = .ok (.isub, 1) := by decide +kernel
theorem dX8_opensElement_89 : decode cX8_opensElement 89 = .ok (.iastore, 1) := by decide +kernel
theorem dX8_opensElement_90 : decode cX8_opensElement 90 = .ok (.aload_n 0, 1) := by decide +kernel
theorem dX8_opensElement_91 : decode cX8_opensElement 91 = .ok (.dup, 1) := by decide +kernel
theorem dX8_opensElement_92 : decode cX8_opensElement 92 = .ok (.getfield 190, 3) := by decide +kernel
theorem dX8_opensElement_95 : decode cX8_opensElement 95 = .ok (.iconst 1, 1) := by decide +kernel
theorem dX8_opensElement_96 : decode cX8_opensElement 96 = .ok (.iadd, 1) := by decide +kernel
theorem dX8_opensElement_97 : decode cX8_opensElement 97 = .ok (.putfield 190, 3) := by decide +kernel
theorem dX8_opensElement_100 : decode cX8_opensElement 100 = .ok (.return_, 1) := by decide +kernel
