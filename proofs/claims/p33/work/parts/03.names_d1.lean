theorem dX4_restart_0 : decode cX4_restart 0 = .ok (.aload_n 0, 1) := by decide +kernel
theorem dX4_restart_1 : decode cX4_restart 1 = .ok (.iconst 0, 1) := by decide +kernel
theorem dX4_restart_2 : decode cX4_restart 2 = .ok (.putfield 26, 3) := by decide +kernel
theorem dX4_restart_5 : decode cX4_restart 5 = .ok (.aload_n 0, 1) := by decide +kernel
theorem dX4_restart_6 : decode cX4_restart 6 = .ok (.iconst (-1), 1) := by decide +kernel
theorem dX4_restart_7 : decode cX4_restart 7 = .ok (.putfield 18, 3) := by decide +kernel
theorem dX4_restart_10 : decode cX4_restart 10 = .ok (.aload_n 0, 1) := by decide +kernel
theorem dX4_restart_11 : decode cX4_restart 11 = .ok (.iconst 0, 1) := by decide +kernel
theorem dX4_restart_12 : decode cX4_restart 12 = .ok (.putfield 29, 3) := by decide +kernel
theorem dX4_restart_15 : decode cX4_restart 15 = .ok (.return_, 1) := by decide +kernel
theorem dX4_copyFrom_0 : decode cX4_copyFrom 0 = .ok (.aload_n 0, 1) := by decide +kernel
theorem dX4_copyFrom_1 : decode cX4_copyFrom 1 = .ok (.aload_n 1, 1) := by decide +kernel
theorem dX4_copyFrom_2 : decode cX4_copyFrom 2 = .ok (.getfield 26, 3) := by decide +kernel
theorem dX4_copyFrom_5 : decode cX4_copyFrom 5 = .ok (.putfield 26, 3) := by decide +kernel
theorem dX4_copyFrom_8 : decode cX4_copyFrom 8 = .ok (.aload_n 0, 1) := by decide +kernel
theorem dX4_copyFrom_9 : decode cX4_copyFrom 9 = .ok (.aload_n 1, 1) := by decide +kernel
theorem dX4_copyFrom_10 : decode cX4_copyFrom 10 = .ok (.getfield 18, 3) := by decide +kernel
theorem dX4_copyFrom_13 : decode cX4_copyFrom 13 = .ok (.putfield 18, 3) := by decide +kernel
theorem dX4_copyFrom_16 : decode cX4_copyFrom 16 = .ok (.aload_n 0, 1) := by decide +kernel
theorem dX4_copyFrom_17 : decode cX4_copyFrom 17 = .ok (.aload_n 1, 1) := by decide +kernel
theorem dX4_copyFrom_18 : decode cX4_copyFrom 18 = .ok (.getfield 29, 3) := by decide +kernel
theorem dX4_copyFrom_21 : decode cX4_copyFrom 21 = .ok (.putfield 29, 3) := by decide +kernel
theorem dX4_copyFrom_24 : decode cX4_copyFrom 24 = .ok (.iconst 0, 1) := by decide +kernel
theorem dX4_copyFrom_25 : decode cX4_copyFrom 25 = .ok (.istore_n 2, 1) := by decide +kernel
theorem dX4_copyFrom_26 : decode cX4_copyFrom 26 = .ok (.iload_n 2, 1) := by decide +kernel
theorem dX4_copyFrom_27 : decode cX4_copyFrom 27 = .ok (.aload_n 0, 1) := by decide +kernel
theorem dX4_copyFrom_28 : decode cX4_copyFrom 28 = .ok (.getfield 26, 3) := by decide +kernel
theorem dX4_copyFrom_31 : decode cX4_copyFrom 31 = .ok (.if_icmp .ge 33, 3) := by decide +kernel
theorem dX4_copyFrom_34 : decode cX4_copyFrom 34 = .ok (.aload_n 0, 1) := by decide +kernel
theorem dX4_copyFrom_35 : decode cX4_copyFrom 35 = .ok (.getfield 9, 3) := by decide +kernel
theorem dX4_copyFrom_38 : decode cX4_copyFrom 38 = .ok (.iload_n 2, 1) := by decide +kernel
theorem dX4_copyFrom_39 : decode cX4_copyFrom 39 = .ok (.aload_n 1, 1) := by decide +kernel
theorem dX4_copyFrom_40 : decode cX4_copyFrom 40 = .ok (.getfield 9, 3) := by decide +kernel
theorem dX4_copyFrom_43 : decode cX4_copyFrom 43 = .ok (.iload_n 2, 1) := by decide +kernel
theorem dX4_copyFrom_44 : decode cX4_copyFrom 44 = .ok (.iaload, 1) := by decide +kernel
theorem dX4_copyFrom_45 : decode cX4_copyFrom 45 = .ok (.iastore, 1) := by decide +kernel
theorem dX4_copyFrom_46 : decode cX4_copyFrom 46 = .ok (.aload_n 0, 1) := by decide +kernel
theorem dX4_copyFrom_47 : decode cX4_copyFrom 47 = .ok (.getfield 15, 3) := by decide +kernel
theorem dX4_copyFrom_50 : decode cX4_copyFrom 50 = .ok (.iload_n 2, 1) := by decide +kernel
theorem dX4_copyFrom_51 : decode cX4_copyFrom 51 = .ok (.aload_n 1, 1) := by decide +kernel
theorem dX4_copyFrom_52 : decode cX4_copyFrom 52 = .ok (.getfield 15, 3) := by decide +kernel
theorem dX4_copyFrom_55 : decode cX4_copyFrom 55 = .ok (.iload_n 2, 1) := by decide +kernel
theorem dX4_copyFrom_56 : decode cX4_copyFrom 56 = .ok (.iaload, 1) := by decide +kernel
theorem dX4_copyFrom_57 : decode cX4_copyFrom 57 = .ok (.iastore, 1) := by decide +kernel
theorem dX4_copyFrom_58 : decode cX4_copyFrom 58 = .ok (.iinc 2 1, 3) := by decide +kernel
theorem dX4_copyFrom_61 : decode cX4_copyFrom 61 = .ok (.goto (-35), 3) := by decide +kernel
theorem dX4_copyFrom_64 : decode cX4_copyFrom 64 = .ok (.return_, 1) := by decide +kernel
theorem dX4_isLike_0 : decode cX4_isLike 0 = .ok (.aload_n 0, 1) := by decide +kernel
theorem dX4_isLike_1 : decode cX4_isLike 1 = .ok (.getfield 26, 3) := by decide +kernel
theorem dX4_isLike_4 : decode cX4_isLike 4 = .ok (.aload_n 1, 1) := by decide +kernel
theorem dX4_isLike_5 : decode cX4_isLike 5 = .ok (.getfield 26, 3) := by decide +kernel
theorem dX4_isLike_8 : decode cX4_isLike 8 = .ok (.if_icmp .ne 25, 3) := by decide +kernel
theorem dX4_isLike_11 : decode cX4_isLike 11 = .ok (.aload_n 0, 1) := by decide +kernel
theorem dX4_isLike_12 : decode cX4_isLike 12 = .ok (.getfield 18, 3) := by decide +kernel
theorem dX4_isLike_15 : decode cX4_isLike 15 = .ok (.aload_n 1, 1) := by decide +kernel
theorem dX4_isLike_16 : decode cX4_isLike 16 = .ok (.getfield 18, 3) := by decide +kernel
theorem dX4_isLike_19 : decode cX4_isLike 19 = .ok (.if_icmp .ne 14, 3) := by decide +kernel
theorem dX4_isLike_22 : decode cX4_isLike 22 = .ok (.aload_n 0, 1) := by decide +kernel
theorem dX4_isLike_23 : decode cX4_isLike 23 = .ok (.getfield 29, 3) := by decide +kernel
theorem dX4_isLike_26 : decode cX4_isLike 26 = .ok (.aload_n 1, 1) := by decide +kernel
theorem dX4_isLike_27 : decode cX4_isLike 27 = .ok (.getfield 29, 3) := by decide +kernel
theorem dX4_isLike_30 : decode cX4_isLike 30 = .ok (.if_icmp .eq 5, 3) := by decide +kernel
theorem dX4_isLike_33 : decode cX4_isLike 33 = .ok (.iconst 0, 1) := by decide +kernel
theorem dX4_isLike_34 : decode cX4_isLike 34 = .ok (.ireturn, 1) := by decide +kernel
theorem dX4_isLike_35 : decode cX4_isLike 35 = .ok (.iconst 0, 1) := by decide +kernel
theorem dX4_isLike_36 : decode cX4_isLike 36 = .ok (.istore_n 2, 1) := by decide +kernel
theorem dX4_isLike_37 : decode cX4_isLike 37 = .ok (.iload_n 2, 1) := by decide +kernel
theorem dX4_isLike_38 : decode cX4_isLike 38 = .ok (.aload_n 0, 1) := by decide +kernel
theorem dX4_isLike_39 : decode cX4_isLike 39 = .ok (.getfield 26, 3) := by decide +kernel
theorem dX4_isLike_42 : decode cX4_isLike 42 = .ok (.if_icmp .ge 41, 3) := by decide +kernel
theorem dX4_isLike_45 : decode cX4_isLike 45 = .ok (.aload_n 0, 1) := by decide +kernel
theorem dX4_isLike_46 : decode cX4_isLike 46 = .ok (.getfield 9, 3) := by decide +kernel
theorem dX4_isLike_49 : decode cX4_isLike 49 = .ok (.iload_n 2, 1) := by decide +kernel
theorem dX4_isLike_50 : decode cX4_isLike 50 = .ok (.iaload, 1) := by decide +kernel
theorem dX4_isLike_51 : decode cX4_isLike 51 = .ok (.aload_n 1, 1) := by decide +kernel
theorem dX4_isLike_52 : decode cX4_isLike 52 = .ok (.getfield 9, 3) := by decide +kernel
theorem dX4_isLike_55 : decode cX4_isLike 55 = .ok (.iload_n 2, 1) := by decide +kernel
theorem dX4_isLike_56 : decode cX4_isLike 56 = .ok (.iaload, 1) := by decide +kernel
theorem dX4_isLike_57 : decode cX4_isLike 57 = .ok (.if_icmp .ne 18, 3) := by decide +kernel
theorem dX4_isLike_60 : decode cX4_isLike 60 = .ok (.aload_n 0, 1) := by decide +kernel
theorem dX4_isLike_61 : decode cX4_isLike 61 = .ok (.getfield 15, 3) := by decide +kernel
theorem dX4_isLike_64 : decode cX4_isLike 64 = .ok (.iload_n 2, 1) := by decide +kernel
theorem dX4_isLike_65 : decode cX4_isLike 65 = .ok (.iaload, 1) := by decide +kernel
theorem dX4_isLike_66 : decode cX4_isLike 66 = .ok (.aload_n 1, 1) := by decide +kernel
theorem dX4_isLike_67 : decode cX4_isLike 67 = .ok (.getfield 15, 3) := by decide +kernel
theorem dX4_isLike_70 : decode cX4_isLike 70 = .ok (.iload_n 2, 1) := by decide +kernel
theorem dX4_isLike_71 : decode cX4_isLike 71 = .ok (.iaload, 1) := by decide +kernel
theorem dX4_isLike_72 : decode cX4_isLike 72 = .ok (.if_icmp .eq 5, 3) := by decide +kernel
theorem dX4_isLike_75 : decode cX4_isLike 75 = .ok (.iconst 0, 1) := by decide +kernel
theorem dX4_isLike_76 : decode cX4_isLike 76 = .ok (.ireturn, 1) := by decide +kernel
theorem dX4_isLike_77 : decode cX4_isLike 77 = .ok (.iinc 2 1, 3) := by decide +kernel
theorem dX4_isLike_80 : decode cX4_isLike 80 = .ok (.goto (-43), 3) := by decide +kernel
theorem dX4_isLike_83 : decode cX4_isLike 83 = .ok (.iconst 1, 1) := by decide +kernel
theorem dX4_isLike_84 : decode cX4_isLike 84 = .ok (.ireturn, 1) := by decide +kernel
theorem dX4_currentElement_0 : decode cX4_currentElement 0 = .ok (.aload_n 0, 1) := by decide +kernel
theorem dX4_currentElement_1 : decode cX4_currentElement 1 = .ok (.getfield 26, 3) := by decide +kernel
theorem dX4_currentElement_4 : decode cX4_currentElement 4 = .ok (.ifCond .le 17, 3) := by decide +kernel
theorem dX4_currentElement_7 : decode cX4_currentElement 7 = .ok (.aload_n 0, 1) := by decide +kernel
theorem dX4_currentElement_8 : decode cX4_currentElement 8 = .ok (.getfield 9, 3) := by decide +kernel
theorem dX4_currentElement_11 : decode cX4_currentElement 11 = .ok (.aload_n 0, 1) := by decide +kernel
theorem dX4_currentElement_12 : decode cX4_currentElement 12 = .ok (.getfield 26, 3) := by decide +kernel
theorem dX4_currentElement_15 : decode cX4_currentElement 15 = .ok (.iconst 1, 1) := by decide +kernel
theorem dX4_currentElement_16 : decode cX4_currentElement 16 = .ok (.isub, 1) := by decide +kernel
theorem dX4_currentElement_17 : decode cX4_currentElement 17 = .ok (.iaload, 1) := by decide +kernel
theorem dX4_currentElement_18 : decode cX4_currentElement 18 = .ok (.goto 4, 3) := by decide +kernel
theorem dX4_currentElement_21 : decode cX4_currentElement 21 = .ok (.iconst (-1), 1) := by decide +kernel
theorem dX4_currentElement_22 : decode cX4_currentElement 22 = .ok (.ireturn, 1) := by decide +kernel
theorem dX4_lastOpenOf_0 : decode cX4_lastOpenOf 0 = .ok (.aload_n 0, 1) := by decide +kernel
theorem dX4_lastOpenOf_1 : decode cX4_lastOpenOf 1 = .ok (.getfield 26, 3) := by decide +kernel
theorem dX4_lastOpenOf_4 : decode cX4_lastOpenOf 4 = .ok (.iconst 1, 1) := by decide +kernel
theorem dX4_lastOpenOf_5 : decode cX4_lastOpenOf 5 = .ok (.isub, 1) := by decide +kernel
theorem dX4_lastOpenOf_6 : decode cX4_lastOpenOf 6 = .ok (.istore_n 2, 1) := by decide +kernel
theorem dX4_lastOpenOf_7 : decode cX4_lastOpenOf 7 = .ok (.iload_n 2, 1) := by decide +kernel
theorem dX4_lastOpenOf_8 : decode cX4_lastOpenOf 8 = .ok (.ifCond .lt 21, 3) := by decide +kernel
theorem dX4_lastOpenOf_11 : decode cX4_lastOpenOf 11 = .ok (.aload_n 0, 1) := by decide +kernel
theorem dX4_lastOpenOf_12 : decode cX4_lastOpenOf 12 = .ok (.getfield 9, 3) := by decide +kernel
theorem dX4_lastOpenOf_15 : decode cX4_lastOpenOf 15 = .ok (.iload_n 2, 1) := by decide +kernel
theorem dX4_lastOpenOf_16 : decode cX4_lastOpenOf 16 = .ok (.iaload, 1) := by decide +kernel
theorem dX4_lastOpenOf_17 : decode cX4_lastOpenOf 17 = .ok (.iload_n 1, 1) := by decide +kernel
theorem dX4_lastOpenOf_18 : decode cX4_lastOpenOf 18 = .ok (.if_icmp .ne 5, 3) := by decide +kernel
theorem dX4_lastOpenOf_21 : decode cX4_lastOpenOf 21 = .ok (.iload_n 2, 1) := by decide +kernel
theorem dX4_lastOpenOf_22 : decode cX4_lastOpenOf 22 = .ok (.ireturn, 1) := by decide +kernel
theorem dX4_lastOpenOf_23 : decode cX4_lastOpenOf 23 = .ok (.iinc 2 (-1), 3) := by decide +kernel
theorem dX4_lastOpenOf_26 : decode cX4_lastOpenOf 26 = .ok (.goto (-19), 3) := by decide +kernel
theorem dX4_lastOpenOf_29 : decode cX4_lastOpenOf 29 = .ok (.iconst (-1), 1) := by decide +kernel
theorem dX4_lastOpenOf_30 : decode cX4_lastOpenOf 30 = .ok (.ireturn, 1) := by decide +kernel
theorem dX4_canEnd_0 : decode cX4_canEnd 0 = .ok (.aload_n 0, 1) := by decide +kernel
theorem dX4_canEnd_1 : decode cX4_canEnd 1 = .ok (.getfield 26, 3) := by decide +kernel
theorem dX4_canEnd_4 : decode cX4_canEnd 4 = .ok (.ifCond .le 44, 3) := by decide +kernel
theorem dX4_canEnd_7 : decode cX4_canEnd 7 = .ok (.aload_n 0, 1) := by decide +kernel
theorem dX4_canEnd_8 : decode cX4_canEnd 8 = .ok (.getfield 22, 3) := by decide +kernel
theorem dX4_canEnd_11 : decode cX4_canEnd 11 = .ok (.getfield 32, 3) := by decide +kernel
theorem dX4_canEnd_14 : decode cX4_canEnd 14 = .ok (.aload_n 0, 1) := by decide +kernel
theorem dX4_canEnd_15 : decode cX4_canEnd 15 = .ok (.getfield 9, 3) := by decide +kernel
theorem dX4_canEnd_18 : decode cX4_canEnd 18 = .ok (.aload_n 0, 1) := by decide +kernel
theorem dX4_canEnd_19 : decode cX4_canEnd 19 = .ok (.getfield 26, 3) := by decide +kernel
theorem dX4_canEnd_22 : decode cX4_canEnd 22 = .ok (.iconst 1, 1) := by decide +kernel
theorem dX4_canEnd_23 : decode cX4_canEnd 23 = .ok (.isub, 1) := by decide +kernel
theorem dX4_canEnd_24 : decode cX4_canEnd 24 = .ok (.iaload, 1) := by decide +kernel
theorem dX4_canEnd_25 : decode cX4_canEnd 25 = .ok (.aaload, 1) := by decide +kernel
theorem dX4_canEnd_26 : decode cX4_canEnd 26 = .ok (.getfield 38, 3) := by decide +kernel
theorem dX4_canEnd_29 : decode cX4_canEnd 29 = .ok (.aload_n 0, 1) := by decide +kernel
theorem dX4_canEnd_30 : decode cX4_canEnd 30 = .ok (.getfield 15, 3) := by decide +kernel
theorem dX4_canEnd_33 : decode cX4_canEnd 33 = .ok (.aload_n 0, 1) := by decide +kernel
theorem dX4_canEnd_34 : decode cX4_canEnd 34 = .ok (.getfield 26, 3) := by decide +kernel
theorem dX4_canEnd_37 : decode cX4_canEnd 37 = .ok (.iconst 1, 1) := by decide +kernel
theorem dX4_canEnd_38 : decode cX4_canEnd 38 = .ok (.isub, 1) := by decide +kernel
theorem dX4_canEnd_39 : decode cX4_canEnd 39 = .ok (.iaload, 1) := by decide +kernel
theorem dX4_canEnd_40 : decode cX4_canEnd 40 = .ok (.baload, 1) := by decide +kernel
theorem dX4_canEnd_41 : decode cX4_canEnd 41 = .ok (.ifCond .eq 7, 3) := by decide +kernel
theorem dX4_canEnd_44 : decode cX4_canEnd 44 = .ok (.iconst 1, 1) := by decide +kernel
theorem dX4_canEnd_45 : decode cX4_canEnd 45 = .ok (.goto 4, 3) := by decide +kernel
theorem dX4_canEnd_48 : decode cX4_canEnd 48 = .ok (.iconst 0, 1) := by decide +kernel
theorem dX4_canEnd_49 : decode cX4_canEnd 49 = .ok (.ireturn, 1) := by decide +kernel
theorem dX4_goesOnWith_0 : decode cX4_goesOnWith 0 = .ok (.aload_n 0, 1) := by decide +kernel
theorem dX4_goesOnWith_1 : decode cX4_goesOnWith 1 = .ok (.getfield 26, 3) := by decide +kernel
theorem dX4_goesOnWith_4 : decode cX4_goesOnWith 4 = .ok (.ifCond .le 40, 3) := by decide +kernel
theorem dX4_goesOnWith_7 : decode cX4_goesOnWith 7 = .ok (.aload_n 0, 1) := by decide +kernel
theorem dX4_goesOnWith_8 : decode cX4_goesOnWith 8 = .ok (.getfield 22, 3) := by decide +kernel
theorem dX4_goesOnWith_11 : decode cX4_goesOnWith 11 = .ok (.getfield 32, 3) := by decide +kernel
theorem dX4_goesOnWith_14 : decode cX4_goesOnWith 14 = .ok (.aload_n 0, 1) := by decide +kernel
theorem dX4_goesOnWith_15 : decode cX4_goesOnWith 15 = .ok (.getfield 9, 3) := by decide +kernel
theorem dX4_goesOnWith_18 : decode cX4_goesOnWith 18 = .ok (.aload_n 0, 1) := by decide +kernel
theorem dX4_goesOnWith_19 : decode cX4_goesOnWith 19 = .ok (.getfield 26, 3) := by decide +kernel
theorem dX4_goesOnWith_22 : decode cX4_goesOnWith 22 = .ok (.iconst 1, 1) := by decide +kernel
theorem dX4_goesOnWith_23 : decode cX4_goesOnWith 23 = .ok (.isub, 1) := by decide +kernel
theorem dX4_goesOnWith_24 : decode cX4_goesOnWith 24 = .ok (.iaload, 1) := by decide +kernel
theorem dX4_goesOnWith_25 : decode cX4_goesOnWith 25 = .ok (.aaload, 1) := by decide +kernel
theorem dX4_goesOnWith_26 : decode cX4_goesOnWith 26 = .ok (.getfield 44, 3) := by decide +kernel
theorem dX4_goesOnWith_29 : decode cX4_goesOnWith 29 = .ok (.aload_n 0, 1) := by decide +kernel
theorem dX4_goesOnWith_30 : decode cX4_goesOnWith 30 = .ok (.getfield 15, 3) := by decide +kernel
theorem dX4_goesOnWith_33 : decode cX4_goesOnWith 33 = .ok (.aload_n 0, 1) := by decide +kernel
theorem dX4_goesOnWith_34 : decode cX4_goesOnWith 34 = .ok (.getfield 26, 3) := by decide +kernel
theorem dX4_goesOnWith_37 : decode cX4_goesOnWith 37 = .ok (.iconst 1, 1) := by decide +kernel
theorem dX4_goesOnWith_38 : decode cX4_goesOnWith 38 = .ok (.isub, 1) := by decide +kernel
theorem dX4_goesOnWith_39 : decode cX4_goesOnWith 39 = .ok (.iaload, 1) := by decide +kernel
theorem dX4_goesOnWith_40 : decode cX4_goesOnWith 40 = .ok (.iaload, 1) := by decide +kernel
theorem dX4_goesOnWith_41 : decode cX4_goesOnWith 41 = .ok (.goto 4, 3) := by decide +kernel
theorem dX4_goesOnWith_44 : decode cX4_goesOnWith 44 = .ok (.iconst 0, 1) := by decide +kernel
theorem dX4_goesOnWith_45 : decode cX4_goesOnWith 45 = .ok (.ireturn, 1) := by decide +kernel
theorem dX4_accept_0 : decode cX4_accept 0 = .ok (.aload_n 0, 1) := by decide +kernel
theorem dX4_accept_1 : decode cX4_accept 1 = .ok (.getfield 18, 3) := by decide +kernel
theorem dX4_accept_4 : decode cX4_accept 4 = .ok (.iconst (-1), 1) := by decide +kernel
theorem dX4_accept_5 : decode cX4_accept 5 = .ok (.if_icmp .ne 13, 3) := by decide +kernel
theorem dX4_accept_8 : decode cX4_accept 8 = .ok (.iload_n 1, 1) := by decide +kernel
theorem dX4_accept_9 : decode cX4_accept 9 = .ok (.ifCond .ne 7, 3) := by decide +kernel
theorem dX4_accept_12 : decode cX4_accept 12 = .ok (.iconst 1, 1) := by decide +kernel
theorem dX4_accept_13 : decode cX4_accept 13 = .ok (.goto 4, 3) := by decide +kernel
theorem dX4_accept_16 : decode cX4_accept 16 = .ok (.iconst 0, 1) := by decide +kernel
theorem dX4_accept_17 : decode cX4_accept 17 = .ok (.ireturn, 1) := by decide +kernel
theorem dX4_accept_18 : decode cX4_accept 18 = .ok (.aload_n 0, 1) := by decide +kernel
theorem dX4_accept_19 : decode cX4_accept 19 = .ok (.getfield 26, 3) := by decide +kernel
theorem dX4_accept_22 : decode cX4_accept 22 = .ok (.ifCond .eq 11, 3) := by decide +kernel
theorem dX4_accept_25 : decode cX4_accept 25 = .ok (.aload_n 0, 1) := by decide +kernel
theorem dX4_accept_26 : decode cX4_accept 26 = .ok (.iload_n 1, 1) := by decide +kernel
theorem dX4_accept_27 : decode cX4_accept 27 = .ok (.invokevirtual 47, 3) := by decide +kernel
theorem dX4_accept_30 : decode cX4_accept 30 = .ok (.ifCond .eq 5, 3) := by decide +kernel
theorem dX4_accept_33 : decode cX4_accept 33 = .ok (.iconst 0, 1) := by decide +kernel
theorem dX4_accept_34 : decode cX4_accept 34 = .ok (.ireturn, 1) := by decide +kernel
theorem dX4_accept_35 : decode cX4_accept 35 = .ok (.aload_n 0, 1) := by decide +kernel
theorem dX4_accept_36 : decode cX4_accept 36 = .ok (.getfield 22, 3) := by decide +kernel
theorem dX4_accept_39 : decode cX4_accept 39 = .ok (.getfield 32, 3) := by decide +kernel
theorem dX4_accept_42 : decode cX4_accept 42 = .ok (.aload_n 0, 1) := by decide +kernel
theorem dX4_accept_43 : decode cX4_accept 43 = .ok (.getfield 9, 3) := by decide +kernel
theorem dX4_accept_46 : decode cX4_accept 46 = .ok (.aload_n 0, 1) := by decide +kernel
theorem dX4_accept_47 : decode cX4_accept 47 = .ok (.getfield 26, 3) := by decide +kernel
theorem dX4_accept_50 : decode cX4_accept 50 = .ok (.iconst 1, 1) := by decide +kernel
theorem dX4_accept_51 : decode cX4_accept 51 = .ok (.isub, 1) := by decide +kernel
theorem dX4_accept_52 : decode cX4_accept 52 = .ok (.iaload, 1) := by decide +kernel
theorem dX4_accept_53 : decode cX4_accept 53 = .ok (.aaload, 1) := by decide +kernel
theorem dX4_accept_54 : decode cX4_accept 54 = .ok (.aload_n 0, 1) := by decide +kernel
theorem dX4_accept_55 : decode cX4_accept 55 = .ok (.getfield 15, 3) := by decide +kernel
theorem dX4_accept_58 : decode cX4_accept 58 = .ok (.aload_n 0, 1) := by decide +kernel
theorem dX4_accept_59 : decode cX4_accept 59 = .ok (.getfield 26, 3) := by decide +kernel
theorem dX4_accept_62 : decode cX4_accept 62 = .ok (.iconst 1, 1) := by decide +kernel
theorem dX4_accept_63 : decode cX4_accept 63 = .ok (.isub, 1) := by decide +kernel
theorem dX4_accept_64 : decode cX4_accept 64 = .ok (.iaload, 1) := by decide +kernel
theorem dX4_accept_65 : decode cX4_accept 65 = .ok (.iload_n 1, 1) := by decide +kernel
theorem dX4_accept_66 : decode cX4_accept 66 = .ok (.invokevirtual 51, 3) := by decide +kernel
theorem dX4_accept_69 : decode cX4_accept 69 = .ok (.istore_n 2, 1) := by decide +kernel
theorem dX4_accept_70 : decode cX4_accept 70 = .ok (.iload_n 2, 1) := by decide +kernel
theorem dX4_accept_71 : decode cX4_accept 71 = .ok (.iconst (-1), 1) := by decide +kernel
theorem dX4_accept_72 : decode cX4_accept 72 = .ok (.if_icmp .eq 21, 3) := by decide +kernel
theorem dX4_accept_75 : decode cX4_accept 75 = .ok (.aload_n 0, 1) := by decide +kernel
theorem dX4_accept_76 : decode cX4_accept 76 = .ok (.getfield 15, 3) := by decide +kernel
theorem dX4_accept_79 : decode cX4_accept 79 = .ok (.aload_n 0, 1) := by decide +kernel
theorem dX4_accept_80 : decode cX4_accept 80 = .ok (.getfield 26, 3) := by decide +kernel
theorem dX4_accept_83 : decode cX4_accept 83 = .ok (.iconst 1, 1) := by decide +kernel
theorem dX4_accept_84 : decode cX4_accept 84 = .ok (.isub, 1) := by decide +kernel
theorem dX4_accept_85 : decode cX4_accept 85 = .ok (.iconst 2, 1) := by decide +kernel
theorem dX4_accept_86 : decode cX4_accept 86 = .ok (.iload_n 2, 1) := by decide +kernel
theorem dX4_accept_87 : decode cX4_accept 87 = .ok (.imul, 1) := by decide +kernel
theorem dX4_accept_88 : decode cX4_accept 88 = .ok (.iconst 1, 1) := by decide +kernel
theorem dX4_accept_89 : decode cX4_accept 89 = .ok (.iadd, 1) := by decide +kernel
theorem dX4_accept_90 : decode cX4_accept 90 = .ok (.iastore, 1) := by decide +kernel
theorem dX4_accept_91 : decode cX4_accept 91 = .ok (.iconst 1, 1) := by decide +kernel
theorem dX4_accept_92 : decode cX4_accept 92 = .ok (.ireturn, 1) := by decide +kernel
theorem dX4_accept_93 : decode cX4_accept 93 = .ok (.aload_n 0, 1) := by decide +kernel
theorem dX4_accept_94 : decode cX4_accept 94 = .ok (.iload_n 1, 1) := by decide +kernel
theorem dX4_accept_95 : decode cX4_accept 95 = .ok (.invokevirtual 55, 3) := by decide +kernel
theorem dX4_accept_98 : decode cX4_accept 98 = .ok (.ireturn, 1) := by decide +kernel
theorem dX4_isExcluded_0 : decode cX4_isExcluded 0 = .ok (.iconst 0, 1) := by decide +kernel
theorem dX4_isExcluded_1 : decode cX4_isExcluded 1 = .ok (.istore_n 2, 1) := by decide +kernel
theorem dX4_isExcluded_2 : decode cX4_isExcluded 2 = .ok (.iload_n 2, 1) := by decide +kernel
theorem dX4_isExcluded_3 : decode cX4_isExcluded 3 = .ok (.aload_n 0, 1) := by decide +kernel
theorem dX4_isExcluded_4 : decode cX4_isExcluded 4 = .ok (.getfield 26, 3) := by decide +kernel
theorem dX4_isExcluded_7 : decode cX4_isExcluded 7 = .ok (.if_icmp .ge 33, 3) := by decide +kernel
theorem dX4_isExcluded_10 : decode cX4_isExcluded 10 = .ok (.aload_n 0, 1) := by decide +kernel
theorem dX4_isExcluded_11 : decode cX4_isExcluded 11 = .ok (.getfield 22, 3) := by decide +kernel
theorem dX4_isExcluded_14 : decode cX4_isExcluded 14 = .ok (.getfield 58, 3) := by decide +kernel
theorem dX4_isExcluded_17 : decode cX4_isExcluded 17 = .ok (.aload_n 0, 1) := by decide +kernel
theorem dX4_isExcluded_18 : decode cX4_isExcluded 18 = .ok (.getfield 9, 3) := by decide +kernel
theorem dX4_isExcluded_21 : decode cX4_isExcluded 21 = .ok (.iload_n 2, 1) := by decide +kernel
theorem dX4_isExcluded_22 : decode cX4_isExcluded 22 = .ok (.iaload, 1) := by decide +kernel
theorem dX4_isExcluded_23 : decode cX4_isExcluded 23 = .ok (.iaload, 1) := by decide +kernel
theorem dX4_isExcluded_24 : decode cX4_isExcluded 24 = .ok (.iload_n 1, 1) := by decide +kernel
theorem dX4_isExcluded_25 : decode cX4_isExcluded 25 = .ok (.ishr, 1) := by decide +kernel
theorem dX4_isExcluded_26 : decode cX4_isExcluded 26 = .ok (.iconst 1, 1) := by decide +kernel
theorem dX4_isExcluded_27 : decode cX4_isExcluded 27 = .ok (.iand, 1) := by decide +kernel
theorem dX4_isExcluded_28 : decode cX4_isExcluded 28 = .ok (.iconst 1, 1) := by decide +kernel
theorem dX4_isExcluded_29 : decode cX4_isExcluded 29 = .ok (.if_icmp .ne 5, 3) := by decide +kernel
theorem dX4_isExcluded_32 : decode cX4_isExcluded 32 = .ok (.iconst 1, 1) := by decide +kernel
theorem dX4_isExcluded_33 : decode cX4_isExcluded 33 = .ok (.ireturn, 1) := by decide +kernel
theorem dX4_isExcluded_34 : decode cX4_isExcluded 34 = .ok (.iinc 2 1, 3) := by decide +kernel
theorem dX4_isExcluded_37 : decode cX4_isExcluded 37 = .ok (.goto (-35), 3) := by decide +kernel
theorem dX4_isExcluded_40 : decode cX4_isExcluded 40 = .ok (.iconst 0, 1) := by decide +kernel
theorem dX4_isExcluded_41 : decode cX4_isExcluded 41 = .ok (.ireturn, 1) := by decide +kernel
theorem dX4_isIncluded_0 : decode cX4_isIncluded 0 = .ok (.iconst 0, 1) := by decide +kernel
theorem dX4_isIncluded_1 : decode cX4_isIncluded 1 = .ok (.istore_n 2, 1) := by decide +kernel
theorem dX4_isIncluded_2 : decode cX4_isIncluded 2 = .ok (.iload_n 2, 1) := by decide +kernel
theorem dX4_isIncluded_3 : decode cX4_isIncluded 3 = .ok (.aload_n 0, 1) := by decide +kernel
theorem dX4_isIncluded_4 : decode cX4_isIncluded 4 = .ok (.getfield 26, 3) := by decide +kernel
theorem dX4_isIncluded_7 : decode cX4_isIncluded 7 = .ok (.if_icmp .ge 33, 3) := by decide +kernel
theorem dX4_isIncluded_10 : decode cX4_isIncluded 10 = .ok (.aload_n 0, 1) := by decide +kernel
theorem dX4_isIncluded_11 : decode cX4_isIncluded 11 = .ok (.getfield 22, 3) := by decide +kernel
theorem dX4_isIncluded_14 : decode cX4_isIncluded 14 = .ok (.getfield 61, 3) := by decide +kernel
theorem dX4_isIncluded_17 : decode cX4_isIncluded 17 = .ok (.aload_n 0, 1) := by decide +kernel
theorem dX4_isIncluded_18 : decode cX4_isIncluded 18 = .ok (.getfield 9, 3) := by decide +kernel
theorem dX4_isIncluded_21 : decode cX4_isIncluded 21 = .ok (.iload_n 2, 1) := by decide +kernel
theorem dX4_isIncluded_22 : decode cX4_isIncluded 22 = .ok (.iaload, 1) := by decide +kernel
theorem dX4_isIncluded_23 : decode cX4_isIncluded 23 = .ok (.iaload, 1) := by decide +kernel
theorem dX4_isIncluded_24 : decode cX4_isIncluded 24 = .ok (.iload_n 1, 1) := by decide +kernel
theorem dX4_isIncluded_25 : decode cX4_isIncluded 25 = .ok (.ishr, 1) := by decide +kernel
theorem dX4_isIncluded_26 : decode cX4_isIncluded 26 = .ok (.iconst 1, 1) := by decide +kernel
theorem dX4_isIncluded_27 : decode cX4_isIncluded 27 = .ok (.iand, 1) := by decide +kernel
theorem dX4_isIncluded_28 : decode cX4_isIncluded 28 = .ok (.iconst 1, 1) := by decide +kernel
theorem dX4_isIncluded_29 : decode cX4_isIncluded 29 = .ok (.if_icmp .ne 5, 3) := by decide +kernel
theorem dX4_isIncluded_32 : decode cX4_isIncluded 32 = .ok (.iconst 1, 1) := by decide +kernel
theorem dX4_isIncluded_33 : decode cX4_isIncluded 33 = .ok (.ireturn, 1) := by decide +kernel
theorem dX4_isIncluded_34 : decode cX4_isIncluded 34 = .ok (.iinc 2 1, 3) := by decide +kernel
theorem dX4_isIncluded_37 : decode cX4_isIncluded 37 = .ok (.goto (-35), 3) := by decide +kernel
theorem dX4_isIncluded_40 : decode cX4_isIncluded 40 = .ok (.iconst 0, 1) := by decide +kernel
theorem dX4_isIncluded_41 : decode cX4_isIncluded 41 = .ok (.ireturn, 1) := by decide +kernel
theorem dX4_elementToPutIn_0 : decode cX4_elementToPutIn 0 = .ok (.aload_n 0, 1) := by decide +kernel
theorem dX4_elementToPutIn_1 : decode cX4_elementToPutIn 1 = .ok (.invokevirtual 64, 3) := by decide +kernel
theorem dX4_elementToPutIn_4 : decode cX4_elementToPutIn 4 = .ok (.istore_n 1, 1) := by decide +kernel
theorem dX4_elementToPutIn_5 : decode cX4_elementToPutIn 5 = .ok (.iload_n 1, 1) := by decide +kernel
theorem dX4_elementToPutIn_6 : decode cX4_elementToPutIn 6 = .ok (.invokestatic 68, 3) := by decide +kernel
theorem dX4_elementToPutIn_9 : decode cX4_elementToPutIn 9 = .ok (.iconst 1, 1) := by decide +kernel
theorem dX4_elementToPutIn_10 : decode cX4_elementToPutIn 10 = .ok (.if_icmp .ne 19, 3) := by decide +kernel
theorem dX4_elementToPutIn_13 : decode cX4_elementToPutIn 13 = .ok (.aload_n 0, 1) := by decide +kernel
theorem dX4_elementToPutIn_14 : decode cX4_elementToPutIn 14 = .ok (.invokevirtual 74, 3) := by decide +kernel
theorem dX4_elementToPutIn_17 : decode cX4_elementToPutIn 17 = .ok (.ifCond .ne 12, 3) := by decide +kernel
theorem dX4_elementToPutIn_20 : decode cX4_elementToPutIn 20 = .ok (.aload_n 0, 1) := by decide +kernel
theorem dX4_elementToPutIn_21 : decode cX4_elementToPutIn 21 = .ok (.getfield 26, 3) := by decide +kernel
theorem dX4_elementToPutIn_24 : decode cX4_elementToPutIn 24 = .ok (.bipush 20, 2) := by decide +kernel
theorem dX4_elementToPutIn_26 : decode cX4_elementToPutIn 26 = .ok (.if_icmp .lt 5, 3) := by decide +kernel
theorem dX4_elementToPutIn_29 : decode cX4_elementToPutIn 29 = .ok (.iconst (-1), 1) := by decide +kernel
theorem dX4_elementToPutIn_30 : decode cX4_elementToPutIn 30 = .ok (.ireturn, 1) := by decide +kernel
theorem dX4_elementToPutIn_31 : decode cX4_elementToPutIn 31 = .ok (.iload_n 1, 1) := by decide +kernel
theorem dX4_elementToPutIn_32 : decode cX4_elementToPutIn 32 = .ok (.invokestatic 78, 3) := by decide +kernel
theorem dX4_elementToPutIn_35 : decode cX4_elementToPutIn 35 = .ok (.istore_n 2, 1) := by decide +kernel
theorem dX4_elementToPutIn_36 : decode cX4_elementToPutIn 36 = .ok (.iload_n 2, 1) := by decide +kernel
theorem dX4_elementToPutIn_37 : decode cX4_elementToPutIn 37 = .ok (.bipush 10, 2) := by decide +kernel
theorem dX4_elementToPutIn_39 : decode cX4_elementToPutIn 39 = .ok (.if_icmp .ge 30, 3) := by decide +kernel
theorem dX4_elementToPutIn_42 : decode cX4_elementToPutIn 42 = .ok (.aload_n 0, 1) := by decide +kernel
theorem dX4_elementToPutIn_43 : decode cX4_elementToPutIn 43 = .ok (.getfield 22, 3) := by decide +kernel
theorem dX4_elementToPutIn_46 : decode cX4_elementToPutIn 46 = .ok (.getfield 81, 3) := by decide +kernel
theorem dX4_elementToPutIn_49 : decode cX4_elementToPutIn 49 = .ok (.iload_n 2, 1) := by decide +kernel
theorem dX4_elementToPutIn_50 : decode cX4_elementToPutIn 50 = .ok (.baload, 1) := by decide +kernel
theorem dX4_elementToPutIn_51 : decode cX4_elementToPutIn 51 = .ok (.ifCond .eq 18, 3) := by decide +kernel
theorem dX4_elementToPutIn_54 : decode cX4_elementToPutIn 54 = .ok (.aload_n 0, 1) := by decide +kernel
theorem dX4_elementToPutIn_55 : decode cX4_elementToPutIn 55 = .ok (.getfield 22, 3) := by decide +kernel
theorem dX4_elementToPutIn_58 : decode cX4_elementToPutIn 58 = .ok (.getfield 32, 3) := by decide +kernel
theorem dX4_elementToPutIn_61 : decode cX4_elementToPutIn 61 = .ok (.iload_n 2, 1) := by decide +kernel
theorem dX4_elementToPutIn_62 : decode cX4_elementToPutIn 62 = .ok (.aaload, 1) := by decide +kernel
theorem dX4_elementToPutIn_63 : decode cX4_elementToPutIn 63 = .ok (.getfield 84, 3) := by decide +kernel
theorem dX4_elementToPutIn_66 : decode cX4_elementToPutIn 66 = .ok (.ifCond .ne 5, 3) := by decide +kernel
theorem dX4_elementToPutIn_69 : decode cX4_elementToPutIn 69 = .ok (.iconst (-1), 1) := by decide +kernel
theorem dX4_elementToPutIn_70 : decode cX4_elementToPutIn 70 = .ok (.ireturn, 1) := by decide +kernel
theorem dX4_elementToPutIn_71 : decode cX4_elementToPutIn 71 = .ok (.aload_n 0, 1) := by decide +kernel
theorem dX4_elementToPutIn_72 : decode cX4_elementToPutIn 72 = .ok (.iload_n 2, 1) := by decide +kernel
theorem dX4_elementToPutIn_73 : decode cX4_elementToPutIn 73 = .ok (.invokevirtual 47, 3) := by decide +kernel
theorem dX4_elementToPutIn_76 : decode cX4_elementToPutIn 76 = .ok (.ifCond .eq 7, 3) := by decide +kernel
theorem dX4_elementToPutIn_79 : decode cX4_elementToPutIn 79 = .ok (.iconst (-1), 1) := by decide +kernel
theorem dX4_elementToPutIn_80 : decode cX4_elementToPutIn 80 = .ok (.goto 4, 3) := by decide +kernel
theorem dX4_elementToPutIn_83 : decode cX4_elementToPutIn 83 = .ok (.iload_n 2, 1) := by decide +kernel
theorem dX4_elementToPutIn_84 : decode cX4_elementToPutIn 84 = .ok (.ireturn, 1) := by decide +kernel
theorem dX4_mayCloseUnasked_0 : decode cX4_mayCloseUnasked 0 = .ok (.aload_n 0, 1) := by decide +kernel
theorem dX4_mayCloseUnasked_1 : decode cX4_mayCloseUnasked 1 = .ok (.getfield 26, 3) := by decide +kernel
theorem dX4_mayCloseUnasked_4 : decode cX4_mayCloseUnasked 4 = .ok (.iconst 1, 1) := by decide +kernel
theorem dX4_mayCloseUnasked_5 : decode cX4_mayCloseUnasked 5 = .ok (.if_icmp .le 36, 3) := by decide +kernel
theorem dX4_mayCloseUnasked_8 : decode cX4_mayCloseUnasked 8 = .ok (.aload_n 0, 1) := by decide +kernel
theorem dX4_mayCloseUnasked_9 : decode cX4_mayCloseUnasked 9 = .ok (.getfield 22, 3) := by decide +kernel
theorem dX4_mayCloseUnasked_12 : decode cX4_mayCloseUnasked 12 = .ok (.getfield 87, 3) := by decide +kernel
theorem dX4_mayCloseUnasked_15 : decode cX4_mayCloseUnasked 15 = .ok (.aload_n 0, 1) := by decide +kernel
theorem dX4_mayCloseUnasked_16 : decode cX4_mayCloseUnasked 16 = .ok (.getfield 9, 3) := by decide +kernel
theorem dX4_mayCloseUnasked_19 : decode cX4_mayCloseUnasked 19 = .ok (.aload_n 0, 1) := by decide +kernel
theorem dX4_mayCloseUnasked_20 : decode cX4_mayCloseUnasked 20 = .ok (.getfield 26, 3) := by decide +kernel
theorem dX4_mayCloseUnasked_23 : decode cX4_mayCloseUnasked 23 = .ok (.iconst 1, 1) := by decide +kernel
theorem dX4_mayCloseUnasked_24 : decode cX4_mayCloseUnasked 24 = .ok (.isub, 1) := by decide +kernel
theorem dX4_mayCloseUnasked_25 : decode cX4_mayCloseUnasked 25 = .ok (.iaload, 1) := by decide +kernel
theorem dX4_mayCloseUnasked_26 : decode cX4_mayCloseUnasked 26 = .ok (.baload, 1) := by decide +kernel
theorem dX4_mayCloseUnasked_27 : decode cX4_mayCloseUnasked 27 = .ok (.ifCond .eq 14, 3) := by decide +kernel
theorem dX4_mayCloseUnasked_30 : decode cX4_mayCloseUnasked 30 = .ok (.aload_n 0, 1) := by decide +kernel
theorem dX4_mayCloseUnasked_31 : decode cX4_mayCloseUnasked 31 = .ok (.invokevirtual 74, 3) := by decide +kernel
theorem dX4_mayCloseUnasked_34 : decode cX4_mayCloseUnasked 34 = .ok (.ifCond .eq 7, 3) := by decide +kernel
theorem dX4_mayCloseUnasked_37 : decode cX4_mayCloseUnasked 37 = .ok (.iconst 1, 1) := by decide +kernel
theorem dX4_mayCloseUnasked_38 : decode cX4_mayCloseUnasked 38 = .ok (.goto 4, 3) := by decide +kernel
theorem dX4_mayCloseUnasked_41 : decode cX4_mayCloseUnasked 41 = .ok (.iconst 0, 1) := by decide +kernel
theorem dX4_mayCloseUnasked_42 : decode cX4_mayCloseUnasked 42 = .ok (.ireturn, 1) := by decide +kernel
theorem dX4_enter_0 : decode cX4_enter 0 = .ok (.aload_n 0, 1) := by decide +kernel
theorem dX4_enter_1 : decode cX4_enter 1 = .ok (.iload_n 1, 1) := by decide +kernel
theorem dX4_enter_2 : decode cX4_enter 2 = .ok (.putfield 18, 3) := by decide +kernel
theorem dX4_enter_5 : decode cX4_enter 5 = .ok (.aload_n 0, 1) := by decide +kernel
theorem dX4_enter_6 : decode cX4_enter 6 = .ok (.getfield 22, 3) := by decide +kernel
theorem dX4_enter_9 : decode cX4_enter 9 = .ok (.getfield 32, 3) := by decide +kernel
theorem dX4_enter_12 : decode cX4_enter 12 = .ok (.iload_n 1, 1) := by decide +kernel
theorem dX4_enter_13 : decode cX4_enter 13 = .ok (.aaload, 1) := by decide +kernel
theorem dX4_enter_14 : decode cX4_enter 14 = .ok (.getfield 84, 3) := by decide +kernel
theorem dX4_enter_17 : decode cX4_enter 17 = .ok (.ifCond .le 42, 3) := by decide +kernel
theorem dX4_enter_20 : decode cX4_enter 20 = .ok (.aload_n 0, 1) := by decide +kernel
theorem dX4_enter_21 : decode cX4_enter 21 = .ok (.getfield 26, 3) := by decide +kernel
theorem dX4_enter_24 : decode cX4_enter 24 = .ok (.bipush 20, 2) := by decide +kernel
theorem dX4_enter_26 : decode cX4_enter 26 = .ok (.if_icmp .ge 33, 3) := by decide +kernel
theorem dX4_enter_29 : decode cX4_enter 29 = .ok (.aload_n 0, 1) := by decide +kernel
theorem dX4_enter_30 : decode cX4_enter 30 = .ok (.getfield 9, 3) := by decide +kernel
theorem dX4_enter_33 : decode cX4_enter 33 = .ok (.aload_n 0, 1) := by decide +kernel
theorem dX4_enter_34 : decode cX4_enter 34 = .ok (.getfield 26, 3) := by decide +kernel
theorem dX4_enter_37 : decode cX4_enter 37 = .ok (.iload_n 1, 1) := by decide +kernel
theorem dX4_enter_38 : decode cX4_enter 38 = .ok (.iastore, 1) := by decide +kernel
theorem dX4_enter_39 : decode cX4_enter 39 = .ok (.aload_n 0, 1) := by decide +kernel
theorem dX4_enter_40 : decode cX4_enter 40 = .ok (.getfield 15, 3) := by decide +kernel
theorem dX4_enter_43 : decode cX4_enter 43 = .ok (.aload_n 0, 1) := by decide +kernel
theorem dX4_enter_44 : decode cX4_enter 44 = .ok (.getfield 26, 3) := by decide +kernel
theorem dX4_enter_47 : decode cX4_enter 47 = .ok (.iconst 0, 1) := by decide +kernel
theorem dX4_enter_48 : decode cX4_enter 48 = .ok (.iastore, 1) := by decide +kernel
theorem dX4_enter_49 : decode cX4_enter 49 = .ok (.aload_n 0, 1) := by decide +kernel
theorem dX4_enter_50 : decode cX4_enter 50 = .ok (.dup, 1) := by decide +kernel
theorem dX4_enter_51 : decode cX4_enter 51 = .ok (.getfield 26, 3) := by decide +kernel
theorem dX4_enter_54 : decode cX4_enter 54 = .ok (.iconst 1, 1) := by decide +kernel
theorem dX4_enter_55 : decode cX4_enter 55 = .ok (.iadd, 1) := by decide +kernel
theorem dX4_enter_56 : decode cX4_enter 56 = .ok (.putfield 26, 3) := by decide +kernel
theorem dX4_enter_59 : decode cX4_enter 59 = .ok (.return_, 1) := by decide +kernel
theorem dX4_leave_0 : decode cX4_leave 0 = .ok (.aload_n 0, 1) := by decide +kernel
theorem dX4_leave_1 : decode cX4_leave 1 = .ok (.getfield 26, 3) := by decide +kernel
theorem dX4_leave_4 : decode cX4_leave 4 = .ok (.ifCond .le 13, 3) := by decide +kernel
theorem dX4_leave_7 : decode cX4_leave 7 = .ok (.aload_n 0, 1) := by decide +kernel
theorem dX4_leave_8 : decode cX4_leave 8 = .ok (.dup, 1) := by decide +kernel
theorem dX4_leave_9 : decode cX4_leave 9 = .ok (.getfield 26, 3) := by decide +kernel
theorem dX4_leave_12 : decode cX4_leave 12 = .ok (.iconst 1, 1) := by decide +kernel
theorem dX4_leave_13 : decode cX4_leave 13 = .ok (.isub, 1) := by decide +kernel
theorem dX4_leave_14 : decode cX4_leave 14 = .ok (.putfield 26, 3) := by decide +kernel
theorem dX4_leave_17 : decode cX4_leave 17 = .ok (.return_, 1) := by decide +kernel
theorem dX4_readAsWritten_0 : decode cX4_readAsWritten 0 = .ok (.iload_n 1, 1) := by decide +kernel
theorem dX4_readAsWritten_1 : decode cX4_readAsWritten 1 = .ok (.iconst 1, 1) := by decide +kernel
theorem dX4_readAsWritten_2 : decode cX4_readAsWritten 2 = .ok (.if_icmp .ne 26, 3) := by decide +kernel
theorem dX4_readAsWritten_5 : decode cX4_readAsWritten 5 = .ok (.aload_n 0, 1) := by decide +kernel
theorem dX4_readAsWritten_6 : decode cX4_readAsWritten 6 = .ok (.invokevirtual 90, 3) := by decide +kernel
theorem dX4_readAsWritten_9 : decode cX4_readAsWritten 9 = .ok (.iload_n 2, 1) := by decide +kernel
theorem dX4_readAsWritten_10 : decode cX4_readAsWritten 10 = .ok (.if_icmp .ne 10, 3) := by decide +kernel
theorem dX4_readAsWritten_13 : decode cX4_readAsWritten 13 = .ok (.aload_n 0, 1) := by decide +kernel
theorem dX4_readAsWritten_14 : decode cX4_readAsWritten 14 = .ok (.invokevirtual 74, 3) := by decide +kernel
theorem dX4_readAsWritten_17 : decode cX4_readAsWritten 17 = .ok (.ifCond .ne 5, 3) := by decide +kernel
theorem dX4_readAsWritten_20 : decode cX4_readAsWritten 20 = .ok (.iconst 0, 1) := by decide +kernel
theorem dX4_readAsWritten_21 : decode cX4_readAsWritten 21 = .ok (.ireturn, 1) := by decide +kernel
theorem dX4_readAsWritten_22 : decode cX4_readAsWritten 22 = .ok (.aload_n 0, 1) := by decide +kernel
theorem dX4_readAsWritten_23 : decode cX4_readAsWritten 23 = .ok (.invokevirtual 93, 3) := by decide +kernel
theorem dX4_readAsWritten_26 : decode cX4_readAsWritten 26 = .ok (.iconst 1, 1) := by decide +kernel
theorem dX4_readAsWritten_27 : decode cX4_readAsWritten 27 = .ok (.ireturn, 1) := by decide +kernel
theorem dX4_readAsWritten_28 : decode cX4_readAsWritten 28 = .ok (.iload_n 1, 1) := by decide +kernel
theorem dX4_readAsWritten_29 : decode cX4_readAsWritten 29 = .ok (.iconst 4, 1) := by decide +kernel
theorem dX4_readAsWritten_30 : decode cX4_readAsWritten 30 = .ok (.if_icmp .ne 10, 3) := by decide +kernel
theorem dX4_readAsWritten_33 : decode cX4_readAsWritten 33 = .ok (.aload_n 0, 1) := by decide +kernel
theorem dX4_readAsWritten_34 : decode cX4_readAsWritten 34 = .ok (.bipush 10, 2) := by decide +kernel
theorem dX4_readAsWritten_36 : decode cX4_readAsWritten 36 = .ok (.invokevirtual 96, 3) := by decide +kernel
theorem dX4_readAsWritten_39 : decode cX4_readAsWritten 39 = .ok (.ireturn, 1) := by decide +kernel
theorem dX4_readAsWritten_40 : decode cX4_readAsWritten 40 = .ok (.aload_n 0, 1) := by decide +kernel
theorem dX4_readAsWritten_41 : decode cX4_readAsWritten 41 = .ok (.getfield 26, 3) := by decide +kernel
theorem dX4_readAsWritten_44 : decode cX4_readAsWritten 44 = .ok (.bipush 20, 2) := by decide +kernel
theorem dX4_readAsWritten_46 : decode cX4_readAsWritten 46 = .ok (.if_icmp .ge 11, 3) := by decide +kernel
theorem dX4_readAsWritten_49 : decode cX4_readAsWritten 49 = .ok (.aload_n 0, 1) := by decide +kernel
theorem dX4_readAsWritten_50 : decode cX4_readAsWritten 50 = .ok (.iload_n 2, 1) := by decide +kernel
theorem dX4_readAsWritten_51 : decode cX4_readAsWritten 51 = .ok (.invokevirtual 96, 3) := by decide +kernel
theorem dX4_readAsWritten_54 : decode cX4_readAsWritten 54 = .ok (.ifCond .ne 5, 3) := by decide +kernel
theorem dX4_readAsWritten_57 : decode cX4_readAsWritten 57 = .ok (.iconst 0, 1) := by decide +kernel
theorem dX4_readAsWritten_58 : decode cX4_readAsWritten 58 = .ok (.ireturn, 1) := by decide +kernel
theorem dX4_readAsWritten_59 : decode cX4_readAsWritten 59 = .ok (.aload_n 0, 1) := by decide +kernel
theorem dX4_readAsWritten_60 : decode cX4_readAsWritten 60 = .ok (.iload_n 2, 1) := by decide +kernel
theorem dX4_readAsWritten_61 : decode cX4_readAsWritten 61 = .ok (.invokevirtual 99, 3) := by decide +kernel
theorem dX4_readAsWritten_64 : decode cX4_readAsWritten 64 = .ok (.iconst 1, 1) := by decide +kernel
theorem dX4_readAsWritten_65 : decode cX4_readAsWritten 65 = .ok (.ireturn, 1) := by decide +kernel
theorem dX5_init_0 : decode cX5_init 0 = .ok (.aload_n 0, 1) := by decide +kernel
theorem dX5_init_1 : decode cX5_init 1 = .ok (.invokespecial 3, 3) := by decide +kernel
theorem dX5_init_4 : decode cX5_init 4 = .ok (.aload_n 0, 1) := by decide +kernel
theorem dX5_init_5 : decode cX5_init 5 = .ok (.sipush 300, 3) := by decide +kernel
theorem dX5_init_8 : decode cX5_init 8 = .ok (.newarray .int, 2) := by decide +kernel
theorem dX5_init_10 : decode cX5_init 10 = .ok (.putfield 9, 3) := by decide +kernel
theorem dX5_init_13 : decode cX5_init 13 = .ok (.aload_n 0, 1) := by decide +kernel
theorem dX5_init_14 : decode cX5_init 14 = .ok (.sipush 300, 3) := by decide +kernel
theorem dX5_init_17 : decode cX5_init 17 = .ok (.newarray .int, 2) := by decide +kernel
theorem dX5_init_19 : decode cX5_init 19 = .ok (.putfield 15, 3) := by decide +kernel
theorem dX5_init_22 : decode cX5_init 22 = .ok (.aload_n 0, 1) := by decide +kernel
theorem dX5_init_23 : decode cX5_init 23 = .ok (.sipush 300, 3) := by decide +kernel
theorem dX5_init_26 : decode cX5_init 26 = .ok (.newarray .char, 2) := by decide +kernel
theorem dX5_init_28 : decode cX5_init 28 = .ok (.putfield 18, 3) := by decide +kernel
theorem dX5_init_31 : decode cX5_init 31 = .ok (.aload_n 0, 1) := by decide +kernel
theorem dX5_init_32 : decode cX5_init 32 = .ok (.sipush 300, 3) := by decide +kernel
theorem dX5_init_35 : decode cX5_init 35 = .ok (.newarray .int, 2) := by decide +kernel
theorem dX5_init_37 : decode cX5_init 37 = .ok (.putfield 22, 3) := by decide +kernel
theorem dX5_init_40 : decode cX5_init 40 = .ok (.aload_n 0, 1) := by decide +kernel
theorem dX5_init_41 : decode cX5_init 41 = .ok (.sipush 300, 3) := by decide +kernel
theorem dX5_init_44 : decode cX5_init 44 = .ok (.newarray .boolean, 2) := by decide +kernel
theorem dX5_init_46 : decode cX5_init 46 = .ok (.putfield 25, 3) := by decide +kernel
theorem dX5_init_49 : decode cX5_init 49 = .ok (.return_, 1) := by decide +kernel
theorem dX5_addThing_0 : decode cX5_addThing 0 = .ok (.aload_n 0, 1) := by decide +kernel
theorem dX5_addThing_1 : decode cX5_addThing 1 = .ok (.getfield 29, 3) := by decide +kernel
theorem dX5_addThing_4 : decode cX5_addThing 4 = .ok (.sipush 300, 3) := by decide +kernel
theorem dX5_addThing_7 : decode cX5_addThing 7 = .ok (.if_icmp .ge 65, 3) := by decide +kernel
theorem dX5_addThing_10 : decode cX5_addThing 10 = .ok (.aload_n 0, 1) := by decide +kernel
theorem dX5_addThing_11 : decode cX5_addThing 11 = .ok (.getfield 9, 3) := by decide +kernel
theorem dX5_addThing_14 : decode cX5_addThing 14 = .ok (.aload_n 0, 1) := by decide +kernel
theorem dX5_addThing_15 : decode cX5_addThing 15 = .ok (.getfield 29, 3) := by decide +kernel
theorem dX5_addThing_18 : decode cX5_addThing 18 = .ok (.iload_n 1, 1) := by decide +kernel
theorem dX5_addThing_19 : decode cX5_addThing 19 = .ok (.iastore, 1) := by decide +kernel
theorem dX5_addThing_20 : decode cX5_addThing 20 = .ok (.aload_n 0, 1) := by decide +kernel
theorem dX5_addThing_21 : decode cX5_addThing 21 = .ok (.getfield 15, 3) := by decide +kernel
theorem dX5_addThing_24 : decode cX5_addThing 24 = .ok (.aload_n 0, 1) := by decide +kernel
theorem dX5_addThing_25 : decode cX5_addThing 25 = .ok (.getfield 29, 3) := by decide +kernel
theorem dX5_addThing_28 : decode cX5_addThing 28 = .ok (.iload_n 2, 1) := by decide +kernel
theorem dX5_addThing_29 : decode cX5_addThing 29 = .ok (.iastore, 1) := by decide +kernel
theorem dX5_addThing_30 : decode cX5_addThing 30 = .ok (.aload_n 0, 1) := by decide +kernel
theorem dX5_addThing_31 : decode cX5_addThing 31 = .ok (.getfield 18, 3) := by decide +kernel
theorem dX5_addThing_34 : decode cX5_addThing 34 = .ok (.aload_n 0, 1) := by decide +kernel
theorem dX5_addThing_35 : decode cX5_addThing 35 = .ok (.getfield 29, 3) := by decide +kernel
theorem dX5_addThing_38 : decode cX5_addThing 38 = .ok (.iload_n 3, 1) := by decide +kernel
theorem dX5_addThing_39 : decode cX5_addThing 39 = .ok (.castore, 1) := by decide +kernel
theorem dX5_addThing_40 : decode cX5_addThing 40 = .ok (.aload_n 0, 1) := by decide +kernel
theorem dX5_addThing_41 : decode cX5_addThing 41 = .ok (.getfield 22, 3) := by decide +kernel
theorem dX5_addThing_44 : decode cX5_addThing 44 = .ok (.aload_n 0, 1) := by decide +kernel
theorem dX5_addThing_45 : decode cX5_addThing 45 = .ok (.getfield 29, 3) := by decide +kernel
theorem dX5_addThing_48 : decode cX5_addThing 48 = .ok (.iload 4, 2) := by decide +kernel
theorem dX5_addThing_50 : decode cX5_addThing 50 = .ok (.iastore, 1) := by decide +kernel
theorem dX5_addThing_51 : decode cX5_addThing 51 = .ok (.aload_n 0, 1) := by decide +kernel
theorem dX5_addThing_52 : decode cX5_addThing 52 = .ok (.getfield 25, 3) := by decide +kernel
theorem dX5_addThing_55 : decode cX5_addThing 55 = .ok (.aload_n 0, 1) := by decide +kernel
theorem dX5_addThing_56 : decode cX5_addThing 56 = .ok (.getfield 29, 3) := by decide +kernel
theorem dX5_addThing_59 : decode cX5_addThing 59 = .ok (.iload 5, 2) := by decide +kernel
theorem dX5_addThing_61 : decode cX5_addThing 61 = .ok (.bastore, 1) := by decide +kernel
theorem dX5_addThing_62 : decode cX5_addThing 62 = .ok (.aload_n 0, 1) := by decide +kernel
theorem dX5_addThing_63 : decode cX5_addThing 63 = .ok (.dup, 1) := by decide +kernel
theorem dX5_addThing_64 : decode cX5_addThing 64 = .ok (.getfield 29, 3) := by decide +kernel
theorem dX5_addThing_67 : decode cX5_addThing 67 = .ok (.iconst 1, 1) := by decide +kernel
theorem dX5_addThing_68 : decode cX5_addThing 68 = .ok (.iadd, 1) := by decide +kernel
theorem dX5_addThing_69 : decode cX5_addThing 69 = .ok (.putfield 29, 3) := by decide +kernel
theorem dX5_addThing_72 : decode cX5_addThing 72 = .ok (.return_, 1) := by decide +kernel
theorem dX6_init_0 : decode cX6_init 0 = .ok (.aload_n 0, 1) := by decide +kernel
theorem dX6_init_1 : decode cX6_init 1 = .ok (.invokespecial 3, 3) := by decide +kernel
theorem dX6_init_4 : decode cX6_init 4 = .ok (.aload_n 0, 1) := by decide +kernel
theorem dX6_init_5 : decode cX6_init 5 = .ok (.bipush 9, 2) := by decide +kernel
theorem dX6_init_7 : decode cX6_init 7 = .ok (.anewarray 9, 3) := by decide +kernel
theorem dX6_init_10 : decode cX6_init 10 = .ok (.putfield 11, 3) := by decide +kernel
theorem dX6_init_13 : decode cX6_init 13 = .ok (.aload_n 0, 1) := by decide +kernel
theorem dX6_init_14 : decode cX6_init 14 = .ok (.aload_n 1, 1) := by decide +kernel
theorem dX6_init_15 : decode cX6_init 15 = .ok (.putfield 17, 3) := by decide +kernel
theorem dX6_init_18 : decode cX6_init 18 = .ok (.aload_n 0, 1) := by decide +kernel
theorem dX6_init_19 : decode cX6_init 19 = .ok (.aload_n 2, 1) := by decide +kernel
theorem dX6_init_20 : decode cX6_init 20 = .ok (.putfield 21, 3) := by decide +kernel
theorem dX6_init_23 : decode cX6_init 23 = .ok (.iconst 0, 1) := by decide +kernel
theorem dX6_init_24 : decode cX6_init 24 = .ok (.istore_n 3, 1) := by decide +kernel
theorem dX6_init_25 : decode cX6_init 25 = .ok (.iload_n 3, 1) := by decide +kernel
theorem dX6_init_26 : decode cX6_init 26 = .ok (.aload_n 0, 1) := by decide +kernel
theorem dX6_init_27 : decode cX6_init 27 = .ok (.getfield 11, 3) := by decide +kernel
theorem dX6_init_30 : decode cX6_init 30 = .ok (.arraylength, 1) := by decide +kernel
theorem dX6_init_31 : decode cX6_init 31 = .ok (.if_icmp .ge 23, 3) := by decide +kernel
theorem dX6_init_34 : decode cX6_init 34 = .ok (.aload_n 0, 1) := by decide +kernel
theorem dX6_init_35 : decode cX6_init 35 = .ok (.getfield 11, 3) := by decide +kernel
theorem dX6_init_38 : decode cX6_init 38 = .ok (.iload_n 3, 1) := by decide +kernel
theorem dX6_init_39 : decode cX6_init 39 = .ok (.new 9, 3) := by decide +kernel
theorem dX6_init_42 : decode cX6_init 42 = .ok (.dup, 1) := by decide +kernel
theorem dX6_init_43 : decode cX6_init 43 = .ok (.aload_n 1, 1) := by decide +kernel
theorem dX6_init_44 : decode cX6_init 44 = .ok (.invokespecial 25, 3) := by decide +kernel
theorem dX6_init_47 : decode cX6_init 47 = .ok (.aastore, 1) := by decide +kernel
theorem dX6_init_48 : decode cX6_init 48 = .ok (.iinc 3 1, 3) := by decide +kernel
theorem dX6_init_51 : decode cX6_init 51 = .ok (.goto (-26), 3) := by decide +kernel
theorem dX6_init_54 : decode cX6_init 54 = .ok (.return_, 1) := by decide +kernel
theorem dX7_init_0 : decode cX7_init 0 = .ok (.aload_n 0, 1) := by decide +kernel
theorem dX7_init_1 : decode cX7_init 1 = .ok (.invokespecial 3, 3) := by decide +kernel
theorem dX7_init_4 : decode cX7_init 4 = .ok (.aload_n 0, 1) := by decide +kernel
theorem dX7_init_5 : decode cX7_init 5 = .ok (.new 9, 3) := by decide +kernel
theorem dX7_init_8 : decode cX7_init 8 = .ok (.dup, 1) := by decide +kernel
theorem dX7_init_9 : decode cX7_init 9 = .ok (.invokespecial 11, 3) := by decide +kernel
theorem dX7_init_12 : decode cX7_init 12 = .ok (.putfield 12, 3) := by decide +kernel
theorem dX7_init_15 : decode cX7_init 15 = .ok (.aload_n 0, 1) := by decide +kernel
theorem dX7_init_16 : decode cX7_init 16 = .ok (.new 16, 3) := by decide +kernel
theorem dX7_init_19 : decode cX7_init 19 = .ok (.dup, 1) := by decide +kernel
theorem dX7_init_20 : decode cX7_init 20 = .ok (.bipush 60, 2) := by decide +kernel
theorem dX7_init_22 : decode cX7_init 22 = .ok (.invokespecial 18, 3) := by decide +kernel
theorem dX7_init_25 : decode cX7_init 25 = .ok (.putfield 21, 3) := by decide +kernel
theorem dX7_init_28 : decode cX7_init 28 = .ok (.aload_n 0, 1) := by decide +kernel
theorem dX7_init_29 : decode cX7_init 29 = .ok (.bipush 6, 2) := by decide +kernel
theorem dX7_init_31 : decode cX7_init 31 = .ok (.anewarray 16, 3) := by decide +kernel
theorem dX7_init_34 : decode cX7_init 34 = .ok (.putfield 25, 3) := by decide +kernel
theorem dX7_init_37 : decode cX7_init 37 = .ok (.aload_n 0, 1) := by decide +kernel
theorem dX7_init_38 : decode cX7_init 38 = .ok (.iconst 4, 1) := by decide +kernel
theorem dX7_init_39 : decode cX7_init 39 = .ok (.newarray .int, 2) := by decide +kernel
theorem dX7_init_41 : decode cX7_init 41 = .ok (.putfield 29, 3) := by decide +kernel
theorem dX7_init_44 : decode cX7_init 44 = .ok (.iconst 0, 1) := by decide +kernel
theorem dX7_init_45 : decode cX7_init 45 = .ok (.istore_n 1, 1) := by decide +kernel
theorem dX7_init_46 : decode cX7_init 46 = .ok (.iload_n 1, 1) := by decide +kernel
theorem dX7_init_47 : decode cX7_init 47 = .ok (.bipush 6, 2) := by decide +kernel
theorem dX7_init_49 : decode cX7_init 49 = .ok (.if_icmp .ge 24, 3) := by decide +kernel
theorem dX7_init_52 : decode cX7_init 52 = .ok (.aload_n 0, 1) := by decide +kernel
theorem dX7_init_53 : decode cX7_init 53 = .ok (.getfield 25, 3) := by decide +kernel
theorem dX7_init_56 : decode cX7_init 56 = .ok (.iload_n 1, 1) := by decide +kernel
theorem dX7_init_57 : decode cX7_init 57 = .ok (.new 16, 3) := by decide +kernel
theorem dX7_init_60 : decode cX7_init 60 = .ok (.dup, 1) := by decide +kernel
theorem dX7_init_61 : decode cX7_init 61 = .ok (.bipush 6, 2) := by decide +kernel
theorem dX7_init_63 : decode cX7_init 63 = .ok (.invokespecial 18, 3) := by decide +kernel
theorem dX7_init_66 : decode cX7_init 66 = .ok (.aastore, 1) := by decide +kernel
theorem dX7_init_67 : decode cX7_init 67 = .ok (.iinc 1 1, 3) := by decide +kernel
theorem dX7_init_70 : decode cX7_init 70 = .ok (.goto (-24), 3) := by decide +kernel
theorem dX7_init_73 : decode cX7_init 73 = .ok (.aload_n 0, 1) := by decide +kernel
theorem dX7_init_74 : decode cX7_init 74 = .ok (.new 33, 3) := by decide +kernel
theorem dX7_init_77 : decode cX7_init 77 = .ok (.dup, 1) := by decide +kernel
theorem dX7_init_78 : decode cX7_init 78 = .ok (.aload_n 0, 1) := by decide +kernel
theorem dX7_init_79 : decode cX7_init 79 = .ok (.getfield 12, 3) := by decide +kernel
theorem dX7_init_82 : decode cX7_init 82 = .ok (.aload_n 0, 1) := by decide +kernel
theorem dX7_init_83 : decode cX7_init 83 = .ok (.getfield 21, 3) := by decide +kernel
theorem dX7_init_86 : decode cX7_init 86 = .ok (.aload_n 0, 1) := by decide +kernel
theorem dX7_init_87 : decode cX7_init 87 = .ok (.getfield 25, 3) := by decide +kernel
theorem dX7_init_90 : decode cX7_init 90 = .ok (.aload_n 0, 1) := by decide +kernel
theorem dX7_init_91 : decode cX7_init 91 = .ok (.getfield 29, 3) := by decide +kernel
theorem dX7_init_94 : decode cX7_init 94 = .ok (.invokespecial 35, 3) := by decide +kernel
theorem dX7_init_97 : decode cX7_init 97 = .ok (.putfield 38, 3) := by decide +kernel
theorem dX7_init_100 : decode cX7_init 100 = .ok (.aload_n 0, 1) := by decide +kernel
theorem dX7_init_101 : decode cX7_init 101 = .ok (.new 42, 3) := by decide +kernel
theorem dX7_init_104 : decode cX7_init 104 = .ok (.dup, 1) := by decide +kernel
theorem dX7_init_105 : decode cX7_init 105 = .ok (.aload_n 0, 1) := by decide +kernel
theorem dX7_init_106 : decode cX7_init 106 = .ok (.getfield 12, 3) := by decide +kernel
theorem dX7_init_109 : decode cX7_init 109 = .ok (.aload_n 0, 1) := by decide +kernel
theorem dX7_init_110 : decode cX7_init 110 = .ok (.getfield 21, 3) := by decide +kernel
theorem dX7_init_113 : decode cX7_init 113 = .ok (.invokespecial 44, 3) := by decide +kernel
theorem dX7_init_116 : decode cX7_init 116 = .ok (.putfield 47, 3) := by decide +kernel
theorem dX7_init_119 : decode cX7_init 119 = .ok (.return_, 1) := by decide +kernel
theorem dX7_slot_0 : decode cX7_slot 0 = .ok (.iload_n 1, 1) := by decide +kernel
theorem dX7_slot_1 : decode cX7_slot 1 = .ok (.bipush 10, 2) := by decide +kernel
theorem dX7_slot_3 : decode cX7_slot 3 = .ok (.invokestatic 51, 3) := by decide +kernel
theorem dX7_slot_6 : decode cX7_slot 6 = .ok (.iload_n 2, 1) := by decide +kernel
theorem dX7_slot_7 : decode cX7_slot 7 = .ok (.ifCond .ne 11, 3) := by decide +kernel
theorem dX7_slot_10 : decode cX7_slot 10 = .ok (.iload_n 3, 1) := by decide +kernel
theorem dX7_slot_11 : decode cX7_slot 11 = .ok (.ifCond .ne 7, 3) := by decide +kernel
theorem dX7_slot_14 : decode cX7_slot 14 = .ok (.iconst 1, 1) := by decide +kernel
theorem dX7_slot_15 : decode cX7_slot 15 = .ok (.goto 4, 3) := by decide +kernel
theorem dX7_slot_18 : decode cX7_slot 18 = .ok (.iconst 0, 1) := by decide +kernel
theorem dX7_slot_19 : decode cX7_slot 19 = .ok (.istore 5, 2) := by decide +kernel
theorem dX7_slot_21 : decode cX7_slot 21 = .ok (.iload_n 2, 1) := by decide +kernel
theorem dX7_slot_22 : decode cX7_slot 22 = .ok (.ifCond .lt 26, 3) := by decide +kernel
theorem dX7_slot_25 : decode cX7_slot 25 = .ok (.iload_n 2, 1) := by decide +kernel
theorem dX7_slot_26 : decode cX7_slot 26 = .ok (.sipush 1024, 3) := by decide +kernel
theorem dX7_slot_29 : decode cX7_slot 29 = .ok (.if_icmp .ge 19, 3) := by decide +kernel
theorem dX7_slot_32 : decode cX7_slot 32 = .ok (.iload 4, 2) := by decide +kernel
theorem dX7_slot_34 : decode cX7_slot 34 = .ok (.ifCond .lt 14, 3) := by decide +kernel
theorem dX7_slot_37 : decode cX7_slot 37 = .ok (.iload 4, 2) := by decide +kernel
theorem dX7_slot_39 : decode cX7_slot 39 = .ok (.iconst 3, 1) := by decide +kernel
theorem dX7_slot_40 : decode cX7_slot 40 = .ok (.if_icmp .gt 8, 3) := by decide +kernel
theorem dX7_slot_43 : decode cX7_slot 43 = .ok (.iload 5, 2) := by decide +kernel
theorem dX7_slot_45 : decode cX7_slot 45 = .ok (.ifCond .eq 13, 3) := by decide +kernel
theorem dX7_slot_48 : decode cX7_slot 48 = .ok (.new 55, 3) := by decide +kernel
theorem dX7_slot_51 : decode cX7_slot 51 = .ok (.dup, 1) := by decide +kernel
theorem dX7_slot_52 : decode cX7_slot 52 = .ok (.ldc 57, 2) := by decide +kernel
theorem dX7_slot_54 : decode cX7_slot 54 = .ok (.invokespecial 59, 3) := by decide +kernel
theorem dX7_slot_57 : decode cX7_slot 57 = .ok (.athrow, 1) := by decide +kernel
theorem dX7_slot_58 : decode cX7_slot 58 = .ok (.aload_n 0, 1) := by decide +kernel
theorem dX7_slot_59 : decode cX7_slot 59 = .ok (.getfield 12, 3) := by decide +kernel
theorem dX7_slot_62 : decode cX7_slot 62 = .ok (.getfield 62, 3) := by decide +kernel
theorem dX7_slot_65 : decode cX7_slot 65 = .ok (.iload_n 1, 1) := by decide +kernel
theorem dX7_slot_66 : decode cX7_slot 66 = .ok (.aaload, 1) := by decide +kernel
theorem dX7_slot_67 : decode cX7_slot 67 = .ok (.astore 6, 2) := by decide +kernel
theorem dX7_slot_69 : decode cX7_slot 69 = .ok (.aload 6, 2) := by decide +kernel
theorem dX7_slot_71 : decode cX7_slot 71 = .ok (.getfield 66, 3) := by decide +kernel
theorem dX7_slot_74 : decode cX7_slot 74 = .ok (.bipush 6, 2) := by decide +kernel
theorem dX7_slot_76 : decode cX7_slot 76 = .ok (.if_icmp .lt 13, 3) := by decide +kernel
theorem dX7_slot_79 : decode cX7_slot 79 = .ok (.new 72, 3) := by decide +kernel
theorem dX7_slot_82 : decode cX7_slot 82 = .ok (.dup, 1) := by decide +kernel
theorem dX7_slot_83 : decode cX7_slot 83 = .ok (.ldc 74, 2) := by decide +kernel
theorem dX7_slot_85 : decode cX7_slot 85 = .ok (.invokespecial 76, 3) := by decide +kernel
theorem dX7_slot_88 : decode cX7_slot 88 = .ok (.athrow, 1) := by decide +kernel
theorem dX7_slot_89 : decode cX7_slot 89 = .ok (.aload 6, 2) := by decide +kernel
theorem dX7_slot_91 : decode cX7_slot 91 = .ok (.iload_n 3, 1) := by decide +kernel
theorem dX7_slot_92 : decode cX7_slot 92 = .ok (.ifCond .eq 11, 3) := by decide +kernel
theorem dX7_slot_95 : decode cX7_slot 95 = .ok (.iload_n 2, 1) := by decide +kernel
theorem dX7_slot_96 : decode cX7_slot 96 = .ok (.sipush 1024, 3) := by decide +kernel
theorem dX7_slot_99 : decode cX7_slot 99 = .ok (.ior, 1) := by decide +kernel
theorem dX7_slot_100 : decode cX7_slot 100 = .ok (.goto 4, 3) := by decide +kernel
theorem dX7_slot_103 : decode cX7_slot 103 = .ok (.iload_n 2, 1) := by decide +kernel
theorem dX7_slot_104 : decode cX7_slot 104 = .ok (.iload 4, 2) := by decide +kernel
theorem dX7_slot_106 : decode cX7_slot 106 = .ok (.invokevirtual 77, 3) := by decide +kernel
theorem dX7_slot_109 : decode cX7_slot 109 = .ok (.aload 6, 2) := by decide +kernel
theorem dX7_slot_111 : decode cX7_slot 111 = .ok (.getfield 80, 3) := by decide +kernel
theorem dX7_slot_114 : decode cX7_slot 114 = .ok (.ifCond .eq 21, 3) := by decide +kernel
theorem dX7_slot_117 : decode cX7_slot 117 = .ok (.aload 6, 2) := by decide +kernel
theorem dX7_slot_119 : decode cX7_slot 119 = .ok (.getfield 80, 3) := by decide +kernel
theorem dX7_slot_122 : decode cX7_slot 122 = .ok (.invokestatic 83, 3) := by decide +kernel
theorem dX7_slot_125 : decode cX7_slot 125 = .ok (.istore 7, 2) := by decide +kernel
theorem dX7_slot_127 : decode cX7_slot 127 = .ok (.aload 6, 2) := by decide +kernel
theorem dX7_slot_129 : decode cX7_slot 129 = .ok (.invokevirtual 87, 3) := by decide +kernel
theorem dX7_slot_132 : decode cX7_slot 132 = .ok (.iload 7, 2) := by decide +kernel
theorem dX7_slot_134 : decode cX7_slot 134 = .ok (.ireturn, 1) := by decide +kernel
theorem dX7_slot_135 : decode cX7_slot 135 = .ok (.aload_n 0, 1) := by decide +kernel
theorem dX7_slot_136 : decode cX7_slot 136 = .ok (.getfield 38, 3) := by decide +kernel
theorem dX7_slot_139 : decode cX7_slot 139 = .ok (.invokevirtual 90, 3) := by decide +kernel
theorem dX7_slot_142 : decode cX7_slot 142 = .ok (.iconst (-1), 1) := by decide +kernel
theorem dX7_slot_143 : decode cX7_slot 143 = .ok (.ireturn, 1) := by decide +kernel
theorem dX7_empty_0 : decode cX7_empty 0 = .ok (.iload_n 1, 1) := by decide +kernel
theorem dX7_empty_1 : decode cX7_empty 1 = .ok (.bipush 10, 2) := by decide +kernel
theorem dX7_empty_3 : decode cX7_empty 3 = .ok (.invokestatic 51, 3) := by decide +kernel
theorem dX7_empty_6 : decode cX7_empty 6 = .ok (.aload_n 0, 1) := by decide +kernel
theorem dX7_empty_7 : decode cX7_empty 7 = .ok (.getfield 12, 3) := by decide +kernel
theorem dX7_empty_10 : decode cX7_empty 10 = .ok (.getfield 62, 3) := by decide +kernel
theorem dX7_empty_13 : decode cX7_empty 13 = .ok (.iload_n 1, 1) := by decide +kernel
theorem dX7_empty_14 : decode cX7_empty 14 = .ok (.aaload, 1) := by decide +kernel
theorem dX7_empty_15 : decode cX7_empty 15 = .ok (.getfield 66, 3) := by decide +kernel
theorem dX7_empty_18 : decode cX7_empty 18 = .ok (.istore_n 2, 1) := by decide +kernel
theorem dX7_empty_19 : decode cX7_empty 19 = .ok (.aload_n 0, 1) := by decide +kernel
theorem dX7_empty_20 : decode cX7_empty 20 = .ok (.getfield 12, 3) := by decide +kernel
theorem dX7_empty_23 : decode cX7_empty 23 = .ok (.getfield 62, 3) := by decide +kernel
theorem dX7_empty_26 : decode cX7_empty 26 = .ok (.iload_n 1, 1) := by decide +kernel
theorem dX7_empty_27 : decode cX7_empty 27 = .ok (.aaload, 1) := by decide +kernel
theorem dX7_empty_28 : decode cX7_empty 28 = .ok (.invokevirtual 93, 3) := by decide +kernel
theorem dX7_empty_31 : decode cX7_empty 31 = .ok (.aload_n 0, 1) := by decide +kernel
theorem dX7_empty_32 : decode cX7_empty 32 = .ok (.getfield 38, 3) := by decide +kernel
theorem dX7_empty_35 : decode cX7_empty 35 = .ok (.invokevirtual 90, 3) := by decide +kernel
theorem dX7_empty_38 : decode cX7_empty 38 = .ok (.iload_n 2, 1) := by decide +kernel
theorem dX7_empty_39 : decode cX7_empty 39 = .ok (.ireturn, 1) := by decide +kernel
theorem dX7_except_0 : decode cX7_except 0 = .ok (.iload_n 1, 1) := by decide +kernel
theorem dX7_except_1 : decode cX7_except 1 = .ok (.bipush 10, 2) := by decide +kernel
theorem dX7_except_3 : decode cX7_except 3 = .ok (.invokestatic 51, 3) := by decide +kernel
theorem dX7_except_6 : decode cX7_except 6 = .ok (.iload_n 2, 1) := by decide +kernel
theorem dX7_except_7 : decode cX7_except 7 = .ok (.ifCond .lt 21, 3) := by decide +kernel
theorem dX7_except_10 : decode cX7_except 10 = .ok (.iload_n 2, 1) := by decide +kernel
theorem dX7_except_11 : decode cX7_except 11 = .ok (.sipush 1024, 3) := by decide +kernel
theorem dX7_except_14 : decode cX7_except 14 = .ok (.if_icmp .ge 14, 3) := by decide +kernel
theorem dX7_except_17 : decode cX7_except 17 = .ok (.iload_n 3, 1) := by decide +kernel
theorem dX7_except_18 : decode cX7_except 18 = .ok (.ifCond .lt 10, 3) := by decide +kernel
theorem dX7_except_21 : decode cX7_except 21 = .ok (.iload_n 3, 1) := by decide +kernel
theorem dX7_except_22 : decode cX7_except 22 = .ok (.sipush 1024, 3) := by decide +kernel
theorem dX7_except_25 : decode cX7_except 25 = .ok (.if_icmp .lt 13, 3) := by decide +kernel
theorem dX7_except_28 : decode cX7_except 28 = .ok (.new 55, 3) := by decide +kernel
theorem dX7_except_31 : decode cX7_except 31 = .ok (.dup, 1) := by decide +kernel
theorem dX7_except_32 : decode cX7_except 32 = .ok (.ldc 96, 2) := by decide +kernel
theorem dX7_except_34 : decode cX7_except 34 = .ok (.invokespecial 59, 3) := by decide +kernel
theorem dX7_except_37 : decode cX7_except 37 = .ok (.athrow, 1) := by decide +kernel
theorem dX7_except_38 : decode cX7_except 38 = .ok (.aload_n 0, 1) := by decide +kernel
theorem dX7_except_39 : decode cX7_except 39 = .ok (.getfield 12, 3) := by decide +kernel
theorem dX7_except_42 : decode cX7_except 42 = .ok (.getfield 98, 3) := by decide +kernel
theorem dX7_except_45 : decode cX7_except 45 = .ok (.iload_n 1, 1) := by decide +kernel
theorem dX7_except_46 : decode cX7_except 46 = .ok (.iload_n 2, 1) := by decide +kernel
theorem dX7_except_47 : decode cX7_except 47 = .ok (.iastore, 1) := by decide +kernel
theorem dX7_except_48 : decode cX7_except 48 = .ok (.aload_n 0, 1) := by decide +kernel
theorem dX7_except_49 : decode cX7_except 49 = .ok (.getfield 12, 3) := by decide +kernel
theorem dX7_except_52 : decode cX7_except 52 = .ok (.getfield 101, 3) := by decide +kernel
theorem dX7_except_55 : decode cX7_except 55 = .ok (.iload_n 1, 1) := by decide +kernel
theorem dX7_except_56 : decode cX7_except 56 = .ok (.iload_n 3, 1) := by decide +kernel
theorem dX7_except_57 : decode cX7_except 57 = .ok (.iastore, 1) := by decide +kernel
theorem dX7_except_58 : decode cX7_except 58 = .ok (.aload_n 0, 1) := by decide +kernel
theorem dX7_except_59 : decode cX7_except 59 = .ok (.getfield 38, 3) := by decide +kernel
theorem dX7_except_62 : decode cX7_except 62 = .ok (.invokevirtual 90, 3) := by decide +kernel
theorem dX7_except_65 : decode cX7_except 65 = .ok (.return_, 1) := by decide +kernel
theorem dX7_omit_0 : decode cX7_omit 0 = .ok (.iload_n 1, 1) := by decide +kernel
theorem dX7_omit_1 : decode cX7_omit 1 = .ok (.bipush 10, 2) := by decide +kernel
theorem dX7_omit_3 : decode cX7_omit 3 = .ok (.invokestatic 51, 3) := by decide +kernel
theorem dX7_omit_6 : decode cX7_omit 6 = .ok (.aload_n 0, 1) := by decide +kernel
theorem dX7_omit_7 : decode cX7_omit 7 = .ok (.getfield 12, 3) := by decide +kernel
theorem dX7_omit_10 : decode cX7_omit 10 = .ok (.getfield 104, 3) := by decide +kernel
theorem dX7_omit_13 : decode cX7_omit 13 = .ok (.iload_n 1, 1) := by decide +kernel
theorem dX7_omit_14 : decode cX7_omit 14 = .ok (.iload_n 2, 1) := by decide +kernel
theorem dX7_omit_15 : decode cX7_omit 15 = .ok (.bastore, 1) := by decide +kernel
theorem dX7_omit_16 : decode cX7_omit 16 = .ok (.aload_n 0, 1) := by decide +kernel
theorem dX7_omit_17 : decode cX7_omit 17 = .ok (.getfield 12, 3) := by decide +kernel
theorem dX7_omit_20 : decode cX7_omit 20 = .ok (.getfield 108, 3) := by decide +kernel
theorem dX7_omit_23 : decode cX7_omit 23 = .ok (.iload_n 1, 1) := by decide +kernel
theorem dX7_omit_24 : decode cX7_omit 24 = .ok (.iload_n 3, 1) := by decide +kernel
theorem dX7_omit_25 : decode cX7_omit 25 = .ok (.bastore, 1) := by decide +kernel
theorem dX7_omit_26 : decode cX7_omit 26 = .ok (.aload_n 0, 1) := by decide +kernel
theorem dX7_omit_27 : decode cX7_omit 27 = .ok (.getfield 38, 3) := by decide +kernel
theorem dX7_omit_30 : decode cX7_omit 30 = .ok (.invokevirtual 90, 3) := by decide +kernel
theorem dX7_omit_33 : decode cX7_omit 33 = .ok (.return_, 1) := by decide +kernel
theorem dX7_entity_0 : decode cX7_entity 0 = .ok (.iload_n 1, 1) := by decide +kernel
theorem dX7_entity_1 : decode cX7_entity 1 = .ok (.bipush 6, 2) := by decide +kernel
theorem dX7_entity_3 : decode cX7_entity 3 = .ok (.invokestatic 51, 3) := by decide +kernel
theorem dX7_entity_6 : decode cX7_entity 6 = .ok (.iload_n 2, 1) := by decide +kernel
theorem dX7_entity_7 : decode cX7_entity 7 = .ok (.iload_n 3, 1) := by decide +kernel
theorem dX7_entity_8 : decode cX7_entity 8 = .ok (.invokestatic 111, 3) := by decide +kernel
theorem dX7_entity_11 : decode cX7_entity 11 = .ok (.aload_n 0, 1) := by decide +kernel
theorem dX7_entity_12 : decode cX7_entity 12 = .ok (.getfield 25, 3) := by decide +kernel
theorem dX7_entity_15 : decode cX7_entity 15 = .ok (.iload_n 1, 1) := by decide +kernel
theorem dX7_entity_16 : decode cX7_entity 16 = .ok (.aaload, 1) := by decide +kernel
theorem dX7_entity_17 : decode cX7_entity 17 = .ok (.astore 4, 2) := by decide +kernel
theorem dX7_entity_19 : decode cX7_entity 19 = .ok (.aload 4, 2) := by decide +kernel
theorem dX7_entity_21 : decode cX7_entity 21 = .ok (.getfield 114, 3) := by decide +kernel
theorem dX7_entity_24 : decode cX7_entity 24 = .ok (.bipush 6, 2) := by decide +kernel
theorem dX7_entity_26 : decode cX7_entity 26 = .ok (.if_icmp .lt 13, 3) := by decide +kernel
theorem dX7_entity_29 : decode cX7_entity 29 = .ok (.new 72, 3) := by decide +kernel
theorem dX7_entity_32 : decode cX7_entity 32 = .ok (.dup, 1) := by decide +kernel
theorem dX7_entity_33 : decode cX7_entity 33 = .ok (.ldc 117, 2) := by decide +kernel
theorem dX7_entity_35 : decode cX7_entity 35 = .ok (.invokespecial 76, 3) := by decide +kernel
theorem dX7_entity_38 : decode cX7_entity 38 = .ok (.athrow, 1) := by decide +kernel
theorem dX7_entity_39 : decode cX7_entity 39 = .ok (.aload 4, 2) := by decide +kernel
theorem dX7_entity_41 : decode cX7_entity 41 = .ok (.aload 4, 2) := by decide +kernel
theorem dX7_entity_43 : decode cX7_entity 43 = .ok (.getfield 114, 3) := by decide +kernel
theorem dX7_entity_46 : decode cX7_entity 46 = .ok (.iload_n 2, 1) := by decide +kernel
theorem dX7_entity_47 : decode cX7_entity 47 = .ok (.iload_n 3, 1) := by decide +kernel
theorem dX7_entity_48 : decode cX7_entity 48 = .ok (.invokevirtual 119, 3) := by decide +kernel
theorem dX7_entity_51 : decode cX7_entity 51 = .ok (.aload_n 0, 1) := by decide +kernel
theorem dX7_entity_52 : decode cX7_entity 52 = .ok (.getfield 38, 3) := by decide +kernel
theorem dX7_entity_55 : decode cX7_entity 55 = .ok (.invokevirtual 90, 3) := by decide +kernel
theorem dX7_entity_58 : decode cX7_entity 58 = .ok (.aload 4, 2) := by decide +kernel
theorem dX7_entity_60 : decode cX7_entity 60 = .ok (.getfield 114, 3) := by decide +kernel
theorem dX7_entity_63 : decode cX7_entity 63 = .ok (.ireturn, 1) := by decide +kernel
theorem dX7_clear_0 : decode cX7_clear 0 = .ok (.iload_n 1, 1) := by decide +kernel
theorem dX7_clear_1 : decode cX7_clear 1 = .ok (.bipush 6, 2) := by decide +kernel
theorem dX7_clear_3 : decode cX7_clear 3 = .ok (.invokestatic 51, 3) := by decide +kernel
theorem dX7_clear_6 : decode cX7_clear 6 = .ok (.aload_n 0, 1) := by decide +kernel
theorem dX7_clear_7 : decode cX7_clear 7 = .ok (.getfield 25, 3) := by decide +kernel
theorem dX7_clear_10 : decode cX7_clear 10 = .ok (.iload_n 1, 1) := by decide +kernel
theorem dX7_clear_11 : decode cX7_clear 11 = .ok (.aaload, 1) := by decide +kernel
theorem dX7_clear_12 : decode cX7_clear 12 = .ok (.getfield 114, 3) := by decide +kernel
theorem dX7_clear_15 : decode cX7_clear 15 = .ok (.istore_n 2, 1) := by decide +kernel
theorem dX7_clear_16 : decode cX7_clear 16 = .ok (.aload_n 0, 1) := by decide +kernel
theorem dX7_clear_17 : decode cX7_clear 17 = .ok (.getfield 25, 3) := by decide +kernel
theorem dX7_clear_20 : decode cX7_clear 20 = .ok (.iload_n 1, 1) := by decide +kernel
theorem dX7_clear_21 : decode cX7_clear 21 = .ok (.aaload, 1) := by decide +kernel
theorem dX7_clear_22 : decode cX7_clear 22 = .ok (.iconst 0, 1) := by decide +kernel
theorem dX7_clear_23 : decode cX7_clear 23 = .ok (.putfield 114, 3) := by decide +kernel
theorem dX7_clear_26 : decode cX7_clear 26 = .ok (.aload_n 0, 1) := by decide +kernel
theorem dX7_clear_27 : decode cX7_clear 27 = .ok (.getfield 38, 3) := by decide +kernel
theorem dX7_clear_30 : decode cX7_clear 30 = .ok (.invokevirtual 90, 3) := by decide +kernel
theorem dX7_clear_33 : decode cX7_clear 33 = .ok (.iload_n 2, 1) := by decide +kernel
theorem dX7_clear_34 : decode cX7_clear 34 = .ok (.ireturn, 1) := by decide +kernel
theorem dX7_flip_0 : decode cX7_flip 0 = .ok (.iload_n 1, 1) := by decide +kernel
theorem dX7_flip_1 : decode cX7_flip 1 = .ok (.iconst 4, 1) := by decide +kernel
theorem dX7_flip_2 : decode cX7_flip 2 = .ok (.invokestatic 51, 3) := by decide +kernel
theorem dX7_flip_5 : decode cX7_flip 5 = .ok (.iload_n 2, 1) := by decide +kernel
theorem dX7_flip_6 : decode cX7_flip 6 = .ok (.ifCond .lt 8, 3) := by decide +kernel
theorem dX7_flip_9 : decode cX7_flip 9 = .ok (.iload_n 2, 1) := by decide +kernel
theorem dX7_flip_10 : decode cX7_flip 10 = .ok (.iconst 2, 1) := by decide +kernel
theorem dX7_flip_11 : decode cX7_flip 11 = .ok (.if_icmp .le 13, 3) := by decide +kernel
theorem dX7_flip_14 : decode cX7_flip 14 = .ok (.new 55, 3) := by decide +kernel
theorem dX7_flip_17 : decode cX7_flip 17 = .ok (.dup, 1) := by decide +kernel
theorem dX7_flip_18 : decode cX7_flip 18 = .ok (.ldc 123, 2) := by decide +kernel
theorem dX7_flip_20 : decode cX7_flip 20 = .ok (.invokespecial 59, 3) := by decide +kernel
theorem dX7_flip_23 : decode cX7_flip 23 = .ok (.athrow, 1) := by decide +kernel
theorem dX7_flip_24 : decode cX7_flip 24 = .ok (.aload_n 0, 1) := by decide +kernel
theorem dX7_flip_25 : decode cX7_flip 25 = .ok (.getfield 29, 3) := by decide +kernel
theorem dX7_flip_28 : decode cX7_flip 28 = .ok (.iload_n 1, 1) := by decide +kernel
theorem dX7_flip_29 : decode cX7_flip 29 = .ok (.iaload, 1) := by decide +kernel
theorem dX7_flip_30 : decode cX7_flip 30 = .ok (.istore_n 3, 1) := by decide +kernel
theorem dX7_flip_31 : decode cX7_flip 31 = .ok (.aload_n 0, 1) := by decide +kernel
theorem dX7_flip_32 : decode cX7_flip 32 = .ok (.getfield 29, 3) := by decide +kernel
theorem dX7_flip_35 : decode cX7_flip 35 = .ok (.iload_n 1, 1) := by decide +kernel
theorem dX7_flip_36 : decode cX7_flip 36 = .ok (.iload_n 2, 1) := by decide +kernel
theorem dX7_flip_37 : decode cX7_flip 37 = .ok (.iastore, 1) := by decide +kernel
theorem dX7_flip_38 : decode cX7_flip 38 = .ok (.aload_n 0, 1) := by decide +kernel
theorem dX7_flip_39 : decode cX7_flip 39 = .ok (.getfield 38, 3) := by decide +kernel
theorem dX7_flip_42 : decode cX7_flip 42 = .ok (.invokevirtual 90, 3) := by decide +kernel
theorem dX7_flip_45 : decode cX7_flip 45 = .ok (.iload_n 3, 1) := by decide +kernel
theorem dX7_flip_46 : decode cX7_flip 46 = .ok (.ireturn, 1) := by decide +kernel
theorem dX7_insert_0 : decode cX7_insert 0 = .ok (.iload_n 1, 1) := by decide +kernel
theorem dX7_insert_1 : decode cX7_insert 1 = .ok (.aload_n 0, 1) := by decide +kernel
theorem dX7_insert_2 : decode cX7_insert 2 = .ok (.getfield 21, 3) := by decide +kernel
theorem dX7_insert_5 : decode cX7_insert 5 = .ok (.getfield 114, 3) := by decide +kernel
theorem dX7_insert_8 : decode cX7_insert 8 = .ok (.iconst 1, 1) := by decide +kernel
theorem dX7_insert_9 : decode cX7_insert 9 = .ok (.iadd, 1) := by decide +kernel
theorem dX7_insert_10 : decode cX7_insert 10 = .ok (.invokestatic 51, 3) := by decide +kernel
theorem dX7_insert_13 : decode cX7_insert 13 = .ok (.iload_n 2, 1) := by decide +kernel
theorem dX7_insert_14 : decode cX7_insert 14 = .ok (.iload_n 3, 1) := by decide +kernel
theorem dX7_insert_15 : decode cX7_insert 15 = .ok (.invokestatic 111, 3) := by decide +kernel
theorem dX7_insert_18 : decode cX7_insert 18 = .ok (.aload_n 0, 1) := by decide +kernel
theorem dX7_insert_19 : decode cX7_insert 19 = .ok (.getfield 21, 3) := by decide +kernel
theorem dX7_insert_22 : decode cX7_insert 22 = .ok (.getfield 114, 3) := by decide +kernel
theorem dX7_insert_25 : decode cX7_insert 25 = .ok (.bipush 60, 2) := by decide +kernel
theorem dX7_insert_27 : decode cX7_insert 27 = .ok (.if_icmp .lt 13, 3) := by decide +kernel
theorem dX7_insert_30 : decode cX7_insert 30 = .ok (.new 72, 3) := by decide +kernel
theorem dX7_insert_33 : decode cX7_insert 33 = .ok (.dup, 1) := by decide +kernel
theorem dX7_insert_34 : decode cX7_insert 34 = .ok (.ldc 125, 2) := by decide +kernel
theorem dX7_insert_36 : decode cX7_insert 36 = .ok (.invokespecial 76, 3) := by decide +kernel
theorem dX7_insert_39 : decode cX7_insert 39 = .ok (.athrow, 1) := by decide +kernel
theorem dX7_insert_40 : decode cX7_insert 40 = .ok (.aload_n 0, 1) := by decide +kernel
theorem dX7_insert_41 : decode cX7_insert 41 = .ok (.getfield 21, 3) := by decide +kernel
theorem dX7_insert_44 : decode cX7_insert 44 = .ok (.iload_n 1, 1) := by decide +kernel
theorem dX7_insert_45 : decode cX7_insert 45 = .ok (.iload_n 2, 1) := by decide +kernel
theorem dX7_insert_46 : decode cX7_insert 46 = .ok (.iload_n 3, 1) := by decide +kernel
theorem dX7_insert_47 : decode cX7_insert 47 = .ok (.invokevirtual 119, 3) := by decide +kernel
theorem dX7_insert_50 : decode cX7_insert 50 = .ok (.aload_n 0, 1) := by decide +kernel
theorem dX7_insert_51 : decode cX7_insert 51 = .ok (.getfield 38, 3) := by decide +kernel
theorem dX7_insert_54 : decode cX7_insert 54 = .ok (.invokevirtual 90, 3) := by decide +kernel
theorem dX7_insert_57 : decode cX7_insert 57 = .ok (.aload_n 0, 1) := by decide +kernel
theorem dX7_insert_58 : decode cX7_insert 58 = .ok (.getfield 38, 3) := by decide +kernel
theorem dX7_insert_61 : decode cX7_insert 61 = .ok (.iload_n 1, 1) := by decide +kernel
theorem dX7_insert_62 : decode cX7_insert 62 = .ok (.iload_n 1, 1) := by decide +kernel
theorem dX7_insert_63 : decode cX7_insert 63 = .ok (.iconst 1, 1) := by decide +kernel
theorem dX7_insert_64 : decode cX7_insert 64 = .ok (.iadd, 1) := by decide +kernel
theorem dX7_insert_65 : decode cX7_insert 65 = .ok (.iconst (-1), 1) := by decide +kernel
theorem dX7_insert_66 : decode cX7_insert 66 = .ok (.invokevirtual 127, 3) := by decide +kernel
theorem dX7_insert_69 : decode cX7_insert 69 = .ok (.aload_n 0, 1) := by decide +kernel
theorem dX7_insert_70 : decode cX7_insert 70 = .ok (.getfield 21, 3) := by decide +kernel
theorem dX7_insert_73 : decode cX7_insert 73 = .ok (.getfield 114, 3) := by decide +kernel
theorem dX7_insert_76 : decode cX7_insert 76 = .ok (.ireturn, 1) := by decide +kernel
theorem dX7_erase_0 : decode cX7_erase 0 = .ok (.iload_n 1, 1) := by decide +kernel
theorem dX7_erase_1 : decode cX7_erase 1 = .ok (.aload_n 0, 1) := by decide +kernel
theorem dX7_erase_2 : decode cX7_erase 2 = .ok (.getfield 21, 3) := by decide +kernel
theorem dX7_erase_5 : decode cX7_erase 5 = .ok (.getfield 114, 3) := by decide +kernel
theorem dX7_erase_8 : decode cX7_erase 8 = .ok (.invokestatic 51, 3) := by decide +kernel
theorem dX7_erase_11 : decode cX7_erase 11 = .ok (.aload_n 0, 1) := by decide +kernel
theorem dX7_erase_12 : decode cX7_erase 12 = .ok (.getfield 21, 3) := by decide +kernel
theorem dX7_erase_15 : decode cX7_erase 15 = .ok (.iload_n 1, 1) := by decide +kernel
theorem dX7_erase_16 : decode cX7_erase 16 = .ok (.invokevirtual 130, 3) := by decide +kernel
theorem dX7_erase_19 : decode cX7_erase 19 = .ok (.aload_n 0, 1) := by decide +kernel
theorem dX7_erase_20 : decode cX7_erase 20 = .ok (.getfield 38, 3) := by decide +kernel
theorem dX7_erase_23 : decode cX7_erase 23 = .ok (.invokevirtual 90, 3) := by decide +kernel
theorem dX7_erase_26 : decode cX7_erase 26 = .ok (.aload_n 0, 1) := by decide +kernel
theorem dX7_erase_27 : decode cX7_erase 27 = .ok (.getfield 38, 3) := by decide +kernel
theorem dX7_erase_30 : decode cX7_erase 30 = .ok (.iload_n 1, 1) := by decide +kernel
theorem dX7_erase_31 : decode cX7_erase 31 = .ok (.iload_n 1, 1) := by decide +kernel
theorem dX7_erase_32 : decode cX7_erase 32 = .ok (.iconst 1, 1) := by decide +kernel
theorem dX7_erase_33 : decode cX7_erase 33 = .ok (.invokevirtual 127, 3) := by decide +kernel
theorem dX7_erase_36 : decode cX7_erase 36 = .ok (.aload_n 0, 1) := by decide +kernel
theorem dX7_erase_37 : decode cX7_erase 37 = .ok (.getfield 21, 3) := by decide +kernel
theorem dX7_erase_40 : decode cX7_erase 40 = .ok (.getfield 114, 3) := by decide +kernel
theorem dX7_erase_43 : decode cX7_erase 43 = .ok (.ireturn, 1) := by decide +kernel
theorem dX7_length_0 : decode cX7_length 0 = .ok (.aload_n 0, 1) := by decide +kernel
theorem dX7_length_1 : decode cX7_length 1 = .ok (.getfield 21, 3) := by decide +kernel
theorem dX7_length_4 : decode cX7_length 4 = .ok (.getfield 114, 3) := by decide +kernel
theorem dX7_length_7 : decode cX7_length 7 = .ok (.ireturn, 1) := by decide +kernel
theorem dX7_anew_0 : decode cX7_anew 0 = .ok (.aload_n 0, 1) := by decide +kernel
theorem dX7_anew_1 : decode cX7_anew 1 = .ok (.getfield 38, 3) := by decide +kernel
theorem dX7_anew_4 : decode cX7_anew 4 = .ok (.getfield 142, 3) := by decide +kernel
theorem dX7_anew_7 : decode cX7_anew 7 = .ok (.ireturn, 1) := by decide +kernel
theorem dX7_open_0 : decode cX7_open 0 = .ok (.iload_n 1, 1) := by decide +kernel
theorem dX7_open_1 : decode cX7_open 1 = .ok (.aload_n 0, 1) := by decide +kernel
theorem dX7_open_2 : decode cX7_open 2 = .ok (.getfield 21, 3) := by decide +kernel
theorem dX7_open_5 : decode cX7_open 5 = .ok (.getfield 114, 3) := by decide +kernel
theorem dX7_open_8 : decode cX7_open 8 = .ok (.iconst 1, 1) := by decide +kernel
theorem dX7_open_9 : decode cX7_open 9 = .ok (.iadd, 1) := by decide +kernel
theorem dX7_open_10 : decode cX7_open 10 = .ok (.invokestatic 51, 3) := by decide +kernel
theorem dX7_open_13 : decode cX7_open 13 = .ok (.aload_n 0, 1) := by decide +kernel
theorem dX7_open_14 : decode cX7_open 14 = .ok (.getfield 38, 3) := by decide +kernel
theorem dX7_open_17 : decode cX7_open 17 = .ok (.getfield 145, 3) := by decide +kernel
theorem dX7_open_20 : decode cX7_open 20 = .ok (.iload_n 1, 1) := by decide +kernel
theorem dX7_open_21 : decode cX7_open 21 = .ok (.aaload, 1) := by decide +kernel
theorem dX7_open_22 : decode cX7_open 22 = .ok (.getfield 149, 3) := by decide +kernel
theorem dX7_open_25 : decode cX7_open 25 = .ok (.ireturn, 1) := by decide +kernel
theorem dX7_current_0 : decode cX7_current 0 = .ok (.iload_n 1, 1) := by decide +kernel
theorem dX7_current_1 : decode cX7_current 1 = .ok (.aload_n 0, 1) := by decide +kernel
theorem dX7_current_2 : decode cX7_current 2 = .ok (.getfield 21, 3) := by decide +kernel
theorem dX7_current_5 : decode cX7_current 5 = .ok (.getfield 114, 3) := by decide +kernel
theorem dX7_current_8 : decode cX7_current 8 = .ok (.iconst 1, 1) := by decide +kernel
theorem dX7_current_9 : decode cX7_current 9 = .ok (.iadd, 1) := by decide +kernel
theorem dX7_current_10 : decode cX7_current 10 = .ok (.invokestatic 51, 3) := by decide +kernel
theorem dX7_current_13 : decode cX7_current 13 = .ok (.aload_n 0, 1) := by decide +kernel
theorem dX7_current_14 : decode cX7_current 14 = .ok (.getfield 38, 3) := by decide +kernel
theorem dX7_current_17 : decode cX7_current 17 = .ok (.getfield 145, 3) := by decide +kernel
theorem dX7_current_20 : decode cX7_current 20 = .ok (.iload_n 1, 1) := by decide +kernel
theorem dX7_current_21 : decode cX7_current 21 = .ok (.aaload, 1) := by decide +kernel
theorem dX7_current_22 : decode cX7_current 22 = .ok (.invokevirtual 154, 3) := by decide +kernel
theorem dX7_current_25 : decode cX7_current 25 = .ok (.ireturn, 1) := by decide +kernel
theorem dX7_next_0 : decode cX7_next 0 = .ok (.iload_n 1, 1) := by decide +kernel
theorem dX7_next_1 : decode cX7_next 1 = .ok (.aload_n 0, 1) := by decide +kernel
theorem dX7_next_2 : decode cX7_next 2 = .ok (.getfield 21, 3) := by decide +kernel
theorem dX7_next_5 : decode cX7_next 5 = .ok (.getfield 114, 3) := by decide +kernel
theorem dX7_next_8 : decode cX7_next 8 = .ok (.iconst 1, 1) := by decide +kernel
theorem dX7_next_9 : decode cX7_next 9 = .ok (.iadd, 1) := by decide +kernel
theorem dX7_next_10 : decode cX7_next 10 = .ok (.invokestatic 51, 3) := by decide +kernel
theorem dX7_next_13 : decode cX7_next 13 = .ok (.aload_n 0, 1) := by decide +kernel
theorem dX7_next_14 : decode cX7_next 14 = .ok (.getfield 38, 3) := by decide +kernel
theorem dX7_next_17 : decode cX7_next 17 = .ok (.getfield 145, 3) := by decide +kernel
theorem dX7_next_20 : decode cX7_next 20 = .ok (.iload_n 1, 1) := by decide +kernel
theorem dX7_next_21 : decode cX7_next 21 = .ok (.aaload, 1) := by decide +kernel
theorem dX7_next_22 : decode cX7_next 22 = .ok (.invokevirtual 158, 3) := by decide +kernel
theorem dX7_next_25 : decode cX7_next 25 = .ok (.ireturn, 1) := by decide +kernel
theorem dX7_things_0 : decode cX7_things 0 = .ok (.aload_n 0, 1) := by decide +kernel
theorem dX7_things_1 : decode cX7_things 1 = .ok (.getfield 38, 3) := by decide +kernel
theorem dX7_things_4 : decode cX7_things 4 = .ok (.getfield 161, 3) := by decide +kernel
theorem dX7_things_7 : decode cX7_things 7 = .ok (.getfield 165, 3) := by decide +kernel
theorem dX7_things_10 : decode cX7_things 10 = .ok (.ireturn, 1) := by decide +kernel
theorem dX7_kind_0 : decode cX7_kind 0 = .ok (.iload_n 1, 1) := by decide +kernel
theorem dX7_kind_1 : decode cX7_kind 1 = .ok (.aload_n 0, 1) := by decide +kernel
theorem dX7_kind_2 : decode cX7_kind 2 = .ok (.getfield 38, 3) := by decide +kernel
theorem dX7_kind_5 : decode cX7_kind 5 = .ok (.getfield 161, 3) := by decide +kernel
theorem dX7_kind_8 : decode cX7_kind 8 = .ok (.getfield 165, 3) := by decide +kernel
theorem dX7_kind_11 : decode cX7_kind 11 = .ok (.invokestatic 51, 3) := by decide +kernel
theorem dX7_kind_14 : decode cX7_kind 14 = .ok (.aload_n 0, 1) := by decide +kernel
theorem dX7_kind_15 : decode cX7_kind 15 = .ok (.getfield 38, 3) := by decide +kernel
theorem dX7_kind_18 : decode cX7_kind 18 = .ok (.getfield 161, 3) := by decide +kernel
theorem dX7_kind_21 : decode cX7_kind 21 = .ok (.getfield 168, 3) := by decide +kernel
theorem dX7_kind_24 : decode cX7_kind 24 = .ok (.iload_n 1, 1) := by decide +kernel
theorem dX7_kind_25 : decode cX7_kind 25 = .ok (.iaload, 1) := by decide +kernel
theorem dX7_kind_26 : decode cX7_kind 26 = .ok (.ireturn, 1) := by decide +kernel
theorem dX7_parent_0 : decode cX7_parent 0 = .ok (.iload_n 1, 1) := by decide +kernel
theorem dX7_parent_1 : decode cX7_parent 1 = .ok (.aload_n 0, 1) := by decide +kernel
theorem dX7_parent_2 : decode cX7_parent 2 = .ok (.getfield 38, 3) := by decide +kernel
theorem dX7_parent_5 : decode cX7_parent 5 = .ok (.getfield 161, 3) := by decide +kernel
theorem dX7_parent_8 : decode cX7_parent 8 = .ok (.getfield 165, 3) := by decide +kernel
theorem dX7_parent_11 : decode cX7_parent 11 = .ok (.invokestatic 51, 3) := by decide +kernel
theorem dX7_parent_14 : decode cX7_parent 14 = .ok (.aload_n 0, 1) := by decide +kernel
theorem dX7_parent_15 : decode cX7_parent 15 = .ok (.getfield 38, 3) := by decide +kernel
theorem dX7_parent_18 : decode cX7_parent 18 = .ok (.getfield 161, 3) := by decide +kernel
theorem dX7_parent_21 : decode cX7_parent 21 = .ok (.getfield 171, 3) := by decide +kernel
theorem dX7_parent_24 : decode cX7_parent 24 = .ok (.iload_n 1, 1) := by decide +kernel
theorem dX7_parent_25 : decode cX7_parent 25 = .ok (.iaload, 1) := by decide +kernel
theorem dX7_parent_26 : decode cX7_parent 26 = .ok (.ireturn, 1) := by decide +kernel
theorem dX7_letter_0 : decode cX7_letter 0 = .ok (.iload_n 1, 1) := by decide +kernel
theorem dX7_letter_1 : decode cX7_letter 1 = .ok (.aload_n 0, 1) := by decide +kernel
theorem dX7_letter_2 : decode cX7_letter 2 = .ok (.getfield 38, 3) := by decide +kernel
theorem dX7_letter_5 : decode cX7_letter 5 = .ok (.getfield 161, 3) := by decide +kernel
theorem dX7_letter_8 : decode cX7_letter 8 = .ok (.getfield 165, 3) := by decide +kernel
theorem dX7_letter_11 : decode cX7_letter 11 = .ok (.invokestatic 51, 3) := by decide +kernel
theorem dX7_letter_14 : decode cX7_letter 14 = .ok (.aload_n 0, 1) := by decide +kernel
theorem dX7_letter_15 : decode cX7_letter 15 = .ok (.getfield 38, 3) := by decide +kernel
theorem dX7_letter_18 : decode cX7_letter 18 = .ok (.getfield 161, 3) := by decide +kernel
theorem dX7_letter_21 : decode cX7_letter 21 = .ok (.getfield 174, 3) := by decide +kernel
theorem dX7_letter_24 : decode cX7_letter 24 = .ok (.iload_n 1, 1) := by decide +kernel
theorem dX7_letter_25 : decode cX7_letter 25 = .ok (.caload, 1) := by decide +kernel
theorem dX7_letter_26 : decode cX7_letter 26 = .ok (.ireturn, 1) := by decide +kernel
theorem dX7_placeOf_0 : decode cX7_placeOf 0 = .ok (.iload_n 1, 1) := by decide +kernel
theorem dX7_placeOf_1 : decode cX7_placeOf 1 = .ok (.aload_n 0, 1) := by decide +kernel
theorem dX7_placeOf_2 : decode cX7_placeOf 2 = .ok (.getfield 38, 3) := by decide +kernel
theorem dX7_placeOf_5 : decode cX7_placeOf 5 = .ok (.getfield 161, 3) := by decide +kernel
theorem dX7_placeOf_8 : decode cX7_placeOf 8 = .ok (.getfield 165, 3) := by decide +kernel
theorem dX7_placeOf_11 : decode cX7_placeOf 11 = .ok (.invokestatic 51, 3) := by decide +kernel
theorem dX7_placeOf_14 : decode cX7_placeOf 14 = .ok (.aload_n 0, 1) := by decide +kernel
theorem dX7_placeOf_15 : decode cX7_placeOf 15 = .ok (.getfield 38, 3) := by decide +kernel
theorem dX7_placeOf_18 : decode cX7_placeOf 18 = .ok (.getfield 161, 3) := by decide +kernel
theorem dX7_placeOf_21 : decode cX7_placeOf 21 = .ok (.getfield 178, 3) := by decide +kernel
theorem dX7_placeOf_24 : decode cX7_placeOf 24 = .ok (.iload_n 1, 1) := by decide +kernel
theorem dX7_placeOf_25 : decode cX7_placeOf 25 = .ok (.iaload, 1) := by decide +kernel
theorem dX7_placeOf_26 : decode cX7_placeOf 26 = .ok (.ireturn, 1) := by decide +kernel
theorem dX7_isPutIn_0 : decode cX7_isPutIn 0 = .ok (.iload_n 1, 1) := by decide +kernel
theorem dX7_isPutIn_1 : decode cX7_isPutIn 1 = .ok (.aload_n 0, 1) := by decide +kernel
theorem dX7_isPutIn_2 : decode cX7_isPutIn 2 = .ok (.getfield 38, 3) := by decide +kernel
theorem dX7_isPutIn_5 : decode cX7_isPutIn 5 = .ok (.getfield 161, 3) := by decide +kernel
theorem dX7_isPutIn_8 : decode cX7_isPutIn 8 = .ok (.getfield 165, 3) := by decide +kernel
theorem dX7_isPutIn_11 : decode cX7_isPutIn 11 = .ok (.invokestatic 51, 3) := by decide +kernel
theorem dX7_isPutIn_14 : decode cX7_isPutIn 14 = .ok (.aload_n 0, 1) := by decide +kernel
theorem dX7_isPutIn_15 : decode cX7_isPutIn 15 = .ok (.getfield 38, 3) := by decide +kernel
theorem dX7_isPutIn_18 : decode cX7_isPutIn 18 = .ok (.getfield 161, 3) := by decide +kernel
theorem dX7_isPutIn_21 : decode cX7_isPutIn 21 = .ok (.getfield 181, 3) := by decide +kernel
theorem dX7_isPutIn_24 : decode cX7_isPutIn 24 = .ok (.iload_n 1, 1) := by decide +kernel
theorem dX7_isPutIn_25 : decode cX7_isPutIn 25 = .ok (.baload, 1) := by decide +kernel
theorem dX7_isPutIn_26 : decode cX7_isPutIn 26 = .ok (.ireturn, 1) := by decide +kernel
theorem dX7_endsPutIn_0 : decode cX7_endsPutIn 0 = .ok (.aload_n 0, 1) := by decide +kernel
theorem dX7_endsPutIn_1 : decode cX7_endsPutIn 1 = .ok (.getfield 38, 3) := by decide +kernel
theorem dX7_endsPutIn_4 : decode cX7_endsPutIn 4 = .ok (.getfield 184, 3) := by decide +kernel
theorem dX7_endsPutIn_7 : decode cX7_endsPutIn 7 = .ok (.ireturn, 1) := by decide +kernel
theorem dX7_errors_0 : decode cX7_errors 0 = .ok (.aload_n 0, 1) := by decide +kernel
theorem dX7_errors_1 : decode cX7_errors 1 = .ok (.getfield 38, 3) := by decide +kernel
theorem dX7_errors_4 : decode cX7_errors 4 = .ok (.getfield 187, 3) := by decide +kernel
theorem dX7_errors_7 : decode cX7_errors 7 = .ok (.ireturn, 1) := by decide +kernel
theorem dX7_errorKind_0 : decode cX7_errorKind 0 = .ok (.iload_n 1, 1) := by decide +kernel
theorem dX7_errorKind_1 : decode cX7_errorKind 1 = .ok (.aload_n 0, 1) := by decide +kernel
theorem dX7_errorKind_2 : decode cX7_errorKind 2 = .ok (.getfield 38, 3) := by decide +kernel
theorem dX7_errorKind_5 : decode cX7_errorKind 5 = .ok (.getfield 187, 3) := by decide +kernel
theorem dX7_errorKind_8 : decode cX7_errorKind 8 = .ok (.invokestatic 51, 3) := by decide +kernel
theorem dX7_errorKind_11 : decode cX7_errorKind 11 = .ok (.aload_n 0, 1) := by decide +kernel
theorem dX7_errorKind_12 : decode cX7_errorKind 12 = .ok (.getfield 38, 3) := by decide +kernel
theorem dX7_errorKind_15 : decode cX7_errorKind 15 = .ok (.getfield 190, 3) := by decide +kernel
theorem dX7_errorKind_18 : decode cX7_errorKind 18 = .ok (.iload_n 1, 1) := by decide +kernel
theorem dX7_errorKind_19 : decode cX7_errorKind 19 = .ok (.iaload, 1) := by decide +kernel
theorem dX7_errorKind_20 : decode cX7_errorKind 20 = .ok (.ireturn, 1) := by decide +kernel
theorem dX7_errorAt_0 : decode cX7_errorAt 0 = .ok (.iload_n 1, 1) := by decide +kernel
theorem dX7_errorAt_1 : decode cX7_errorAt 1 = .ok (.aload_n 0, 1) := by decide +kernel
theorem dX7_errorAt_2 : decode cX7_errorAt 2 = .ok (.getfield 38, 3) := by decide +kernel
theorem dX7_errorAt_5 : decode cX7_errorAt 5 = .ok (.getfield 187, 3) := by decide +kernel
theorem dX7_errorAt_8 : decode cX7_errorAt 8 = .ok (.invokestatic 51, 3) := by decide +kernel
theorem dX7_errorAt_11 : decode cX7_errorAt 11 = .ok (.aload_n 0, 1) := by decide +kernel
theorem dX7_errorAt_12 : decode cX7_errorAt 12 = .ok (.getfield 38, 3) := by decide +kernel
theorem dX7_errorAt_15 : decode cX7_errorAt 15 = .ok (.getfield 193, 3) := by decide +kernel
theorem dX7_errorAt_18 : decode cX7_errorAt 18 = .ok (.iload_n 1, 1) := by decide +kernel
theorem dX7_errorAt_19 : decode cX7_errorAt 19 = .ok (.iaload, 1) := by decide +kernel
theorem dX7_errorAt_20 : decode cX7_errorAt 20 = .ok (.ireturn, 1) := by decide +kernel
theorem dX7_normal_0 : decode cX7_normal 0 = .ok (.aload_n 0, 1) := by decide +kernel
theorem dX7_normal_1 : decode cX7_normal 1 = .ok (.getfield 38, 3) := by decide +kernel
theorem dX7_normal_4 : decode cX7_normal 4 = .ok (.getfield 133, 3) := by decide +kernel
theorem dX7_normal_7 : decode cX7_normal 7 = .ok (.getfield 114, 3) := by decide +kernel
theorem dX7_normal_10 : decode cX7_normal 10 = .ok (.ireturn, 1) := by decide +kernel
theorem dX7_isSame_0 : decode cX7_isSame 0 = .ok (.aload_n 0, 1) := by decide +kernel
theorem dX7_isSame_1 : decode cX7_isSame 1 = .ok (.getfield 38, 3) := by decide +kernel
theorem dX7_isSame_4 : decode cX7_isSame 4 = .ok (.invokevirtual 202, 3) := by decide +kernel
theorem dX7_isSame_7 : decode cX7_isSame 7 = .ok (.ireturn, 1) := by decide +kernel
theorem dX7_checkIndex_0 : decode cX7_checkIndex 0 = .ok (.iload_n 0, 1) := by decide +kernel
theorem dX7_checkIndex_1 : decode cX7_checkIndex 1 = .ok (.ifCond .lt 8, 3) := by decide +kernel
theorem dX7_checkIndex_4 : decode cX7_checkIndex 4 = .ok (.iload_n 0, 1) := by decide +kernel
theorem dX7_checkIndex_5 : decode cX7_checkIndex 5 = .ok (.iload_n 1, 1) := by decide +kernel
theorem dX7_checkIndex_6 : decode cX7_checkIndex 6 = .ok (.if_icmp .lt 13, 3) := by decide +kernel
theorem dX7_checkIndex_9 : decode cX7_checkIndex 9 = .ok (.new 213, 3) := by decide +kernel
theorem dX7_checkIndex_12 : decode cX7_checkIndex 12 = .ok (.dup, 1) := by decide +kernel
theorem dX7_checkIndex_13 : decode cX7_checkIndex 13 = .ok (.ldc 215, 2) := by decide +kernel
theorem dX7_checkIndex_15 : decode cX7_checkIndex 15 = .ok (.invokespecial 217, 3) := by decide +kernel
theorem dX7_checkIndex_18 : decode cX7_checkIndex 18 = .ok (.athrow, 1) := by decide +kernel
theorem dX7_checkIndex_19 : decode cX7_checkIndex 19 = .ok (.return_, 1) := by decide +kernel
theorem dX7_checkToken_0 : decode cX7_checkToken 0 = .ok (.iload_n 0, 1) := by decide +kernel
theorem dX7_checkToken_1 : decode cX7_checkToken 1 = .ok (.ifCond .lt 17, 3) := by decide +kernel
theorem dX7_checkToken_4 : decode cX7_checkToken 4 = .ok (.iload_n 0, 1) := by decide +kernel
theorem dX7_checkToken_5 : decode cX7_checkToken 5 = .ok (.bipush 8, 2) := by decide +kernel
theorem dX7_checkToken_7 : decode cX7_checkToken 7 = .ok (.if_icmp .gt 11, 3) := by decide +kernel
theorem dX7_checkToken_10 : decode cX7_checkToken 10 = .ok (.iload_n 0, 1) := by decide +kernel
theorem dX7_checkToken_11 : decode cX7_checkToken 11 = .ok (.iload_n 1, 1) := by decide +kernel
theorem dX7_checkToken_12 : decode cX7_checkToken 12 = .ok (.invokestatic 218, 3) := by decide +kernel
theorem dX7_checkToken_15 : decode cX7_checkToken 15 = .ok (.ifCond .ne 13, 3) := by decide +kernel
theorem dX7_checkToken_18 : decode cX7_checkToken 18 = .ok (.new 55, 3) := by decide +kernel
theorem dX7_checkToken_21 : decode cX7_checkToken 21 = .ok (.dup, 1) := by decide +kernel
theorem dX7_checkToken_22 : decode cX7_checkToken 22 = .ok (.ldc 222, 2) := by decide +kernel
theorem dX7_checkToken_24 : decode cX7_checkToken 24 = .ok (.invokespecial 59, 3) := by decide +kernel
theorem dX7_checkToken_27 : decode cX7_checkToken 27 = .ok (.athrow, 1) := by decide +kernel
theorem dX7_checkToken_28 : decode cX7_checkToken 28 = .ok (.return_, 1) := by decide +kernel
theorem dX7_isValueOf_0 : decode cX7_isValueOf 0 = .ok (.iload_n 0, 1) := by decide +kernel
theorem dX7_isValueOf_1 : decode cX7_isValueOf 1 = .ok (.tableswitch 112 0 7 #[47, 47, 112, 112, 63, 112, 81, 97], 47) := by decide +kernel
theorem dX7_isValueOf_48 : decode cX7_isValueOf 48 = .ok (.iload_n 1, 1) := by decide +kernel
theorem dX7_isValueOf_49 : decode cX7_isValueOf 49 = .ok (.ifCond .lt 13, 3) := by decide +kernel
theorem dX7_isValueOf_52 : decode cX7_isValueOf 52 = .ok (.iload_n 1, 1) := by decide +kernel
theorem dX7_isValueOf_53 : decode cX7_isValueOf 53 = .ok (.bipush 10, 2) := by decide +kernel
theorem dX7_isValueOf_55 : decode cX7_isValueOf 55 = .ok (.if_icmp .ge 7, 3) := by decide +kernel
theorem dX7_isValueOf_58 : decode cX7_isValueOf 58 = .ok (.iconst 1, 1) := by decide +kernel
theorem dX7_isValueOf_59 : decode cX7_isValueOf 59 = .ok (.goto 4, 3) := by decide +kernel
theorem dX7_isValueOf_62 : decode cX7_isValueOf 62 = .ok (.iconst 0, 1) := by decide +kernel
theorem dX7_isValueOf_63 : decode cX7_isValueOf 63 = .ok (.ireturn, 1) := by decide +kernel
theorem dX7_isValueOf_64 : decode cX7_isValueOf 64 = .ok (.iload_n 1, 1) := by decide +kernel
theorem dX7_isValueOf_65 : decode cX7_isValueOf 65 = .ok (.bipush 32, 2) := by decide +kernel
theorem dX7_isValueOf_67 : decode cX7_isValueOf 67 = .ok (.if_icmp .lt 13, 3) := by decide +kernel
theorem dX7_isValueOf_70 : decode cX7_isValueOf 70 = .ok (.iload_n 1, 1) := by decide +kernel
theorem dX7_isValueOf_71 : decode cX7_isValueOf 71 = .ok (.bipush 126, 2) := by decide +kernel
theorem dX7_isValueOf_73 : decode cX7_isValueOf 73 = .ok (.if_icmp .gt 7, 3) := by decide +kernel
theorem dX7_isValueOf_76 : decode cX7_isValueOf 76 = .ok (.iconst 1, 1) := by decide +kernel
theorem dX7_isValueOf_77 : decode cX7_isValueOf 77 = .ok (.goto 4, 3) := by decide +kernel
theorem dX7_isValueOf_80 : decode cX7_isValueOf 80 = .ok (.iconst 0, 1) := by decide +kernel
theorem dX7_isValueOf_81 : decode cX7_isValueOf 81 = .ok (.ireturn, 1) := by decide +kernel
theorem dX7_isValueOf_82 : decode cX7_isValueOf 82 = .ok (.iload_n 1, 1) := by decide +kernel
theorem dX7_isValueOf_83 : decode cX7_isValueOf 83 = .ok (.ifCond .lt 13, 3) := by decide +kernel
theorem dX7_isValueOf_86 : decode cX7_isValueOf 86 = .ok (.iload_n 1, 1) := by decide +kernel
theorem dX7_isValueOf_87 : decode cX7_isValueOf 87 = .ok (.bipush 6, 2) := by decide +kernel
theorem dX7_isValueOf_89 : decode cX7_isValueOf 89 = .ok (.if_icmp .ge 7, 3) := by decide +kernel
theorem dX7_isValueOf_92 : decode cX7_isValueOf 92 = .ok (.iconst 1, 1) := by decide +kernel
theorem dX7_isValueOf_93 : decode cX7_isValueOf 93 = .ok (.goto 4, 3) := by decide +kernel
theorem dX7_isValueOf_96 : decode cX7_isValueOf 96 = .ok (.iconst 0, 1) := by decide +kernel
theorem dX7_isValueOf_97 : decode cX7_isValueOf 97 = .ok (.ireturn, 1) := by decide +kernel
theorem dX7_isValueOf_98 : decode cX7_isValueOf 98 = .ok (.iload_n 1, 1) := by decide +kernel
theorem dX7_isValueOf_99 : decode cX7_isValueOf 99 = .ok (.ifCond .lt 12, 3) := by decide +kernel
theorem dX7_isValueOf_102 : decode cX7_isValueOf 102 = .ok (.iload_n 1, 1) := by decide +kernel
theorem dX7_isValueOf_103 : decode cX7_isValueOf 103 = .ok (.iconst 4, 1) := by decide +kernel
theorem dX7_isValueOf_104 : decode cX7_isValueOf 104 = .ok (.if_icmp .ge 7, 3) := by decide +kernel
theorem dX7_isValueOf_107 : decode cX7_isValueOf 107 = .ok (.iconst 1, 1) := by decide +kernel
theorem dX7_isValueOf_108 : decode cX7_isValueOf 108 = .ok (.goto 4, 3) := by decide +kernel
theorem dX7_isValueOf_111 : decode cX7_isValueOf 111 = .ok (.iconst 0, 1) := by decide +kernel
theorem dX7_isValueOf_112 : decode cX7_isValueOf 112 = .ok (.ireturn, 1) := by decide +kernel
theorem dX7_isValueOf_113 : decode cX7_isValueOf 113 = .ok (.iconst 1, 1) := by decide +kernel
theorem dX7_isValueOf_114 : decode cX7_isValueOf 114 = .ok (.ireturn, 1) := by decide +kernel
theorem dX7_lowestOf_0 : decode cX7_lowestOf 0 = .ok (.iload_n 0, 1) := by decide +kernel
theorem dX7_lowestOf_1 : decode cX7_lowestOf 1 = .ok (.iload_n 0, 1) := by decide +kernel
theorem dX7_lowestOf_2 : decode cX7_lowestOf 2 = .ok (.ineg, 1) := by decide +kernel
theorem dX7_lowestOf_3 : decode cX7_lowestOf 3 = .ok (.iand, 1) := by decide +kernel
theorem dX7_lowestOf_4 : decode cX7_lowestOf 4 = .ok (.iconst 1, 1) := by decide +kernel
theorem dX7_lowestOf_5 : decode cX7_lowestOf 5 = .ok (.isub, 1) := by decide +kernel
theorem dX7_lowestOf_6 : decode cX7_lowestOf 6 = .ok (.invokestatic 224, 3) := by decide +kernel
theorem dX7_lowestOf_9 : decode cX7_lowestOf 9 = .ok (.ireturn, 1) := by decide +kernel
theorem dJ6_bitCount_0f7a4_0 : decode cJ6_bitCount_0f7a4 0 = .ok (.iload_n 0, 1) := by decide +kernel
theorem dJ6_bitCount_0f7a4_1 : decode cJ6_bitCount_0f7a4 1 = .ok (.iload_n 0, 1) := by decide +kernel
theorem dJ6_bitCount_0f7a4_2 : decode cJ6_bitCount_0f7a4 2 = .ok (.iconst 1, 1) := by decide +kernel
theorem dJ6_bitCount_0f7a4_3 : decode cJ6_bitCount_0f7a4 3 = .ok (.iushr, 1) := by decide +kernel
theorem dJ6_bitCount_0f7a4_4 : decode cJ6_bitCount_0f7a4 4 = .ok (.ldc_w 265, 3) := by decide +kernel
theorem dJ6_bitCount_0f7a4_7 : decode cJ6_bitCount_0f7a4 7 = .ok (.iand, 1) := by decide +kernel
theorem dJ6_bitCount_0f7a4_8 : decode cJ6_bitCount_0f7a4 8 = .ok (.isub, 1) := by decide +kernel
theorem dJ6_bitCount_0f7a4_9 : decode cJ6_bitCount_0f7a4 9 = .ok (.istore_n 0, 1) := by decide +kernel
theorem dJ6_bitCount_0f7a4_10 : decode cJ6_bitCount_0f7a4 10 = .ok (.iload_n 0, 1) := by decide +kernel
theorem dJ6_bitCount_0f7a4_11 : decode cJ6_bitCount_0f7a4 11 = .ok (.ldc_w 266, 3) := by decide +kernel
theorem dJ6_bitCount_0f7a4_14 : decode cJ6_bitCount_0f7a4 14 = .ok (.iand, 1) := by decide +kernel
theorem dJ6_bitCount_0f7a4_15 : decode cJ6_bitCount_0f7a4 15 = .ok (.iload_n 0, 1) := by decide +kernel
theorem dJ6_bitCount_0f7a4_16 : decode cJ6_bitCount_0f7a4 16 = .ok (.iconst 2, 1) := by decide +kernel
theorem dJ6_bitCount_0f7a4_17 : decode cJ6_bitCount_0f7a4 17 = .ok (.iushr, 1) := by decide +kernel
theorem dJ6_bitCount_0f7a4_18 : decode cJ6_bitCount_0f7a4 18 = .ok (.ldc_w 266, 3) := by decide +kernel
theorem dJ6_bitCount_0f7a4_21 : decode cJ6_bitCount_0f7a4 21 = .ok (.iand, 1) := by decide +kernel
theorem dJ6_bitCount_0f7a4_22 : decode cJ6_bitCount_0f7a4 22 = .ok (.iadd, 1) := by decide +kernel
theorem dJ6_bitCount_0f7a4_23 : decode cJ6_bitCount_0f7a4 23 = .ok (.istore_n 0, 1) := by decide +kernel
theorem dJ6_bitCount_0f7a4_24 : decode cJ6_bitCount_0f7a4 24 = .ok (.iload_n 0, 1) := by decide +kernel
theorem dJ6_bitCount_0f7a4_25 : decode cJ6_bitCount_0f7a4 25 = .ok (.iload_n 0, 1) := by decide +kernel
theorem dJ6_bitCount_0f7a4_26 : decode cJ6_bitCount_0f7a4 26 = .ok (.iconst 4, 1) := by decide +kernel
theorem dJ6_bitCount_0f7a4_27 : decode cJ6_bitCount_0f7a4 27 = .ok (.iushr, 1) := by decide +kernel
theorem dJ6_bitCount_0f7a4_28 : decode cJ6_bitCount_0f7a4 28 = .ok (.iadd, 1) := by decide +kernel
theorem dJ6_bitCount_0f7a4_29 : decode cJ6_bitCount_0f7a4 29 = .ok (.ldc_w 267, 3) := by decide +kernel
theorem dJ6_bitCount_0f7a4_32 : decode cJ6_bitCount_0f7a4 32 = .ok (.iand, 1) := by decide +kernel
theorem dJ6_bitCount_0f7a4_33 : decode cJ6_bitCount_0f7a4 33 = .ok (.istore_n 0, 1) := by decide +kernel
theorem dJ6_bitCount_0f7a4_34 : decode cJ6_bitCount_0f7a4 34 = .ok (.iload_n 0, 1) := by decide +kernel
theorem dJ6_bitCount_0f7a4_35 : decode cJ6_bitCount_0f7a4 35 = .ok (.iload_n 0, 1) := by decide +kernel
theorem dJ6_bitCount_0f7a4_36 : decode cJ6_bitCount_0f7a4 36 = .ok (.bipush 8, 2) := by decide +kernel
theorem dJ6_bitCount_0f7a4_38 : decode cJ6_bitCount_0f7a4 38 = .ok (.iushr, 1) := by decide +kernel
theorem dJ6_bitCount_0f7a4_39 : decode cJ6_bitCount_0f7a4 39 = .ok (.iadd, 1) := by decide +kernel
theorem dJ6_bitCount_0f7a4_40 : decode cJ6_bitCount_0f7a4 40 = .ok (.istore_n 0, 1) := by decide +kernel
theorem dJ6_bitCount_0f7a4_41 : decode cJ6_bitCount_0f7a4 41 = .ok (.iload_n 0, 1) := by decide +kernel
theorem dJ6_bitCount_0f7a4_42 : decode cJ6_bitCount_0f7a4 42 = .ok (.iload_n 0, 1) := by decide +kernel
theorem dJ6_bitCount_0f7a4_43 : decode cJ6_bitCount_0f7a4 43 = .ok (.bipush 16, 2) := by decide +kernel
theorem dJ6_bitCount_0f7a4_45 : decode cJ6_bitCount_0f7a4 45 = .ok (.iushr, 1) := by decide +kernel
theorem dJ6_bitCount_0f7a4_46 : decode cJ6_bitCount_0f7a4 46 = .ok (.iadd, 1) := by decide +kernel
theorem dJ6_bitCount_0f7a4_47 : decode cJ6_bitCount_0f7a4 47 = .ok (.istore_n 0, 1) := by decide +kernel
theorem dJ6_bitCount_0f7a4_48 : decode cJ6_bitCount_0f7a4 48 = .ok (.iload_n 0, 1) := by decide +kernel
theorem dJ6_bitCount_0f7a4_49 : decode cJ6_bitCount_0f7a4 49 = .ok (.bipush 63, 2) := by decide +kernel
theorem dJ6_bitCount_0f7a4_51 : decode cJ6_bitCount_0f7a4 51 = .ok (.iand, 1) := by decide +kernel
theorem dJ6_bitCount_0f7a4_52 : decode cJ6_bitCount_0f7a4 52 = .ok (.ireturn, 1) := by decide +kernel
theorem dL_from_0 : decode cL_from 0 = .ok (.aload_n 0, 1) := by decide +kernel
theorem dL_from_1 : decode cL_from 1 = .ok (.arraylength, 1) := by decide +kernel
theorem dL_from_2 : decode cL_from 2 = .ok (.ifCond .ne 15, 3) := by decide +kernel
theorem dL_from_5 : decode cL_from 5 = .ok (.sipush 331, 3) := by decide +kernel
theorem dL_from_8 : decode cL_from 8 = .ok (.iload_n 1, 1) := by decide +kernel
theorem dL_from_9 : decode cL_from 9 = .ok (.imul, 1) := by decide +kernel
theorem dL_from_10 : decode cL_from 10 = .ok (.sipush 293, 3) := by decide +kernel
theorem dL_from_13 : decode cL_from 13 = .ok (.iadd, 1) := by decide +kernel
theorem dL_from_14 : decode cL_from 14 = .ok (.goto 14, 3) := by decide +kernel
theorem dL_from_17 : decode cL_from 17 = .ok (.aload_n 0, 1) := by decide +kernel
theorem dL_from_18 : decode cL_from 18 = .ok (.iload_n 1, 1) := by decide +kernel
theorem dL_from_19 : decode cL_from 19 = .ok (.aload_n 0, 1) := by decide +kernel
theorem dL_from_20 : decode cL_from 20 = .ok (.arraylength, 1) := by decide +kernel
theorem dL_from_21 : decode cL_from 21 = .ok (.irem, 1) := by decide +kernel
theorem dL_from_22 : decode cL_from 22 = .ok (.iaload, 1) := by decide +kernel
theorem dL_from_23 : decode cL_from 23 = .ok (.ldc 7, 2) := by decide +kernel
theorem dL_from_25 : decode cL_from 25 = .ok (.iload_n 1, 1) := by decide +kernel
theorem dL_from_26 : decode cL_from 26 = .ok (.imul, 1) := by decide +kernel
theorem dL_from_27 : decode cL_from 27 = .ok (.ixor, 1) := by decide +kernel
theorem dL_from_28 : decode cL_from 28 = .ok (.istore_n 3, 1) := by decide +kernel
theorem dL_from_29 : decode cL_from 29 = .ok (.iload_n 3, 1) := by decide +kernel
theorem dL_from_30 : decode cL_from 30 = .ok (.ldc 8, 2) := by decide +kernel
theorem dL_from_32 : decode cL_from 32 = .ok (.iand, 1) := by decide +kernel
theorem dL_from_33 : decode cL_from 33 = .ok (.iload_n 2, 1) := by decide +kernel
theorem dL_from_34 : decode cL_from 34 = .ok (.irem, 1) := by decide +kernel
theorem dL_from_35 : decode cL_from 35 = .ok (.ireturn, 1) := by decide +kernel
theorem dL_enough_0 : decode cL_enough 0 = .ok (.iload_n 2, 1) := by decide +kernel
theorem dL_enough_1 : decode cL_enough 1 = .ok (.iconst 1, 1) := by decide +kernel
theorem dL_enough_2 : decode cL_enough 2 = .ok (.if_icmp .eq 25, 3) := by decide +kernel
theorem dL_enough_5 : decode cL_enough 5 = .ok (.aload_n 0, 1) := by decide +kernel
theorem dL_enough_6 : decode cL_enough 6 = .ok (.iload_n 1, 1) := by decide +kernel
theorem dL_enough_7 : decode cL_enough 7 = .ok (.iaload, 1) := by decide +kernel
theorem dL_enough_8 : decode cL_enough 8 = .ok (.sipush 2048, 3) := by decide +kernel
theorem dL_enough_11 : decode cL_enough 11 = .ok (.idiv, 1) := by decide +kernel
theorem dL_enough_12 : decode cL_enough 12 = .ok (.iconst 1, 1) := by decide +kernel
theorem dL_enough_13 : decode cL_enough 13 = .ok (.if_icmp .eq 14, 3) := by decide +kernel
theorem dL_enough_16 : decode cL_enough 16 = .ok (.aload_n 0, 1) := by decide +kernel
theorem dL_enough_17 : decode cL_enough 17 = .ok (.iload_n 1, 1) := by decide +kernel
theorem dL_enough_18 : decode cL_enough 18 = .ok (.iaload, 1) := by decide +kernel
theorem dL_enough_19 : decode cL_enough 19 = .ok (.sipush 2048, 3) := by decide +kernel
theorem dL_enough_22 : decode cL_enough 22 = .ok (.idiv, 1) := by decide +kernel
theorem dL_enough_23 : decode cL_enough 23 = .ok (.iconst 2, 1) := by decide +kernel
theorem dL_enough_24 : decode cL_enough 24 = .ok (.if_icmp .ne 7, 3) := by decide +kernel
theorem dL_enough_27 : decode cL_enough 27 = .ok (.iconst 1, 1) := by decide +kernel
theorem dL_enough_28 : decode cL_enough 28 = .ok (.goto 4, 3) := by decide +kernel
theorem dL_enough_31 : decode cL_enough 31 = .ok (.iconst 0, 1) := by decide +kernel
theorem dL_enough_32 : decode cL_enough 32 = .ok (.ireturn, 1) := by decide +kernel
theorem dL_step_0 : decode cL_step 0 = .ok (.iload_n 2, 1) := by decide +kernel
theorem dL_step_1 : decode cL_step 1 = .ok (.bipush 16, 2) := by decide +kernel
theorem dL_step_3 : decode cL_step 3 = .ok (.idiv, 1) := by decide +kernel
theorem dL_step_4 : decode cL_step 4 = .ok (.istore 4, 2) := by decide +kernel
theorem dL_step_6 : decode cL_step 6 = .ok (.iload_n 2, 1) := by decide +kernel
theorem dL_step_7 : decode cL_step 7 = .ok (.iconst 2, 1) := by decide +kernel
theorem dL_step_8 : decode cL_step 8 = .ok (.idiv, 1) := by decide +kernel
theorem dL_step_9 : decode cL_step 9 = .ok (.bipush 8, 2) := by decide +kernel
theorem dL_step_11 : decode cL_step 11 = .ok (.irem, 1) := by decide +kernel
theorem dL_step_12 : decode cL_step 12 = .ok (.istore 5, 2) := by decide +kernel
theorem dL_step_14 : decode cL_step 14 = .ok (.iload_n 2, 1) := by decide +kernel
theorem dL_step_15 : decode cL_step 15 = .ok (.iconst 2, 1) := by decide +kernel
theorem dL_step_16 : decode cL_step 16 = .ok (.irem, 1) := by decide +kernel
theorem dL_step_17 : decode cL_step 17 = .ok (.istore 6, 2) := by decide +kernel
theorem dL_step_19 : decode cL_step 19 = .ok (.iconst (-1), 1) := by decide +kernel
theorem dL_step_20 : decode cL_step 20 = .ok (.istore 7, 2) := by decide +kernel
theorem dL_step_22 : decode cL_step 22 = .ok (.iload 5, 2) := by decide +kernel
theorem dL_step_24 : decode cL_step 24 = .ok (.aload_n 1, 1) := by decide +kernel
theorem dL_step_25 : decode cL_step 25 = .ok (.iload 4, 2) := by decide +kernel
theorem dL_step_27 : decode cL_step 27 = .ok (.iaload, 1) := by decide +kernel
theorem dL_step_28 : decode cL_step 28 = .ok (.if_icmp .ge 88, 3) := by decide +kernel
theorem dL_step_31 : decode cL_step 31 = .ok (.iload 7, 2) := by decide +kernel
theorem dL_step_33 : decode cL_step 33 = .ok (.ifCond .ge 83, 3) := by decide +kernel
theorem dL_step_36 : decode cL_step 36 = .ok (.iconst 4, 1) := by decide +kernel
theorem dL_step_37 : decode cL_step 37 = .ok (.iload 4, 2) := by decide +kernel
theorem dL_step_39 : decode cL_step 39 = .ok (.imul, 1) := by decide +kernel
theorem dL_step_40 : decode cL_step 40 = .ok (.iload 5, 2) := by decide +kernel
theorem dL_step_42 : decode cL_step 42 = .ok (.iadd, 1) := by decide +kernel
theorem dL_step_43 : decode cL_step 43 = .ok (.istore 8, 2) := by decide +kernel
theorem dL_step_45 : decode cL_step 45 = .ok (.aload_n 0, 1) := by decide +kernel
theorem dL_step_46 : decode cL_step 46 = .ok (.iload 8, 2) := by decide +kernel
theorem dL_step_48 : decode cL_step 48 = .ok (.iaload, 1) := by decide +kernel
theorem dL_step_49 : decode cL_step 49 = .ok (.iload_n 3, 1) := by decide +kernel
theorem dL_step_50 : decode cL_step 50 = .ok (.ishr, 1) := by decide +kernel
theorem dL_step_51 : decode cL_step 51 = .ok (.iconst 1, 1) := by decide +kernel
theorem dL_step_52 : decode cL_step 52 = .ok (.iand, 1) := by decide +kernel
theorem dL_step_53 : decode cL_step 53 = .ok (.iconst 1, 1) := by decide +kernel
theorem dL_step_54 : decode cL_step 54 = .ok (.if_icmp .ne 34, 3) := by decide +kernel
theorem dL_step_57 : decode cL_step 57 = .ok (.iload 6, 2) := by decide +kernel
theorem dL_step_59 : decode cL_step 59 = .ok (.ifCond .eq 15, 3) := by decide +kernel
theorem dL_step_62 : decode cL_step 62 = .ok (.aload_n 0, 1) := by decide +kernel
theorem dL_step_63 : decode cL_step 63 = .ok (.iload 8, 2) := by decide +kernel
theorem dL_step_65 : decode cL_step 65 = .ok (.iaload, 1) := by decide +kernel
theorem dL_step_66 : decode cL_step 66 = .ok (.sipush 2048, 3) := by decide +kernel
theorem dL_step_69 : decode cL_step 69 = .ok (.idiv, 1) := by decide +kernel
theorem dL_step_70 : decode cL_step 70 = .ok (.iconst 1, 1) := by decide +kernel
theorem dL_step_71 : decode cL_step 71 = .ok (.if_icmp .le 17, 3) := by decide +kernel
theorem dL_step_74 : decode cL_step 74 = .ok (.bipush 16, 2) := by decide +kernel
theorem dL_step_76 : decode cL_step 76 = .ok (.iload 4, 2) := by decide +kernel
theorem dL_step_78 : decode cL_step 78 = .ok (.imul, 1) := by decide +kernel
theorem dL_step_79 : decode cL_step 79 = .ok (.iconst 2, 1) := by decide +kernel
theorem dL_step_80 : decode cL_step 80 = .ok (.iload 5, 2) := by decide +kernel
theorem dL_step_82 : decode cL_step 82 = .ok (.imul, 1) := by decide +kernel
theorem dL_step_83 : decode cL_step 83 = .ok (.iadd, 1) := by decide +kernel
theorem dL_step_84 : decode cL_step 84 = .ok (.iconst 1, 1) := by decide +kernel
theorem dL_step_85 : decode cL_step 85 = .ok (.iadd, 1) := by decide +kernel
theorem dL_step_86 : decode cL_step 86 = .ok (.istore 7, 2) := by decide +kernel
theorem dL_step_88 : decode cL_step 88 = .ok (.aload_n 0, 1) := by decide +kernel
theorem dL_step_89 : decode cL_step 89 = .ok (.iload 8, 2) := by decide +kernel
theorem dL_step_91 : decode cL_step 91 = .ok (.iload 6, 2) := by decide +kernel
theorem dL_step_93 : decode cL_step 93 = .ok (.invokestatic 9, 3) := by decide +kernel
theorem dL_step_96 : decode cL_step 96 = .ok (.ifCond .eq 10, 3) := by decide +kernel
theorem dL_step_99 : decode cL_step 99 = .ok (.iload 5, 2) := by decide +kernel
theorem dL_step_101 : decode cL_step 101 = .ok (.iconst 1, 1) := by decide +kernel
theorem dL_step_102 : decode cL_step 102 = .ok (.iadd, 1) := by decide +kernel
theorem dL_step_103 : decode cL_step 103 = .ok (.goto 5, 3) := by decide +kernel
theorem dL_step_106 : decode cL_step 106 = .ok (.bipush 9, 2) := by decide +kernel
theorem dL_step_108 : decode cL_step 108 = .ok (.istore 5, 2) := by decide +kernel
theorem dL_step_110 : decode cL_step 110 = .ok (.iconst 0, 1) := by decide +kernel
theorem dL_step_111 : decode cL_step 111 = .ok (.istore 6, 2) := by decide +kernel
theorem dL_step_113 : decode cL_step 113 = .ok (.goto (-91), 3) := by decide +kernel
theorem dL_step_116 : decode cL_step 116 = .ok (.iload 7, 2) := by decide +kernel
theorem dL_step_118 : decode cL_step 118 = .ok (.ireturn, 1) := by decide +kernel
theorem dL_ends_0 : decode cL_ends 0 = .ok (.iload_n 2, 1) := by decide +kernel
theorem dL_ends_1 : decode cL_ends 1 = .ok (.iconst 2, 1) := by decide +kernel
theorem dL_ends_2 : decode cL_ends 2 = .ok (.irem, 1) := by decide +kernel
theorem dL_ends_3 : decode cL_ends 3 = .ok (.istore_n 3, 1) := by decide +kernel
theorem dL_ends_4 : decode cL_ends 4 = .ok (.iconst 1, 1) := by decide +kernel
theorem dL_ends_5 : decode cL_ends 5 = .ok (.istore 4, 2) := by decide +kernel
theorem dL_ends_7 : decode cL_ends 7 = .ok (.iload_n 2, 1) := by decide +kernel
theorem dL_ends_8 : decode cL_ends 8 = .ok (.iconst 2, 1) := by decide +kernel
theorem dL_ends_9 : decode cL_ends 9 = .ok (.idiv, 1) := by decide +kernel
theorem dL_ends_10 : decode cL_ends 10 = .ok (.bipush 8, 2) := by decide +kernel
theorem dL_ends_12 : decode cL_ends 12 = .ok (.irem, 1) := by decide +kernel
theorem dL_ends_13 : decode cL_ends 13 = .ok (.istore 5, 2) := by decide +kernel
theorem dL_ends_15 : decode cL_ends 15 = .ok (.iload 5, 2) := by decide +kernel
theorem dL_ends_17 : decode cL_ends 17 = .ok (.aload_n 1, 1) := by decide +kernel
theorem dL_ends_18 : decode cL_ends 18 = .ok (.iload_n 2, 1) := by decide +kernel
theorem dL_ends_19 : decode cL_ends 19 = .ok (.bipush 16, 2) := by decide +kernel
theorem dL_ends_21 : decode cL_ends 21 = .ok (.idiv, 1) := by decide +kernel
theorem dL_ends_22 : decode cL_ends 22 = .ok (.iaload, 1) := by decide +kernel
theorem dL_ends_23 : decode cL_ends 23 = .ok (.if_icmp .ge 40, 3) := by decide +kernel
theorem dL_ends_26 : decode cL_ends 26 = .ok (.iload 4, 2) := by decide +kernel
theorem dL_ends_28 : decode cL_ends 28 = .ok (.ifCond .eq 24, 3) := by decide +kernel
theorem dL_ends_31 : decode cL_ends 31 = .ok (.aload_n 0, 1) := by decide +kernel
theorem dL_ends_32 : decode cL_ends 32 = .ok (.iconst 4, 1) := by decide +kernel
theorem dL_ends_33 : decode cL_ends 33 = .ok (.iload_n 2, 1) := by decide +kernel
theorem dL_ends_34 : decode cL_ends 34 = .ok (.bipush 16, 2) := by decide +kernel
theorem dL_ends_36 : decode cL_ends 36 = .ok (.idiv, 1) := by decide +kernel
theorem dL_ends_37 : decode cL_ends 37 = .ok (.imul, 1) := by decide +kernel
theorem dL_ends_38 : decode cL_ends 38 = .ok (.iload 5, 2) := by decide +kernel
theorem dL_ends_40 : decode cL_ends 40 = .ok (.iadd, 1) := by decide +kernel
theorem dL_ends_41 : decode cL_ends 41 = .ok (.iload_n 3, 1) := by decide +kernel
theorem dL_ends_42 : decode cL_ends 42 = .ok (.invokestatic 9, 3) := by decide +kernel
theorem dL_ends_45 : decode cL_ends 45 = .ok (.ifCond .eq 7, 3) := by decide +kernel
theorem dL_ends_48 : decode cL_ends 48 = .ok (.iconst 1, 1) := by decide +kernel
theorem dL_ends_49 : decode cL_ends 49 = .ok (.goto 4, 3) := by decide +kernel
theorem dL_ends_52 : decode cL_ends 52 = .ok (.iconst 0, 1) := by decide +kernel
theorem dL_ends_53 : decode cL_ends 53 = .ok (.istore 4, 2) := by decide +kernel
theorem dL_ends_55 : decode cL_ends 55 = .ok (.iconst 0, 1) := by decide +kernel
theorem dL_ends_56 : decode cL_ends 56 = .ok (.istore_n 3, 1) := by decide +kernel
theorem dL_ends_57 : decode cL_ends 57 = .ok (.iinc 5 1, 3) := by decide +kernel
theorem dL_ends_60 : decode cL_ends 60 = .ok (.goto (-45), 3) := by decide +kernel
theorem dL_ends_63 : decode cL_ends 63 = .ok (.iload 4, 2) := by decide +kernel
theorem dL_ends_65 : decode cL_ends 65 = .ok (.ireturn, 1) := by decide +kernel
