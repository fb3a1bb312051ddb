theorem dX0_init_0 : decode cX0_init 0 = .ok (.aload_n 0, 1) := by decide +kernel
theorem dX0_init_1 : decode cX0_init 1 = .ok (.invokespecial 3, 3) := by decide +kernel
theorem dX0_init_4 : decode cX0_init 4 = .ok (.aload_n 0, 1) := by decide +kernel
theorem dX0_init_5 : decode cX0_init 5 = .ok (.bipush 10, 2) := by decide +kernel
theorem dX0_init_7 : decode cX0_init 7 = .ok (.anewarray 9, 3) := by decide +kernel
theorem dX0_init_10 : decode cX0_init 10 = .ok (.putfield 11, 3) := by decide +kernel
theorem dX0_init_13 : decode cX0_init 13 = .ok (.aload_n 0, 1) := by decide +kernel
theorem dX0_init_14 : decode cX0_init 14 = .ok (.bipush 10, 2) := by decide +kernel
theorem dX0_init_16 : decode cX0_init 16 = .ok (.newarray .int, 2) := by decide +kernel
theorem dX0_init_18 : decode cX0_init 18 = .ok (.putfield 17, 3) := by decide +kernel
theorem dX0_init_21 : decode cX0_init 21 = .ok (.aload_n 0, 1) := by decide +kernel
theorem dX0_init_22 : decode cX0_init 22 = .ok (.bipush 10, 2) := by decide +kernel
theorem dX0_init_24 : decode cX0_init 24 = .ok (.newarray .int, 2) := by decide +kernel
theorem dX0_init_26 : decode cX0_init 26 = .ok (.putfield 21, 3) := by decide +kernel
theorem dX0_init_29 : decode cX0_init 29 = .ok (.aload_n 0, 1) := by decide +kernel
theorem dX0_init_30 : decode cX0_init 30 = .ok (.bipush 10, 2) := by decide +kernel
theorem dX0_init_32 : decode cX0_init 32 = .ok (.newarray .boolean, 2) := by decide +kernel
theorem dX0_init_34 : decode cX0_init 34 = .ok (.putfield 24, 3) := by decide +kernel
theorem dX0_init_37 : decode cX0_init 37 = .ok (.aload_n 0, 1) := by decide +kernel
theorem dX0_init_38 : decode cX0_init 38 = .ok (.bipush 10, 2) := by decide +kernel
theorem dX0_init_40 : decode cX0_init 40 = .ok (.newarray .boolean, 2) := by decide +kernel
theorem dX0_init_42 : decode cX0_init 42 = .ok (.putfield 28, 3) := by decide +kernel
theorem dX0_init_45 : decode cX0_init 45 = .ok (.iconst 0, 1) := by decide +kernel
theorem dX0_init_46 : decode cX0_init 46 = .ok (.istore_n 1, 1) := by decide +kernel
theorem dX0_init_47 : decode cX0_init 47 = .ok (.iload_n 1, 1) := by decide +kernel
theorem dX0_init_48 : decode cX0_init 48 = .ok (.bipush 10, 2) := by decide +kernel
theorem dX0_init_50 : decode cX0_init 50 = .ok (.if_icmp .ge 22, 3) := by decide +kernel
theorem dX0_init_53 : decode cX0_init 53 = .ok (.aload_n 0, 1) := by decide +kernel
theorem dX0_init_54 : decode cX0_init 54 = .ok (.getfield 11, 3) := by decide +kernel
theorem dX0_init_57 : decode cX0_init 57 = .ok (.iload_n 1, 1) := by decide +kernel
theorem dX0_init_58 : decode cX0_init 58 = .ok (.new 9, 3) := by decide +kernel
theorem dX0_init_61 : decode cX0_init 61 = .ok (.dup, 1) := by decide +kernel
theorem dX0_init_62 : decode cX0_init 62 = .ok (.invokespecial 31, 3) := by decide +kernel
theorem dX0_init_65 : decode cX0_init 65 = .ok (.aastore, 1) := by decide +kernel
theorem dX0_init_66 : decode cX0_init 66 = .ok (.iinc 1 1, 3) := by decide +kernel
theorem dX0_init_69 : decode cX0_init 69 = .ok (.goto (-22), 3) := by decide +kernel
theorem dX0_init_72 : decode cX0_init 72 = .ok (.return_, 1) := by decide +kernel
theorem dX1_init_0 : decode cX1_init 0 = .ok (.aload_n 0, 1) := by decide +kernel
theorem dX1_init_1 : decode cX1_init 1 = .ok (.invokespecial 3, 3) := by decide +kernel
theorem dX1_init_4 : decode cX1_init 4 = .ok (.aload_n 0, 1) := by decide +kernel
theorem dX1_init_5 : decode cX1_init 5 = .ok (.bipush 6, 2) := by decide +kernel
theorem dX1_init_7 : decode cX1_init 7 = .ok (.newarray .int, 2) := by decide +kernel
theorem dX1_init_9 : decode cX1_init 9 = .ok (.putfield 9, 3) := by decide +kernel
theorem dX1_init_12 : decode cX1_init 12 = .ok (.aload_n 0, 1) := by decide +kernel
theorem dX1_init_13 : decode cX1_init 13 = .ok (.bipush 6, 2) := by decide +kernel
theorem dX1_init_15 : decode cX1_init 15 = .ok (.newarray .boolean, 2) := by decide +kernel
theorem dX1_init_17 : decode cX1_init 17 = .ok (.putfield 15, 3) := by decide +kernel
theorem dX1_init_20 : decode cX1_init 20 = .ok (.aload_n 0, 1) := by decide +kernel
theorem dX1_init_21 : decode cX1_init 21 = .ok (.bipush 6, 2) := by decide +kernel
theorem dX1_init_23 : decode cX1_init 23 = .ok (.newarray .boolean, 2) := by decide +kernel
theorem dX1_init_25 : decode cX1_init 25 = .ok (.putfield 19, 3) := by decide +kernel
theorem dX1_init_28 : decode cX1_init 28 = .ok (.aload_n 0, 1) := by decide +kernel
theorem dX1_init_29 : decode cX1_init 29 = .ok (.bipush 12, 2) := by decide +kernel
theorem dX1_init_31 : decode cX1_init 31 = .ok (.newarray .int, 2) := by decide +kernel
theorem dX1_init_33 : decode cX1_init 33 = .ok (.putfield 22, 3) := by decide +kernel
theorem dX1_init_36 : decode cX1_init 36 = .ok (.aload_n 0, 1) := by decide +kernel
theorem dX1_init_37 : decode cX1_init 37 = .ok (.bipush 12, 2) := by decide +kernel
theorem dX1_init_39 : decode cX1_init 39 = .ok (.newarray .boolean, 2) := by decide +kernel
theorem dX1_init_41 : decode cX1_init 41 = .ok (.putfield 25, 3) := by decide +kernel
theorem dX1_init_44 : decode cX1_init 44 = .ok (.return_, 1) := by decide +kernel
theorem dX1_addSlot_0 : decode cX1_addSlot 0 = .ok (.aload_n 0, 1) := by decide +kernel
theorem dX1_addSlot_1 : decode cX1_addSlot 1 = .ok (.getfield 28, 3) := by decide +kernel
theorem dX1_addSlot_4 : decode cX1_addSlot 4 = .ok (.bipush 6, 2) := by decide +kernel
theorem dX1_addSlot_6 : decode cX1_addSlot 6 = .ok (.if_icmp .ge 75, 3) := by decide +kernel
theorem dX1_addSlot_9 : decode cX1_addSlot 9 = .ok (.aload_n 0, 1) := by decide +kernel
theorem dX1_addSlot_10 : decode cX1_addSlot 10 = .ok (.getfield 9, 3) := by decide +kernel
theorem dX1_addSlot_13 : decode cX1_addSlot 13 = .ok (.aload_n 0, 1) := by decide +kernel
theorem dX1_addSlot_14 : decode cX1_addSlot 14 = .ok (.getfield 28, 3) := by decide +kernel
theorem dX1_addSlot_17 : decode cX1_addSlot 17 = .ok (.iload_n 1, 1) := by decide +kernel
theorem dX1_addSlot_18 : decode cX1_addSlot 18 = .ok (.iastore, 1) := by decide +kernel
theorem dX1_addSlot_19 : decode cX1_addSlot 19 = .ok (.aload_n 0, 1) := by decide +kernel
theorem dX1_addSlot_20 : decode cX1_addSlot 20 = .ok (.getfield 15, 3) := by decide +kernel
theorem dX1_addSlot_23 : decode cX1_addSlot 23 = .ok (.aload_n 0, 1) := by decide +kernel
theorem dX1_addSlot_24 : decode cX1_addSlot 24 = .ok (.getfield 28, 3) := by decide +kernel
theorem dX1_addSlot_27 : decode cX1_addSlot 27 = .ok (.iload_n 2, 1) := by decide +kernel
theorem dX1_addSlot_28 : decode cX1_addSlot 28 = .ok (.iconst 2, 1) := by decide +kernel
theorem dX1_addSlot_29 : decode cX1_addSlot 29 = .ok (.if_icmp .eq 8, 3) := by decide +kernel
theorem dX1_addSlot_32 : decode cX1_addSlot 32 = .ok (.iload_n 2, 1) := by decide +kernel
theorem dX1_addSlot_33 : decode cX1_addSlot 33 = .ok (.iconst 3, 1) := by decide +kernel
theorem dX1_addSlot_34 : decode cX1_addSlot 34 = .ok (.if_icmp .ne 7, 3) := by decide +kernel
theorem dX1_addSlot_37 : decode cX1_addSlot 37 = .ok (.iconst 1, 1) := by decide +kernel
theorem dX1_addSlot_38 : decode cX1_addSlot 38 = .ok (.goto 4, 3) := by decide +kernel
theorem dX1_addSlot_41 : decode cX1_addSlot 41 = .ok (.iconst 0, 1) := by decide +kernel
theorem dX1_addSlot_42 : decode cX1_addSlot 42 = .ok (.bastore, 1) := by decide +kernel
theorem dX1_addSlot_43 : decode cX1_addSlot 43 = .ok (.aload_n 0, 1) := by decide +kernel
theorem dX1_addSlot_44 : decode cX1_addSlot 44 = .ok (.getfield 19, 3) := by decide +kernel
theorem dX1_addSlot_47 : decode cX1_addSlot 47 = .ok (.aload_n 0, 1) := by decide +kernel
theorem dX1_addSlot_48 : decode cX1_addSlot 48 = .ok (.getfield 28, 3) := by decide +kernel
theorem dX1_addSlot_51 : decode cX1_addSlot 51 = .ok (.iload_n 2, 1) := by decide +kernel
theorem dX1_addSlot_52 : decode cX1_addSlot 52 = .ok (.iconst 1, 1) := by decide +kernel
theorem dX1_addSlot_53 : decode cX1_addSlot 53 = .ok (.if_icmp .eq 8, 3) := by decide +kernel
theorem dX1_addSlot_56 : decode cX1_addSlot 56 = .ok (.iload_n 2, 1) := by decide +kernel
theorem dX1_addSlot_57 : decode cX1_addSlot 57 = .ok (.iconst 2, 1) := by decide +kernel
theorem dX1_addSlot_58 : decode cX1_addSlot 58 = .ok (.if_icmp .ne 7, 3) := by decide +kernel
theorem dX1_addSlot_61 : decode cX1_addSlot 61 = .ok (.iconst 1, 1) := by decide +kernel
theorem dX1_addSlot_62 : decode cX1_addSlot 62 = .ok (.goto 4, 3) := by decide +kernel
theorem dX1_addSlot_65 : decode cX1_addSlot 65 = .ok (.iconst 0, 1) := by decide +kernel
theorem dX1_addSlot_66 : decode cX1_addSlot 66 = .ok (.bastore, 1) := by decide +kernel
theorem dX1_addSlot_67 : decode cX1_addSlot 67 = .ok (.aload_n 0, 1) := by decide +kernel
theorem dX1_addSlot_68 : decode cX1_addSlot 68 = .ok (.dup, 1) := by decide +kernel
theorem dX1_addSlot_69 : decode cX1_addSlot 69 = .ok (.getfield 28, 3) := by decide +kernel
theorem dX1_addSlot_72 : decode cX1_addSlot 72 = .ok (.iconst 1, 1) := by decide +kernel
theorem dX1_addSlot_73 : decode cX1_addSlot 73 = .ok (.iadd, 1) := by decide +kernel
theorem dX1_addSlot_74 : decode cX1_addSlot 74 = .ok (.putfield 28, 3) := by decide +kernel
theorem dX1_addSlot_77 : decode cX1_addSlot 77 = .ok (.aload_n 0, 1) := by decide +kernel
theorem dX1_addSlot_78 : decode cX1_addSlot 78 = .ok (.invokevirtual 32, 3) := by decide +kernel
theorem dX1_addSlot_81 : decode cX1_addSlot 81 = .ok (.return_, 1) := by decide +kernel
theorem dX1_dropLastSlot_0 : decode cX1_dropLastSlot 0 = .ok (.aload_n 0, 1) := by decide +kernel
theorem dX1_dropLastSlot_1 : decode cX1_dropLastSlot 1 = .ok (.getfield 28, 3) := by decide +kernel
theorem dX1_dropLastSlot_4 : decode cX1_dropLastSlot 4 = .ok (.ifCond .le 17, 3) := by decide +kernel
theorem dX1_dropLastSlot_7 : decode cX1_dropLastSlot 7 = .ok (.aload_n 0, 1) := by decide +kernel
theorem dX1_dropLastSlot_8 : decode cX1_dropLastSlot 8 = .ok (.dup, 1) := by decide +kernel
theorem dX1_dropLastSlot_9 : decode cX1_dropLastSlot 9 = .ok (.getfield 28, 3) := by decide +kernel
theorem dX1_dropLastSlot_12 : decode cX1_dropLastSlot 12 = .ok (.iconst 1, 1) := by decide +kernel
theorem dX1_dropLastSlot_13 : decode cX1_dropLastSlot 13 = .ok (.isub, 1) := by decide +kernel
theorem dX1_dropLastSlot_14 : decode cX1_dropLastSlot 14 = .ok (.putfield 28, 3) := by decide +kernel
theorem dX1_dropLastSlot_17 : decode cX1_dropLastSlot 17 = .ok (.aload_n 0, 1) := by decide +kernel
theorem dX1_dropLastSlot_18 : decode cX1_dropLastSlot 18 = .ok (.invokevirtual 32, 3) := by decide +kernel
theorem dX1_dropLastSlot_21 : decode cX1_dropLastSlot 21 = .ok (.return_, 1) := by decide +kernel
theorem dX1_dropSlots_0 : decode cX1_dropSlots 0 = .ok (.aload_n 0, 1) := by decide +kernel
theorem dX1_dropSlots_1 : decode cX1_dropSlots 1 = .ok (.iconst 0, 1) := by decide +kernel
theorem dX1_dropSlots_2 : decode cX1_dropSlots 2 = .ok (.putfield 28, 3) := by decide +kernel
theorem dX1_dropSlots_5 : decode cX1_dropSlots 5 = .ok (.aload_n 0, 1) := by decide +kernel
theorem dX1_dropSlots_6 : decode cX1_dropSlots 6 = .ok (.iconst 0, 1) := by decide +kernel
theorem dX1_dropSlots_7 : decode cX1_dropSlots 7 = .ok (.putfield 35, 3) := by decide +kernel
theorem dX1_dropSlots_10 : decode cX1_dropSlots 10 = .ok (.return_, 1) := by decide +kernel
theorem dX1_slotFor_0 : decode cX1_slotFor 0 = .ok (.iload_n 1, 1) := by decide +kernel
theorem dX1_slotFor_1 : decode cX1_slotFor 1 = .ok (.ifCond .lt 22, 3) := by decide +kernel
theorem dX1_slotFor_4 : decode cX1_slotFor 4 = .ok (.iload_n 1, 1) := by decide +kernel
theorem dX1_slotFor_5 : decode cX1_slotFor 5 = .ok (.bipush 12, 2) := by decide +kernel
theorem dX1_slotFor_7 : decode cX1_slotFor 7 = .ok (.if_icmp .ge 16, 3) := by decide +kernel
theorem dX1_slotFor_10 : decode cX1_slotFor 10 = .ok (.aload_n 0, 1) := by decide +kernel
theorem dX1_slotFor_11 : decode cX1_slotFor 11 = .ok (.getfield 22, 3) := by decide +kernel
theorem dX1_slotFor_14 : decode cX1_slotFor 14 = .ok (.iload_n 1, 1) := by decide +kernel
theorem dX1_slotFor_15 : decode cX1_slotFor 15 = .ok (.iaload, 1) := by decide +kernel
theorem dX1_slotFor_16 : decode cX1_slotFor 16 = .ok (.iload_n 2, 1) := by decide +kernel
theorem dX1_slotFor_17 : decode cX1_slotFor 17 = .ok (.ishr, 1) := by decide +kernel
theorem dX1_slotFor_18 : decode cX1_slotFor 18 = .ok (.iconst 1, 1) := by decide +kernel
theorem dX1_slotFor_19 : decode cX1_slotFor 19 = .ok (.iand, 1) := by decide +kernel
theorem dX1_slotFor_20 : decode cX1_slotFor 20 = .ok (.ifCond .ne 5, 3) := by decide +kernel
theorem dX1_slotFor_23 : decode cX1_slotFor 23 = .ok (.iconst (-1), 1) := by decide +kernel
theorem dX1_slotFor_24 : decode cX1_slotFor 24 = .ok (.ireturn, 1) := by decide +kernel
theorem dX1_slotFor_25 : decode cX1_slotFor 25 = .ok (.iload_n 1, 1) := by decide +kernel
theorem dX1_slotFor_26 : decode cX1_slotFor 26 = .ok (.iconst 2, 1) := by decide +kernel
theorem dX1_slotFor_27 : decode cX1_slotFor 27 = .ok (.idiv, 1) := by decide +kernel
theorem dX1_slotFor_28 : decode cX1_slotFor 28 = .ok (.istore_n 3, 1) := by decide +kernel
theorem dX1_slotFor_29 : decode cX1_slotFor 29 = .ok (.iload_n 3, 1) := by decide +kernel
theorem dX1_slotFor_30 : decode cX1_slotFor 30 = .ok (.aload_n 0, 1) := by decide +kernel
theorem dX1_slotFor_31 : decode cX1_slotFor 31 = .ok (.getfield 28, 3) := by decide +kernel
theorem dX1_slotFor_34 : decode cX1_slotFor 34 = .ok (.if_icmp .ge 60, 3) := by decide +kernel
theorem dX1_slotFor_37 : decode cX1_slotFor 37 = .ok (.iload_n 3, 1) := by decide +kernel
theorem dX1_slotFor_38 : decode cX1_slotFor 38 = .ok (.iload_n 1, 1) := by decide +kernel
theorem dX1_slotFor_39 : decode cX1_slotFor 39 = .ok (.iconst 2, 1) := by decide +kernel
theorem dX1_slotFor_40 : decode cX1_slotFor 40 = .ok (.idiv, 1) := by decide +kernel
theorem dX1_slotFor_41 : decode cX1_slotFor 41 = .ok (.if_icmp .ne 14, 3) := by decide +kernel
theorem dX1_slotFor_44 : decode cX1_slotFor 44 = .ok (.iload_n 1, 1) := by decide +kernel
theorem dX1_slotFor_45 : decode cX1_slotFor 45 = .ok (.iconst 2, 1) := by decide +kernel
theorem dX1_slotFor_46 : decode cX1_slotFor 46 = .ok (.irem, 1) := by decide +kernel
theorem dX1_slotFor_47 : decode cX1_slotFor 47 = .ok (.iconst 1, 1) := by decide +kernel
theorem dX1_slotFor_48 : decode cX1_slotFor 48 = .ok (.if_icmp .ne 7, 3) := by decide +kernel
theorem dX1_slotFor_51 : decode cX1_slotFor 51 = .ok (.iconst 1, 1) := by decide +kernel
theorem dX1_slotFor_52 : decode cX1_slotFor 52 = .ok (.goto 4, 3) := by decide +kernel
theorem dX1_slotFor_55 : decode cX1_slotFor 55 = .ok (.iconst 0, 1) := by decide +kernel
theorem dX1_slotFor_56 : decode cX1_slotFor 56 = .ok (.istore 4, 2) := by decide +kernel
theorem dX1_slotFor_58 : decode cX1_slotFor 58 = .ok (.aload_n 0, 1) := by decide +kernel
theorem dX1_slotFor_59 : decode cX1_slotFor 59 = .ok (.getfield 9, 3) := by decide +kernel
theorem dX1_slotFor_62 : decode cX1_slotFor 62 = .ok (.iload_n 3, 1) := by decide +kernel
theorem dX1_slotFor_63 : decode cX1_slotFor 63 = .ok (.iaload, 1) := by decide +kernel
theorem dX1_slotFor_64 : decode cX1_slotFor 64 = .ok (.iload_n 2, 1) := by decide +kernel
theorem dX1_slotFor_65 : decode cX1_slotFor 65 = .ok (.ishr, 1) := by decide +kernel
theorem dX1_slotFor_66 : decode cX1_slotFor 66 = .ok (.iconst 1, 1) := by decide +kernel
theorem dX1_slotFor_67 : decode cX1_slotFor 67 = .ok (.iand, 1) := by decide +kernel
theorem dX1_slotFor_68 : decode cX1_slotFor 68 = .ok (.iconst 1, 1) := by decide +kernel
theorem dX1_slotFor_69 : decode cX1_slotFor 69 = .ok (.if_icmp .ne 19, 3) := by decide +kernel
theorem dX1_slotFor_72 : decode cX1_slotFor 72 = .ok (.iload 4, 2) := by decide +kernel
theorem dX1_slotFor_74 : decode cX1_slotFor 74 = .ok (.ifCond .eq 12, 3) := by decide +kernel
theorem dX1_slotFor_77 : decode cX1_slotFor 77 = .ok (.aload_n 0, 1) := by decide +kernel
theorem dX1_slotFor_78 : decode cX1_slotFor 78 = .ok (.getfield 15, 3) := by decide +kernel
theorem dX1_slotFor_81 : decode cX1_slotFor 81 = .ok (.iload_n 3, 1) := by decide +kernel
theorem dX1_slotFor_82 : decode cX1_slotFor 82 = .ok (.baload, 1) := by decide +kernel
theorem dX1_slotFor_83 : decode cX1_slotFor 83 = .ok (.ifCond .eq 5, 3) := by decide +kernel
theorem dX1_slotFor_86 : decode cX1_slotFor 86 = .ok (.iload_n 3, 1) := by decide +kernel
theorem dX1_slotFor_87 : decode cX1_slotFor 87 = .ok (.ireturn, 1) := by decide +kernel
theorem dX1_slotFor_88 : decode cX1_slotFor 88 = .ok (.iinc 3 1, 3) := by decide +kernel
theorem dX1_slotFor_91 : decode cX1_slotFor 91 = .ok (.goto (-62), 3) := by decide +kernel
theorem dX1_slotFor_94 : decode cX1_slotFor 94 = .ok (.iconst (-1), 1) := by decide +kernel
theorem dX1_slotFor_95 : decode cX1_slotFor 95 = .ok (.ireturn, 1) := by decide +kernel
theorem dX1_workOut_0 : decode cX1_workOut 0 = .ok (.aload_n 0, 1) := by decide +kernel
theorem dX1_workOut_1 : decode cX1_workOut 1 = .ok (.iconst 0, 1) := by decide +kernel
theorem dX1_workOut_2 : decode cX1_workOut 2 = .ok (.putfield 35, 3) := by decide +kernel
theorem dX1_workOut_5 : decode cX1_workOut 5 = .ok (.iconst 0, 1) := by decide +kernel
theorem dX1_workOut_6 : decode cX1_workOut 6 = .ok (.istore_n 1, 1) := by decide +kernel
theorem dX1_workOut_7 : decode cX1_workOut 7 = .ok (.iload_n 1, 1) := by decide +kernel
theorem dX1_workOut_8 : decode cX1_workOut 8 = .ok (.iconst 2, 1) := by decide +kernel
theorem dX1_workOut_9 : decode cX1_workOut 9 = .ok (.aload_n 0, 1) := by decide +kernel
theorem dX1_workOut_10 : decode cX1_workOut 10 = .ok (.getfield 28, 3) := by decide +kernel
theorem dX1_workOut_13 : decode cX1_workOut 13 = .ok (.imul, 1) := by decide +kernel
theorem dX1_workOut_14 : decode cX1_workOut 14 = .ok (.if_icmp .ge 20, 3) := by decide +kernel
theorem dX1_workOut_17 : decode cX1_workOut 17 = .ok (.iload_n 1, 1) := by decide +kernel
theorem dX1_workOut_18 : decode cX1_workOut 18 = .ok (.bipush 12, 2) := by decide +kernel
theorem dX1_workOut_20 : decode cX1_workOut 20 = .ok (.if_icmp .ge 14, 3) := by decide +kernel
theorem dX1_workOut_23 : decode cX1_workOut 23 = .ok (.aload_n 0, 1) := by decide +kernel
theorem dX1_workOut_24 : decode cX1_workOut 24 = .ok (.iload_n 1, 1) := by decide +kernel
theorem dX1_workOut_25 : decode cX1_workOut 25 = .ok (.invokevirtual 38, 3) := by decide +kernel
theorem dX1_workOut_28 : decode cX1_workOut 28 = .ok (.iinc 1 1, 3) := by decide +kernel
theorem dX1_workOut_31 : decode cX1_workOut 31 = .ok (.goto (-24), 3) := by decide +kernel
theorem dX1_workOut_34 : decode cX1_workOut 34 = .ok (.return_, 1) := by decide +kernel
theorem dX1_workOutReach_0 : decode cX1_workOutReach 0 = .ok (.iconst 0, 1) := by decide +kernel
theorem dX1_workOutReach_1 : decode cX1_workOutReach 1 = .ok (.istore_n 2, 1) := by decide +kernel
theorem dX1_workOutReach_2 : decode cX1_workOutReach 2 = .ok (.iload_n 1, 1) := by decide +kernel
theorem dX1_workOutReach_3 : decode cX1_workOutReach 3 = .ok (.iconst 2, 1) := by decide +kernel
theorem dX1_workOutReach_4 : decode cX1_workOutReach 4 = .ok (.irem, 1) := by decide +kernel
theorem dX1_workOutReach_5 : decode cX1_workOutReach 5 = .ok (.iconst 1, 1) := by decide +kernel
theorem dX1_workOutReach_6 : decode cX1_workOutReach 6 = .ok (.if_icmp .ne 7, 3) := by decide +kernel
theorem dX1_workOutReach_9 : decode cX1_workOutReach 9 = .ok (.iconst 1, 1) := by decide +kernel
theorem dX1_workOutReach_10 : decode cX1_workOutReach 10 = .ok (.goto 4, 3) := by decide +kernel
theorem dX1_workOutReach_13 : decode cX1_workOutReach 13 = .ok (.iconst 0, 1) := by decide +kernel
theorem dX1_workOutReach_14 : decode cX1_workOutReach 14 = .ok (.istore_n 3, 1) := by decide +kernel
theorem dX1_workOutReach_15 : decode cX1_workOutReach 15 = .ok (.iconst 1, 1) := by decide +kernel
theorem dX1_workOutReach_16 : decode cX1_workOutReach 16 = .ok (.istore 4, 2) := by decide +kernel
theorem dX1_workOutReach_18 : decode cX1_workOutReach 18 = .ok (.iload_n 1, 1) := by decide +kernel
theorem dX1_workOutReach_19 : decode cX1_workOutReach 19 = .ok (.iconst 2, 1) := by decide +kernel
theorem dX1_workOutReach_20 : decode cX1_workOutReach 20 = .ok (.idiv, 1) := by decide +kernel
theorem dX1_workOutReach_21 : decode cX1_workOutReach 21 = .ok (.istore 5, 2) := by decide +kernel
theorem dX1_workOutReach_23 : decode cX1_workOutReach 23 = .ok (.iload 5, 2) := by decide +kernel
theorem dX1_workOutReach_25 : decode cX1_workOutReach 25 = .ok (.aload_n 0, 1) := by decide +kernel
theorem dX1_workOutReach_26 : decode cX1_workOutReach 26 = .ok (.getfield 28, 3) := by decide +kernel
theorem dX1_workOutReach_29 : decode cX1_workOutReach 29 = .ok (.if_icmp .ge 82, 3) := by decide +kernel
theorem dX1_workOutReach_32 : decode cX1_workOutReach 32 = .ok (.iload 4, 2) := by decide +kernel
theorem dX1_workOutReach_34 : decode cX1_workOutReach 34 = .ok (.ifCond .eq 77, 3) := by decide +kernel
theorem dX1_workOutReach_37 : decode cX1_workOutReach 37 = .ok (.iload_n 3, 1) := by decide +kernel
theorem dX1_workOutReach_38 : decode cX1_workOutReach 38 = .ok (.ifCond .eq 13, 3) := by decide +kernel
theorem dX1_workOutReach_41 : decode cX1_workOutReach 41 = .ok (.aload_n 0, 1) := by decide +kernel
theorem dX1_workOutReach_42 : decode cX1_workOutReach 42 = .ok (.getfield 15, 3) := by decide +kernel
theorem dX1_workOutReach_45 : decode cX1_workOutReach 45 = .ok (.iload 5, 2) := by decide +kernel
theorem dX1_workOutReach_47 : decode cX1_workOutReach 47 = .ok (.baload, 1) := by decide +kernel
theorem dX1_workOutReach_48 : decode cX1_workOutReach 48 = .ok (.ifCond .eq 13, 3) := by decide +kernel
theorem dX1_workOutReach_51 : decode cX1_workOutReach 51 = .ok (.aload_n 0, 1) := by decide +kernel
theorem dX1_workOutReach_52 : decode cX1_workOutReach 52 = .ok (.getfield 9, 3) := by decide +kernel
theorem dX1_workOutReach_55 : decode cX1_workOutReach 55 = .ok (.iload 5, 2) := by decide +kernel
theorem dX1_workOutReach_57 : decode cX1_workOutReach 57 = .ok (.iaload, 1) := by decide +kernel
theorem dX1_workOutReach_58 : decode cX1_workOutReach 58 = .ok (.goto 4, 3) := by decide +kernel
theorem dX1_workOutReach_61 : decode cX1_workOutReach 61 = .ok (.iconst 0, 1) := by decide +kernel
theorem dX1_workOutReach_62 : decode cX1_workOutReach 62 = .ok (.istore 6, 2) := by decide +kernel
theorem dX1_workOutReach_64 : decode cX1_workOutReach 64 = .ok (.aload_n 0, 1) := by decide +kernel
theorem dX1_workOutReach_65 : decode cX1_workOutReach 65 = .ok (.dup, 1) := by decide +kernel
theorem dX1_workOutReach_66 : decode cX1_workOutReach 66 = .ok (.getfield 35, 3) := by decide +kernel
theorem dX1_workOutReach_69 : decode cX1_workOutReach 69 = .ok (.iload_n 2, 1) := by decide +kernel
theorem dX1_workOutReach_70 : decode cX1_workOutReach 70 = .ok (.iload 6, 2) := by decide +kernel
theorem dX1_workOutReach_72 : decode cX1_workOutReach 72 = .ok (.iand, 1) := by decide +kernel
theorem dX1_workOutReach_73 : decode cX1_workOutReach 73 = .ok (.ior, 1) := by decide +kernel
theorem dX1_workOutReach_74 : decode cX1_workOutReach 74 = .ok (.putfield 35, 3) := by decide +kernel
theorem dX1_workOutReach_77 : decode cX1_workOutReach 77 = .ok (.iload_n 2, 1) := by decide +kernel
theorem dX1_workOutReach_78 : decode cX1_workOutReach 78 = .ok (.iload 6, 2) := by decide +kernel
theorem dX1_workOutReach_80 : decode cX1_workOutReach 80 = .ok (.ior, 1) := by decide +kernel
theorem dX1_workOutReach_81 : decode cX1_workOutReach 81 = .ok (.istore_n 2, 1) := by decide +kernel
theorem dX1_workOutReach_82 : decode cX1_workOutReach 82 = .ok (.iload_n 3, 1) := by decide +kernel
theorem dX1_workOutReach_83 : decode cX1_workOutReach 83 = .ok (.ifCond .ne 13, 3) := by decide +kernel
theorem dX1_workOutReach_86 : decode cX1_workOutReach 86 = .ok (.aload_n 0, 1) := by decide +kernel
theorem dX1_workOutReach_87 : decode cX1_workOutReach 87 = .ok (.getfield 19, 3) := by decide +kernel
theorem dX1_workOutReach_90 : decode cX1_workOutReach 90 = .ok (.iload 5, 2) := by decide +kernel
theorem dX1_workOutReach_92 : decode cX1_workOutReach 92 = .ok (.baload, 1) := by decide +kernel
theorem dX1_workOutReach_93 : decode cX1_workOutReach 93 = .ok (.ifCond .eq 7, 3) := by decide +kernel
theorem dX1_workOutReach_96 : decode cX1_workOutReach 96 = .ok (.iconst 1, 1) := by decide +kernel
theorem dX1_workOutReach_97 : decode cX1_workOutReach 97 = .ok (.goto 4, 3) := by decide +kernel
theorem dX1_workOutReach_100 : decode cX1_workOutReach 100 = .ok (.iconst 0, 1) := by decide +kernel
theorem dX1_workOutReach_101 : decode cX1_workOutReach 101 = .ok (.istore 4, 2) := by decide +kernel
theorem dX1_workOutReach_103 : decode cX1_workOutReach 103 = .ok (.iconst 0, 1) := by decide +kernel
theorem dX1_workOutReach_104 : decode cX1_workOutReach 104 = .ok (.istore_n 3, 1) := by decide +kernel
theorem dX1_workOutReach_105 : decode cX1_workOutReach 105 = .ok (.iinc 5 1, 3) := by decide +kernel
theorem dX1_workOutReach_108 : decode cX1_workOutReach 108 = .ok (.goto (-85), 3) := by decide +kernel
theorem dX1_workOutReach_111 : decode cX1_workOutReach 111 = .ok (.aload_n 0, 1) := by decide +kernel
theorem dX1_workOutReach_112 : decode cX1_workOutReach 112 = .ok (.getfield 22, 3) := by decide +kernel
theorem dX1_workOutReach_115 : decode cX1_workOutReach 115 = .ok (.iload_n 1, 1) := by decide +kernel
theorem dX1_workOutReach_116 : decode cX1_workOutReach 116 = .ok (.iload_n 2, 1) := by decide +kernel
theorem dX1_workOutReach_117 : decode cX1_workOutReach 117 = .ok (.iastore, 1) := by decide +kernel
theorem dX1_workOutReach_118 : decode cX1_workOutReach 118 = .ok (.aload_n 0, 1) := by decide +kernel
theorem dX1_workOutReach_119 : decode cX1_workOutReach 119 = .ok (.getfield 25, 3) := by decide +kernel
theorem dX1_workOutReach_122 : decode cX1_workOutReach 122 = .ok (.iload_n 1, 1) := by decide +kernel
theorem dX1_workOutReach_123 : decode cX1_workOutReach 123 = .ok (.iload 4, 2) := by decide +kernel
theorem dX1_workOutReach_125 : decode cX1_workOutReach 125 = .ok (.bastore, 1) := by decide +kernel
theorem dX1_workOutReach_126 : decode cX1_workOutReach 126 = .ok (.return_, 1) := by decide +kernel
theorem dX2_init_0 : decode cX2_init 0 = .ok (.aload_n 0, 1) := by decide +kernel
theorem dX2_init_1 : decode cX2_init 1 = .ok (.invokespecial 3, 3) := by decide +kernel
theorem dX2_init_4 : decode cX2_init 4 = .ok (.aload_n 0, 1) := by decide +kernel
theorem dX2_init_5 : decode cX2_init 5 = .ok (.new 9, 3) := by decide +kernel
theorem dX2_init_8 : decode cX2_init 8 = .ok (.dup, 1) := by decide +kernel
theorem dX2_init_9 : decode cX2_init 9 = .ok (.invokespecial 11, 3) := by decide +kernel
theorem dX2_init_12 : decode cX2_init 12 = .ok (.putfield 12, 3) := by decide +kernel
theorem dX2_init_15 : decode cX2_init 15 = .ok (.aload_n 0, 1) := by decide +kernel
theorem dX2_init_16 : decode cX2_init 16 = .ok (.new 18, 3) := by decide +kernel
theorem dX2_init_19 : decode cX2_init 19 = .ok (.dup, 1) := by decide +kernel
theorem dX2_init_20 : decode cX2_init 20 = .ok (.sipush 600, 3) := by decide +kernel
theorem dX2_init_23 : decode cX2_init 23 = .ok (.invokespecial 20, 3) := by decide +kernel
theorem dX2_init_26 : decode cX2_init 26 = .ok (.putfield 23, 3) := by decide +kernel
theorem dX2_init_29 : decode cX2_init 29 = .ok (.aload_n 0, 1) := by decide +kernel
theorem dX2_init_30 : decode cX2_init 30 = .ok (.sipush 4920, 3) := by decide +kernel
theorem dX2_init_33 : decode cX2_init 33 = .ok (.newarray .int, 2) := by decide +kernel
theorem dX2_init_35 : decode cX2_init 35 = .ok (.putfield 27, 3) := by decide +kernel
theorem dX2_init_38 : decode cX2_init 38 = .ok (.aload_n 0, 1) := by decide +kernel
theorem dX2_init_39 : decode cX2_init 39 = .ok (.sipush 4920, 3) := by decide +kernel
theorem dX2_init_42 : decode cX2_init 42 = .ok (.newarray .int, 2) := by decide +kernel
theorem dX2_init_44 : decode cX2_init 44 = .ok (.putfield 31, 3) := by decide +kernel
theorem dX2_init_47 : decode cX2_init 47 = .ok (.aload_n 0, 1) := by decide +kernel
theorem dX2_init_48 : decode cX2_init 48 = .ok (.bipush 20, 2) := by decide +kernel
theorem dX2_init_50 : decode cX2_init 50 = .ok (.newarray .int, 2) := by decide +kernel
theorem dX2_init_52 : decode cX2_init 52 = .ok (.putfield 34, 3) := by decide +kernel
theorem dX2_init_55 : decode cX2_init 55 = .ok (.aload_n 0, 1) := by decide +kernel
theorem dX2_init_56 : decode cX2_init 56 = .ok (.bipush 61, 2) := by decide +kernel
theorem dX2_init_58 : decode cX2_init 58 = .ok (.anewarray 37, 3) := by decide +kernel
theorem dX2_init_61 : decode cX2_init 61 = .ok (.putfield 39, 3) := by decide +kernel
theorem dX2_init_64 : decode cX2_init 64 = .ok (.aload_n 0, 1) := by decide +kernel
theorem dX2_init_65 : decode cX2_init 65 = .ok (.bipush 61, 2) := by decide +kernel
theorem dX2_init_67 : decode cX2_init 67 = .ok (.anewarray 37, 3) := by decide +kernel
theorem dX2_init_70 : decode cX2_init 70 = .ok (.putfield 43, 3) := by decide +kernel
theorem dX2_init_73 : decode cX2_init 73 = .ok (.aload_n 0, 1) := by decide +kernel
theorem dX2_init_74 : decode cX2_init 74 = .ok (.iconst 2, 1) := by decide +kernel
theorem dX2_init_75 : decode cX2_init 75 = .ok (.newarray .int, 2) := by decide +kernel
theorem dX2_init_77 : decode cX2_init 77 = .ok (.putfield 46, 3) := by decide +kernel
theorem dX2_init_80 : decode cX2_init 80 = .ok (.aload_n 0, 1) := by decide +kernel
theorem dX2_init_81 : decode cX2_init 81 = .ok (.aload_n 1, 1) := by decide +kernel
theorem dX2_init_82 : decode cX2_init 82 = .ok (.putfield 49, 3) := by decide +kernel
theorem dX2_init_85 : decode cX2_init 85 = .ok (.aload_n 0, 1) := by decide +kernel
theorem dX2_init_86 : decode cX2_init 86 = .ok (.aload_n 2, 1) := by decide +kernel
theorem dX2_init_87 : decode cX2_init 87 = .ok (.putfield 53, 3) := by decide +kernel
theorem dX2_init_90 : decode cX2_init 90 = .ok (.aload_n 0, 1) := by decide +kernel
theorem dX2_init_91 : decode cX2_init 91 = .ok (.aload_n 3, 1) := by decide +kernel
theorem dX2_init_92 : decode cX2_init 92 = .ok (.putfield 56, 3) := by decide +kernel
theorem dX2_init_95 : decode cX2_init 95 = .ok (.aload_n 0, 1) := by decide +kernel
theorem dX2_init_96 : decode cX2_init 96 = .ok (.aload 4, 2) := by decide +kernel
theorem dX2_init_98 : decode cX2_init 98 = .ok (.putfield 60, 3) := by decide +kernel
theorem dX2_init_101 : decode cX2_init 101 = .ok (.aload_n 0, 1) := by decide +kernel
theorem dX2_init_102 : decode cX2_init 102 = .ok (.new 37, 3) := by decide +kernel
theorem dX2_init_105 : decode cX2_init 105 = .ok (.dup, 1) := by decide +kernel
theorem dX2_init_106 : decode cX2_init 106 = .ok (.aload_n 1, 1) := by decide +kernel
theorem dX2_init_107 : decode cX2_init 107 = .ok (.invokespecial 63, 3) := by decide +kernel
theorem dX2_init_110 : decode cX2_init 110 = .ok (.putfield 66, 3) := by decide +kernel
theorem dX2_init_113 : decode cX2_init 113 = .ok (.iconst 0, 1) := by decide +kernel
theorem dX2_init_114 : decode cX2_init 114 = .ok (.istore 5, 2) := by decide +kernel
theorem dX2_init_116 : decode cX2_init 116 = .ok (.iload 5, 2) := by decide +kernel
theorem dX2_init_118 : decode cX2_init 118 = .ok (.bipush 60, 2) := by decide +kernel
theorem dX2_init_120 : decode cX2_init 120 = .ok (.if_icmp .gt 39, 3) := by decide +kernel
theorem dX2_init_123 : decode cX2_init 123 = .ok (.aload_n 0, 1) := by decide +kernel
theorem dX2_init_124 : decode cX2_init 124 = .ok (.getfield 39, 3) := by decide +kernel
theorem dX2_init_127 : decode cX2_init 127 = .ok (.iload 5, 2) := by decide +kernel
theorem dX2_init_129 : decode cX2_init 129 = .ok (.new 37, 3) := by decide +kernel
theorem dX2_init_132 : decode cX2_init 132 = .ok (.dup, 1) := by decide +kernel
theorem dX2_init_133 : decode cX2_init 133 = .ok (.aload_n 1, 1) := by decide +kernel
theorem dX2_init_134 : decode cX2_init 134 = .ok (.invokespecial 63, 3) := by decide +kernel
theorem dX2_init_137 : decode cX2_init 137 = .ok (.aastore, 1) := by decide +kernel
theorem dX2_init_138 : decode cX2_init 138 = .ok (.aload_n 0, 1) := by decide +kernel
theorem dX2_init_139 : decode cX2_init 139 = .ok (.getfield 43, 3) := by decide +kernel
theorem dX2_init_142 : decode cX2_init 142 = .ok (.iload 5, 2) := by decide +kernel
theorem dX2_init_144 : decode cX2_init 144 = .ok (.new 37, 3) := by decide +kernel
theorem dX2_init_147 : decode cX2_init 147 = .ok (.dup, 1) := by decide +kernel
theorem dX2_init_148 : decode cX2_init 148 = .ok (.aload_n 1, 1) := by decide +kernel
theorem dX2_init_149 : decode cX2_init 149 = .ok (.invokespecial 63, 3) := by decide +kernel
theorem dX2_init_152 : decode cX2_init 152 = .ok (.aastore, 1) := by decide +kernel
theorem dX2_init_153 : decode cX2_init 153 = .ok (.iinc 5 1, 3) := by decide +kernel
theorem dX2_init_156 : decode cX2_init 156 = .ok (.goto (-40), 3) := by decide +kernel
theorem dX2_init_159 : decode cX2_init 159 = .ok (.return_, 1) := by decide +kernel
theorem dX2_readText_0 : decode cX2_readText 0 = .ok (.aload_n 0, 1) := by decide +kernel
theorem dX2_readText_1 : decode cX2_readText 1 = .ok (.aload_n 0, 1) := by decide +kernel
theorem dX2_readText_2 : decode cX2_readText 2 = .ok (.getfield 53, 3) := by decide +kernel
theorem dX2_readText_5 : decode cX2_readText 5 = .ok (.getfield 70, 3) := by decide +kernel
theorem dX2_readText_8 : decode cX2_readText 8 = .ok (.putfield 74, 3) := by decide +kernel
theorem dX2_readText_11 : decode cX2_readText 11 = .ok (.aload_n 0, 1) := by decide +kernel
theorem dX2_readText_12 : decode cX2_readText 12 = .ok (.getfield 43, 3) := by decide +kernel
theorem dX2_readText_15 : decode cX2_readText 15 = .ok (.astore_n 1, 1) := by decide +kernel
theorem dX2_readText_16 : decode cX2_readText 16 = .ok (.aload_n 0, 1) := by decide +kernel
theorem dX2_readText_17 : decode cX2_readText 17 = .ok (.aload_n 0, 1) := by decide +kernel
theorem dX2_readText_18 : decode cX2_readText 18 = .ok (.getfield 39, 3) := by decide +kernel
theorem dX2_readText_21 : decode cX2_readText 21 = .ok (.putfield 43, 3) := by decide +kernel
theorem dX2_readText_24 : decode cX2_readText 24 = .ok (.aload_n 0, 1) := by decide +kernel
theorem dX2_readText_25 : decode cX2_readText 25 = .ok (.aload_n 1, 1) := by decide +kernel
theorem dX2_readText_26 : decode cX2_readText 26 = .ok (.putfield 39, 3) := by decide +kernel
theorem dX2_readText_29 : decode cX2_readText 29 = .ok (.aload_n 0, 1) := by decide +kernel
theorem dX2_readText_30 : decode cX2_readText 30 = .ok (.getfield 12, 3) := by decide +kernel
theorem dX2_readText_33 : decode cX2_readText 33 = .ok (.iconst 0, 1) := by decide +kernel
theorem dX2_readText_34 : decode cX2_readText 34 = .ok (.putfield 77, 3) := by decide +kernel
theorem dX2_readText_37 : decode cX2_readText 37 = .ok (.aload_n 0, 1) := by decide +kernel
theorem dX2_readText_38 : decode cX2_readText 38 = .ok (.iconst 0, 1) := by decide +kernel
theorem dX2_readText_39 : decode cX2_readText 39 = .ok (.putfield 78, 3) := by decide +kernel
theorem dX2_readText_42 : decode cX2_readText 42 = .ok (.aload_n 0, 1) := by decide +kernel
theorem dX2_readText_43 : decode cX2_readText 43 = .ok (.iconst 0, 1) := by decide +kernel
theorem dX2_readText_44 : decode cX2_readText 44 = .ok (.putfield 81, 3) := by decide +kernel
theorem dX2_readText_47 : decode cX2_readText 47 = .ok (.aload_n 0, 1) := by decide +kernel
theorem dX2_readText_48 : decode cX2_readText 48 = .ok (.getfield 66, 3) := by decide +kernel
theorem dX2_readText_51 : decode cX2_readText 51 = .ok (.invokevirtual 84, 3) := by decide +kernel
theorem dX2_readText_54 : decode cX2_readText 54 = .ok (.aload_n 0, 1) := by decide +kernel
theorem dX2_readText_55 : decode cX2_readText 55 = .ok (.getfield 39, 3) := by decide +kernel
theorem dX2_readText_58 : decode cX2_readText 58 = .ok (.iconst 0, 1) := by decide +kernel
theorem dX2_readText_59 : decode cX2_readText 59 = .ok (.aaload, 1) := by decide +kernel
theorem dX2_readText_60 : decode cX2_readText 60 = .ok (.aload_n 0, 1) := by decide +kernel
theorem dX2_readText_61 : decode cX2_readText 61 = .ok (.getfield 66, 3) := by decide +kernel
theorem dX2_readText_64 : decode cX2_readText 64 = .ok (.invokevirtual 87, 3) := by decide +kernel
theorem dX2_readText_67 : decode cX2_readText 67 = .ok (.aload_n 0, 1) := by decide +kernel
theorem dX2_readText_68 : decode cX2_readText 68 = .ok (.aload_n 0, 1) := by decide +kernel
theorem dX2_readText_69 : decode cX2_readText 69 = .ok (.getfield 53, 3) := by decide +kernel
theorem dX2_readText_72 : decode cX2_readText 72 = .ok (.iconst 0, 1) := by decide +kernel
theorem dX2_readText_73 : decode cX2_readText 73 = .ok (.invokevirtual 91, 3) := by decide +kernel
theorem dX2_readText_76 : decode cX2_readText 76 = .ok (.aload_n 0, 1) := by decide +kernel
theorem dX2_readText_77 : decode cX2_readText 77 = .ok (.iconst 0, 1) := by decide +kernel
theorem dX2_readText_78 : decode cX2_readText 78 = .ok (.iconst 0, 1) := by decide +kernel
theorem dX2_readText_79 : decode cX2_readText 79 = .ok (.invokevirtual 95, 3) := by decide +kernel
theorem dX2_readText_82 : decode cX2_readText 82 = .ok (.aload_n 0, 1) := by decide +kernel
theorem dX2_readText_83 : decode cX2_readText 83 = .ok (.invokevirtual 99, 3) := by decide +kernel
theorem dX2_readText_86 : decode cX2_readText 86 = .ok (.return_, 1) := by decide +kernel
theorem dX2_countReadAnew_0 : decode cX2_countReadAnew 0 = .ok (.aload_n 0, 1) := by decide +kernel
theorem dX2_countReadAnew_1 : decode cX2_countReadAnew 1 = .ok (.getfield 53, 3) := by decide +kernel
theorem dX2_countReadAnew_4 : decode cX2_countReadAnew 4 = .ok (.iload_n 1, 1) := by decide +kernel
theorem dX2_countReadAnew_5 : decode cX2_countReadAnew 5 = .ok (.iconst 1, 1) := by decide +kernel
theorem dX2_countReadAnew_6 : decode cX2_countReadAnew 6 = .ok (.isub, 1) := by decide +kernel
theorem dX2_countReadAnew_7 : decode cX2_countReadAnew 7 = .ok (.invokevirtual 102, 3) := by decide +kernel
theorem dX2_countReadAnew_10 : decode cX2_countReadAnew 10 = .ok (.iconst 5, 1) := by decide +kernel
theorem dX2_countReadAnew_11 : decode cX2_countReadAnew 11 = .ok (.if_icmp .ne 9, 3) := by decide +kernel
theorem dX2_countReadAnew_14 : decode cX2_countReadAnew 14 = .ok (.iload_n 1, 1) := by decide +kernel
theorem dX2_countReadAnew_15 : decode cX2_countReadAnew 15 = .ok (.iconst 1, 1) := by decide +kernel
theorem dX2_countReadAnew_16 : decode cX2_countReadAnew 16 = .ok (.isub, 1) := by decide +kernel
theorem dX2_countReadAnew_17 : decode cX2_countReadAnew 17 = .ok (.goto 4, 3) := by decide +kernel
theorem dX2_countReadAnew_20 : decode cX2_countReadAnew 20 = .ok (.iload_n 1, 1) := by decide +kernel
theorem dX2_countReadAnew_21 : decode cX2_countReadAnew 21 = .ok (.istore 4, 2) := by decide +kernel
theorem dX2_countReadAnew_23 : decode cX2_countReadAnew 23 = .ok (.aload_n 0, 1) := by decide +kernel
theorem dX2_countReadAnew_24 : decode cX2_countReadAnew 24 = .ok (.getfield 53, 3) := by decide +kernel
theorem dX2_countReadAnew_27 : decode cX2_countReadAnew 27 = .ok (.iload_n 2, 1) := by decide +kernel
theorem dX2_countReadAnew_28 : decode cX2_countReadAnew 28 = .ok (.invokevirtual 102, 3) := by decide +kernel
theorem dX2_countReadAnew_31 : decode cX2_countReadAnew 31 = .ok (.iconst 5, 1) := by decide +kernel
theorem dX2_countReadAnew_32 : decode cX2_countReadAnew 32 = .ok (.if_icmp .ne 9, 3) := by decide +kernel
theorem dX2_countReadAnew_35 : decode cX2_countReadAnew 35 = .ok (.iload_n 2, 1) := by decide +kernel
theorem dX2_countReadAnew_36 : decode cX2_countReadAnew 36 = .ok (.iconst 1, 1) := by decide +kernel
theorem dX2_countReadAnew_37 : decode cX2_countReadAnew 37 = .ok (.iadd, 1) := by decide +kernel
theorem dX2_countReadAnew_38 : decode cX2_countReadAnew 38 = .ok (.goto 4, 3) := by decide +kernel
theorem dX2_countReadAnew_41 : decode cX2_countReadAnew 41 = .ok (.iload_n 2, 1) := by decide +kernel
theorem dX2_countReadAnew_42 : decode cX2_countReadAnew 42 = .ok (.istore 5, 2) := by decide +kernel
theorem dX2_countReadAnew_44 : decode cX2_countReadAnew 44 = .ok (.iload 5, 2) := by decide +kernel
theorem dX2_countReadAnew_46 : decode cX2_countReadAnew 46 = .ok (.aload_n 0, 1) := by decide +kernel
theorem dX2_countReadAnew_47 : decode cX2_countReadAnew 47 = .ok (.getfield 53, 3) := by decide +kernel
theorem dX2_countReadAnew_50 : decode cX2_countReadAnew 50 = .ok (.getfield 70, 3) := by decide +kernel
theorem dX2_countReadAnew_53 : decode cX2_countReadAnew 53 = .ok (.if_icmp .ge 22, 3) := by decide +kernel
theorem dX2_countReadAnew_56 : decode cX2_countReadAnew 56 = .ok (.aload_n 0, 1) := by decide +kernel
theorem dX2_countReadAnew_57 : decode cX2_countReadAnew 57 = .ok (.iload 5, 2) := by decide +kernel
theorem dX2_countReadAnew_59 : decode cX2_countReadAnew 59 = .ok (.iload 5, 2) := by decide +kernel
theorem dX2_countReadAnew_61 : decode cX2_countReadAnew 61 = .ok (.iload_n 3, 1) := by decide +kernel
theorem dX2_countReadAnew_62 : decode cX2_countReadAnew 62 = .ok (.iadd, 1) := by decide +kernel
theorem dX2_countReadAnew_63 : decode cX2_countReadAnew 63 = .ok (.invokevirtual 106, 3) := by decide +kernel
theorem dX2_countReadAnew_66 : decode cX2_countReadAnew 66 = .ok (.ifCond .ne 9, 3) := by decide +kernel
theorem dX2_countReadAnew_69 : decode cX2_countReadAnew 69 = .ok (.iinc 5 1, 3) := by decide +kernel
theorem dX2_countReadAnew_72 : decode cX2_countReadAnew 72 = .ok (.goto (-28), 3) := by decide +kernel
theorem dX2_countReadAnew_75 : decode cX2_countReadAnew 75 = .ok (.aload_n 0, 1) := by decide +kernel
theorem dX2_countReadAnew_76 : decode cX2_countReadAnew 76 = .ok (.iload 5, 2) := by decide +kernel
theorem dX2_countReadAnew_78 : decode cX2_countReadAnew 78 = .ok (.iload 4, 2) := by decide +kernel
theorem dX2_countReadAnew_80 : decode cX2_countReadAnew 80 = .ok (.isub, 1) := by decide +kernel
theorem dX2_countReadAnew_81 : decode cX2_countReadAnew 81 = .ok (.putfield 74, 3) := by decide +kernel
theorem dX2_countReadAnew_84 : decode cX2_countReadAnew 84 = .ok (.return_, 1) := by decide +kernel
theorem dX2_isAsBefore_0 : decode cX2_isAsBefore 0 = .ok (.iload_n 1, 1) := by decide +kernel
theorem dX2_isAsBefore_1 : decode cX2_isAsBefore 1 = .ok (.ifCond .lt 25, 3) := by decide +kernel
theorem dX2_isAsBefore_4 : decode cX2_isAsBefore 4 = .ok (.iload_n 1, 1) := by decide +kernel
theorem dX2_isAsBefore_5 : decode cX2_isAsBefore 5 = .ok (.aload_n 0, 1) := by decide +kernel
theorem dX2_isAsBefore_6 : decode cX2_isAsBefore 6 = .ok (.getfield 39, 3) := by decide +kernel
theorem dX2_isAsBefore_9 : decode cX2_isAsBefore 9 = .ok (.arraylength, 1) := by decide +kernel
theorem dX2_isAsBefore_10 : decode cX2_isAsBefore 10 = .ok (.if_icmp .ge 16, 3) := by decide +kernel
theorem dX2_isAsBefore_13 : decode cX2_isAsBefore 13 = .ok (.iload_n 2, 1) := by decide +kernel
theorem dX2_isAsBefore_14 : decode cX2_isAsBefore 14 = .ok (.ifCond .lt 12, 3) := by decide +kernel
theorem dX2_isAsBefore_17 : decode cX2_isAsBefore 17 = .ok (.iload_n 2, 1) := by decide +kernel
theorem dX2_isAsBefore_18 : decode cX2_isAsBefore 18 = .ok (.aload_n 0, 1) := by decide +kernel
theorem dX2_isAsBefore_19 : decode cX2_isAsBefore 19 = .ok (.getfield 43, 3) := by decide +kernel
theorem dX2_isAsBefore_22 : decode cX2_isAsBefore 22 = .ok (.arraylength, 1) := by decide +kernel
theorem dX2_isAsBefore_23 : decode cX2_isAsBefore 23 = .ok (.if_icmp .lt 5, 3) := by decide +kernel
theorem dX2_isAsBefore_26 : decode cX2_isAsBefore 26 = .ok (.iconst 0, 1) := by decide +kernel
theorem dX2_isAsBefore_27 : decode cX2_isAsBefore 27 = .ok (.ireturn, 1) := by decide +kernel
theorem dX2_isAsBefore_28 : decode cX2_isAsBefore 28 = .ok (.aload_n 0, 1) := by decide +kernel
theorem dX2_isAsBefore_29 : decode cX2_isAsBefore 29 = .ok (.getfield 39, 3) := by decide +kernel
theorem dX2_isAsBefore_32 : decode cX2_isAsBefore 32 = .ok (.iload_n 1, 1) := by decide +kernel
theorem dX2_isAsBefore_33 : decode cX2_isAsBefore 33 = .ok (.aaload, 1) := by decide +kernel
theorem dX2_isAsBefore_34 : decode cX2_isAsBefore 34 = .ok (.getfield 110, 3) := by decide +kernel
theorem dX2_isAsBefore_37 : decode cX2_isAsBefore 37 = .ok (.ifCond .ne 25, 3) := by decide +kernel
theorem dX2_isAsBefore_40 : decode cX2_isAsBefore 40 = .ok (.aload_n 0, 1) := by decide +kernel
theorem dX2_isAsBefore_41 : decode cX2_isAsBefore 41 = .ok (.getfield 39, 3) := by decide +kernel
theorem dX2_isAsBefore_44 : decode cX2_isAsBefore 44 = .ok (.iload_n 1, 1) := by decide +kernel
theorem dX2_isAsBefore_45 : decode cX2_isAsBefore 45 = .ok (.aaload, 1) := by decide +kernel
theorem dX2_isAsBefore_46 : decode cX2_isAsBefore 46 = .ok (.aload_n 0, 1) := by decide +kernel
theorem dX2_isAsBefore_47 : decode cX2_isAsBefore 47 = .ok (.getfield 43, 3) := by decide +kernel
theorem dX2_isAsBefore_50 : decode cX2_isAsBefore 50 = .ok (.iload_n 2, 1) := by decide +kernel
theorem dX2_isAsBefore_51 : decode cX2_isAsBefore 51 = .ok (.aaload, 1) := by decide +kernel
theorem dX2_isAsBefore_52 : decode cX2_isAsBefore 52 = .ok (.invokevirtual 113, 3) := by decide +kernel
theorem dX2_isAsBefore_55 : decode cX2_isAsBefore 55 = .ok (.ifCond .eq 7, 3) := by decide +kernel
theorem dX2_isAsBefore_58 : decode cX2_isAsBefore 58 = .ok (.iconst 1, 1) := by decide +kernel
theorem dX2_isAsBefore_59 : decode cX2_isAsBefore 59 = .ok (.goto 4, 3) := by decide +kernel
theorem dX2_isAsBefore_62 : decode cX2_isAsBefore 62 = .ok (.iconst 0, 1) := by decide +kernel
theorem dX2_isAsBefore_63 : decode cX2_isAsBefore 63 = .ok (.ireturn, 1) := by decide +kernel
theorem dX2_goThrough_0 : decode cX2_goThrough 0 = .ok (.iconst 0, 1) := by decide +kernel
theorem dX2_goThrough_1 : decode cX2_goThrough 1 = .ok (.istore_n 3, 1) := by decide +kernel
theorem dX2_goThrough_2 : decode cX2_goThrough 2 = .ok (.iconst 0, 1) := by decide +kernel
theorem dX2_goThrough_3 : decode cX2_goThrough 3 = .ok (.istore 4, 2) := by decide +kernel
theorem dX2_goThrough_5 : decode cX2_goThrough 5 = .ok (.iconst 1, 1) := by decide +kernel
theorem dX2_goThrough_6 : decode cX2_goThrough 6 = .ok (.istore 5, 2) := by decide +kernel
theorem dX2_goThrough_8 : decode cX2_goThrough 8 = .ok (.iconst 0, 1) := by decide +kernel
theorem dX2_goThrough_9 : decode cX2_goThrough 9 = .ok (.istore 6, 2) := by decide +kernel
theorem dX2_goThrough_11 : decode cX2_goThrough 11 = .ok (.iload 6, 2) := by decide +kernel
theorem dX2_goThrough_13 : decode cX2_goThrough 13 = .ok (.aload_n 1, 1) := by decide +kernel
theorem dX2_goThrough_14 : decode cX2_goThrough 14 = .ok (.getfield 70, 3) := by decide +kernel
theorem dX2_goThrough_17 : decode cX2_goThrough 17 = .ok (.if_icmp .ge 189, 3) := by decide +kernel
theorem dX2_goThrough_20 : decode cX2_goThrough 20 = .ok (.aload_n 1, 1) := by decide +kernel
theorem dX2_goThrough_21 : decode cX2_goThrough 21 = .ok (.getfield 117, 3) := by decide +kernel
theorem dX2_goThrough_24 : decode cX2_goThrough 24 = .ok (.iload 6, 2) := by decide +kernel
theorem dX2_goThrough_26 : decode cX2_goThrough 26 = .ok (.iaload, 1) := by decide +kernel
theorem dX2_goThrough_27 : decode cX2_goThrough 27 = .ok (.istore 7, 2) := by decide +kernel
theorem dX2_goThrough_29 : decode cX2_goThrough 29 = .ok (.aload_n 1, 1) := by decide +kernel
theorem dX2_goThrough_30 : decode cX2_goThrough 30 = .ok (.getfield 120, 3) := by decide +kernel
theorem dX2_goThrough_33 : decode cX2_goThrough 33 = .ok (.iload 6, 2) := by decide +kernel
theorem dX2_goThrough_35 : decode cX2_goThrough 35 = .ok (.iaload, 1) := by decide +kernel
theorem dX2_goThrough_36 : decode cX2_goThrough 36 = .ok (.istore 8, 2) := by decide +kernel
theorem dX2_goThrough_38 : decode cX2_goThrough 38 = .ok (.aload_n 0, 1) := by decide +kernel
theorem dX2_goThrough_39 : decode cX2_goThrough 39 = .ok (.iload_n 2, 1) := by decide +kernel
theorem dX2_goThrough_40 : decode cX2_goThrough 40 = .ok (.ifCond .ne 8, 3) := by decide +kernel
theorem dX2_goThrough_43 : decode cX2_goThrough 43 = .ok (.iload 6, 2) := by decide +kernel
theorem dX2_goThrough_45 : decode cX2_goThrough 45 = .ok (.goto 7, 3) := by decide +kernel
theorem dX2_goThrough_48 : decode cX2_goThrough 48 = .ok (.aload_n 0, 1) := by decide +kernel
theorem dX2_goThrough_49 : decode cX2_goThrough 49 = .ok (.getfield 123, 3) := by decide +kernel
theorem dX2_goThrough_52 : decode cX2_goThrough 52 = .ok (.putfield 123, 3) := by decide +kernel
theorem dX2_goThrough_55 : decode cX2_goThrough 55 = .ok (.iload 4, 2) := by decide +kernel
theorem dX2_goThrough_57 : decode cX2_goThrough 57 = .ok (.ifCond .le 58, 3) := by decide +kernel
theorem dX2_goThrough_60 : decode cX2_goThrough 60 = .ok (.iload 4, 2) := by decide +kernel
theorem dX2_goThrough_62 : decode cX2_goThrough 62 = .ok (.iload 7, 2) := by decide +kernel
theorem dX2_goThrough_64 : decode cX2_goThrough 64 = .ok (.bipush 7, 2) := by decide +kernel
theorem dX2_goThrough_66 : decode cX2_goThrough 66 = .ok (.if_icmp .ne 7, 3) := by decide +kernel
theorem dX2_goThrough_69 : decode cX2_goThrough 69 = .ok (.iconst 1, 1) := by decide +kernel
theorem dX2_goThrough_70 : decode cX2_goThrough 70 = .ok (.goto 15, 3) := by decide +kernel
theorem dX2_goThrough_73 : decode cX2_goThrough 73 = .ok (.iload 7, 2) := by decide +kernel
theorem dX2_goThrough_75 : decode cX2_goThrough 75 = .ok (.bipush 8, 2) := by decide +kernel
theorem dX2_goThrough_77 : decode cX2_goThrough 77 = .ok (.if_icmp .ne 7, 3) := by decide +kernel
theorem dX2_goThrough_80 : decode cX2_goThrough 80 = .ok (.iconst (-1), 1) := by decide +kernel
theorem dX2_goThrough_81 : decode cX2_goThrough 81 = .ok (.goto 4, 3) := by decide +kernel
theorem dX2_goThrough_84 : decode cX2_goThrough 84 = .ok (.iconst 0, 1) := by decide +kernel
theorem dX2_goThrough_85 : decode cX2_goThrough 85 = .ok (.iadd, 1) := by decide +kernel
theorem dX2_goThrough_86 : decode cX2_goThrough 86 = .ok (.istore 4, 2) := by decide +kernel
theorem dX2_goThrough_88 : decode cX2_goThrough 88 = .ok (.iload 4, 2) := by decide +kernel
theorem dX2_goThrough_90 : decode cX2_goThrough 90 = .ok (.ifCond .le 94, 3) := by decide +kernel
theorem dX2_goThrough_93 : decode cX2_goThrough 93 = .ok (.iload 5, 2) := by decide +kernel
theorem dX2_goThrough_95 : decode cX2_goThrough 95 = .ok (.iconst 2, 1) := by decide +kernel
theorem dX2_goThrough_96 : decode cX2_goThrough 96 = .ok (.if_icmp .ne 88, 3) := by decide +kernel
theorem dX2_goThrough_99 : decode cX2_goThrough 99 = .ok (.aload_n 0, 1) := by decide +kernel
theorem dX2_goThrough_100 : decode cX2_goThrough 100 = .ok (.bipush 10, 2) := by decide +kernel
theorem dX2_goThrough_102 : decode cX2_goThrough 102 = .ok (.iload 7, 2) := by decide +kernel
theorem dX2_goThrough_104 : decode cX2_goThrough 104 = .ok (.iload 8, 2) := by decide +kernel
theorem dX2_goThrough_106 : decode cX2_goThrough 106 = .ok (.invokestatic 126, 3) := by decide +kernel
theorem dX2_goThrough_109 : decode cX2_goThrough 109 = .ok (.invokevirtual 130, 3) := by decide +kernel
theorem dX2_goThrough_112 : decode cX2_goThrough 112 = .ok (.goto 72, 3) := by decide +kernel
theorem dX2_goThrough_115 : decode cX2_goThrough 115 = .ok (.iload 7, 2) := by decide +kernel
theorem dX2_goThrough_117 : decode cX2_goThrough 117 = .ok (.bipush 7, 2) := by decide +kernel
theorem dX2_goThrough_119 : decode cX2_goThrough 119 = .ok (.if_icmp .ne 40, 3) := by decide +kernel
theorem dX2_goThrough_122 : decode cX2_goThrough 122 = .ok (.aload_n 0, 1) := by decide +kernel
theorem dX2_goThrough_123 : decode cX2_goThrough 123 = .ok (.getfield 60, 3) := by decide +kernel
theorem dX2_goThrough_126 : decode cX2_goThrough 126 = .ok (.iload 8, 2) := by decide +kernel
theorem dX2_goThrough_128 : decode cX2_goThrough 128 = .ok (.iaload, 1) := by decide +kernel
theorem dX2_goThrough_129 : decode cX2_goThrough 129 = .ok (.istore 5, 2) := by decide +kernel
theorem dX2_goThrough_131 : decode cX2_goThrough 131 = .ok (.iload_n 3, 1) := by decide +kernel
theorem dX2_goThrough_132 : decode cX2_goThrough 132 = .ok (.iload 5, 2) := by decide +kernel
theorem dX2_goThrough_134 : decode cX2_goThrough 134 = .ok (.ifCond .ne 7, 3) := by decide +kernel
theorem dX2_goThrough_137 : decode cX2_goThrough 137 = .ok (.iconst 1, 1) := by decide +kernel
theorem dX2_goThrough_138 : decode cX2_goThrough 138 = .ok (.goto 4, 3) := by decide +kernel
theorem dX2_goThrough_141 : decode cX2_goThrough 141 = .ok (.iconst 0, 1) := by decide +kernel
theorem dX2_goThrough_142 : decode cX2_goThrough 142 = .ok (.iadd, 1) := by decide +kernel
theorem dX2_goThrough_143 : decode cX2_goThrough 143 = .ok (.istore_n 3, 1) := by decide +kernel
theorem dX2_goThrough_144 : decode cX2_goThrough 144 = .ok (.iload 5, 2) := by decide +kernel
theorem dX2_goThrough_146 : decode cX2_goThrough 146 = .ok (.ifCond .ne 7, 3) := by decide +kernel
theorem dX2_goThrough_149 : decode cX2_goThrough 149 = .ok (.iconst 0, 1) := by decide +kernel
theorem dX2_goThrough_150 : decode cX2_goThrough 150 = .ok (.goto 4, 3) := by decide +kernel
theorem dX2_goThrough_153 : decode cX2_goThrough 153 = .ok (.iconst 1, 1) := by decide +kernel
theorem dX2_goThrough_154 : decode cX2_goThrough 154 = .ok (.istore 4, 2) := by decide +kernel
theorem dX2_goThrough_156 : decode cX2_goThrough 156 = .ok (.goto 28, 3) := by decide +kernel
theorem dX2_goThrough_159 : decode cX2_goThrough 159 = .ok (.iload 7, 2) := by decide +kernel
theorem dX2_goThrough_161 : decode cX2_goThrough 161 = .ok (.bipush 8, 2) := by decide +kernel
theorem dX2_goThrough_163 : decode cX2_goThrough 163 = .ok (.if_icmp .ne 13, 3) := by decide +kernel
theorem dX2_goThrough_166 : decode cX2_goThrough 166 = .ok (.iload_n 3, 1) := by decide +kernel
theorem dX2_goThrough_167 : decode cX2_goThrough 167 = .ok (.ifCond .le 9, 3) := by decide +kernel
theorem dX2_goThrough_170 : decode cX2_goThrough 170 = .ok (.iinc 3 (-1), 3) := by decide +kernel
theorem dX2_goThrough_173 : decode cX2_goThrough 173 = .ok (.goto 11, 3) := by decide +kernel
theorem dX2_goThrough_176 : decode cX2_goThrough 176 = .ok (.aload_n 0, 1) := by decide +kernel
theorem dX2_goThrough_177 : decode cX2_goThrough 177 = .ok (.aload_n 1, 1) := by decide +kernel
theorem dX2_goThrough_178 : decode cX2_goThrough 178 = .ok (.iload 6, 2) := by decide +kernel
theorem dX2_goThrough_180 : decode cX2_goThrough 180 = .ok (.iload_n 2, 1) := by decide +kernel
theorem dX2_goThrough_181 : decode cX2_goThrough 181 = .ok (.invokevirtual 134, 3) := by decide +kernel
theorem dX2_goThrough_184 : decode cX2_goThrough 184 = .ok (.iload_n 2, 1) := by decide +kernel
theorem dX2_goThrough_185 : decode cX2_goThrough 185 = .ok (.ifCond .ne 15, 3) := by decide +kernel
theorem dX2_goThrough_188 : decode cX2_goThrough 188 = .ok (.aload_n 0, 1) := by decide +kernel
theorem dX2_goThrough_189 : decode cX2_goThrough 189 = .ok (.iload 6, 2) := by decide +kernel
theorem dX2_goThrough_191 : decode cX2_goThrough 191 = .ok (.iconst 1, 1) := by decide +kernel
theorem dX2_goThrough_192 : decode cX2_goThrough 192 = .ok (.iadd, 1) := by decide +kernel
theorem dX2_goThrough_193 : decode cX2_goThrough 193 = .ok (.iload_n 3, 1) := by decide +kernel
theorem dX2_goThrough_194 : decode cX2_goThrough 194 = .ok (.iload 4, 2) := by decide +kernel
theorem dX2_goThrough_196 : decode cX2_goThrough 196 = .ok (.iadd, 1) := by decide +kernel
theorem dX2_goThrough_197 : decode cX2_goThrough 197 = .ok (.invokevirtual 138, 3) := by decide +kernel
theorem dX2_goThrough_200 : decode cX2_goThrough 200 = .ok (.iinc 6 1, 3) := by decide +kernel
theorem dX2_goThrough_203 : decode cX2_goThrough 203 = .ok (.goto (-192), 3) := by decide +kernel
theorem dX2_goThrough_206 : decode cX2_goThrough 206 = .ok (.aload_n 0, 1) := by decide +kernel
theorem dX2_goThrough_207 : decode cX2_goThrough 207 = .ok (.iload_n 2, 1) := by decide +kernel
theorem dX2_goThrough_208 : decode cX2_goThrough 208 = .ok (.ifCond .ne 10, 3) := by decide +kernel
theorem dX2_goThrough_211 : decode cX2_goThrough 211 = .ok (.aload_n 1, 1) := by decide +kernel
theorem dX2_goThrough_212 : decode cX2_goThrough 212 = .ok (.getfield 70, 3) := by decide +kernel
theorem dX2_goThrough_215 : decode cX2_goThrough 215 = .ok (.goto 7, 3) := by decide +kernel
theorem dX2_goThrough_218 : decode cX2_goThrough 218 = .ok (.aload_n 0, 1) := by decide +kernel
theorem dX2_goThrough_219 : decode cX2_goThrough 219 = .ok (.getfield 123, 3) := by decide +kernel
theorem dX2_goThrough_222 : decode cX2_goThrough 222 = .ok (.putfield 123, 3) := by decide +kernel
theorem dX2_goThrough_225 : decode cX2_goThrough 225 = .ok (.iconst 0, 1) := by decide +kernel
theorem dX2_goThrough_226 : decode cX2_goThrough 226 = .ok (.istore 6, 2) := by decide +kernel
theorem dX2_goThrough_228 : decode cX2_goThrough 228 = .ok (.iload 6, 2) := by decide +kernel
theorem dX2_goThrough_230 : decode cX2_goThrough 230 = .ok (.iload_n 3, 1) := by decide +kernel
theorem dX2_goThrough_231 : decode cX2_goThrough 231 = .ok (.iload 4, 2) := by decide +kernel
theorem dX2_goThrough_233 : decode cX2_goThrough 233 = .ok (.iadd, 1) := by decide +kernel
theorem dX2_goThrough_234 : decode cX2_goThrough 234 = .ok (.if_icmp .ge 14, 3) := by decide +kernel
theorem dX2_goThrough_237 : decode cX2_goThrough 237 = .ok (.aload_n 0, 1) := by decide +kernel
theorem dX2_goThrough_238 : decode cX2_goThrough 238 = .ok (.iconst 5, 1) := by decide +kernel
theorem dX2_goThrough_239 : decode cX2_goThrough 239 = .ok (.invokevirtual 142, 3) := by decide +kernel
theorem dX2_goThrough_242 : decode cX2_goThrough 242 = .ok (.iinc 6 1, 3) := by decide +kernel
theorem dX2_goThrough_245 : decode cX2_goThrough 245 = .ok (.goto (-17), 3) := by decide +kernel
theorem dX2_goThrough_248 : decode cX2_goThrough 248 = .ok (.return_, 1) := by decide +kernel
theorem dX2_plainLetter_0 : decode cX2_plainLetter 0 = .ok (.iload_n 0, 1) := by decide +kernel
theorem dX2_plainLetter_1 : decode cX2_plainLetter 1 = .ok (.iconst 4, 1) := by decide +kernel
theorem dX2_plainLetter_2 : decode cX2_plainLetter 2 = .ok (.if_icmp .ne 8, 3) := by decide +kernel
theorem dX2_plainLetter_5 : decode cX2_plainLetter 5 = .ok (.iload_n 1, 1) := by decide +kernel
theorem dX2_plainLetter_6 : decode cX2_plainLetter 6 = .ok (.i2c, 1) := by decide +kernel
theorem dX2_plainLetter_7 : decode cX2_plainLetter 7 = .ok (.goto 15, 3) := by decide +kernel
theorem dX2_plainLetter_10 : decode cX2_plainLetter 10 = .ok (.iload_n 0, 1) := by decide +kernel
theorem dX2_plainLetter_11 : decode cX2_plainLetter 11 = .ok (.iconst 5, 1) := by decide +kernel
theorem dX2_plainLetter_12 : decode cX2_plainLetter 12 = .ok (.if_icmp .ne 8, 3) := by decide +kernel
theorem dX2_plainLetter_15 : decode cX2_plainLetter 15 = .ok (.bipush 32, 2) := by decide +kernel
theorem dX2_plainLetter_17 : decode cX2_plainLetter 17 = .ok (.goto 5, 3) := by decide +kernel
theorem dX2_plainLetter_20 : decode cX2_plainLetter 20 = .ok (.bipush 42, 2) := by decide +kernel
theorem dX2_plainLetter_22 : decode cX2_plainLetter 22 = .ok (.ireturn, 1) := by decide +kernel
theorem dX2_keepState_0 : decode cX2_keepState 0 = .ok (.iload_n 1, 1) := by decide +kernel
theorem dX2_keepState_1 : decode cX2_keepState 1 = .ok (.ifCond .lt 35, 3) := by decide +kernel
theorem dX2_keepState_4 : decode cX2_keepState 4 = .ok (.iload_n 1, 1) := by decide +kernel
theorem dX2_keepState_5 : decode cX2_keepState 5 = .ok (.aload_n 0, 1) := by decide +kernel
theorem dX2_keepState_6 : decode cX2_keepState 6 = .ok (.getfield 39, 3) := by decide +kernel
theorem dX2_keepState_9 : decode cX2_keepState 9 = .ok (.arraylength, 1) := by decide +kernel
theorem dX2_keepState_10 : decode cX2_keepState 10 = .ok (.if_icmp .ge 26, 3) := by decide +kernel
theorem dX2_keepState_13 : decode cX2_keepState 13 = .ok (.aload_n 0, 1) := by decide +kernel
theorem dX2_keepState_14 : decode cX2_keepState 14 = .ok (.getfield 39, 3) := by decide +kernel
theorem dX2_keepState_17 : decode cX2_keepState 17 = .ok (.iload_n 1, 1) := by decide +kernel
theorem dX2_keepState_18 : decode cX2_keepState 18 = .ok (.aaload, 1) := by decide +kernel
theorem dX2_keepState_19 : decode cX2_keepState 19 = .ok (.aload_n 0, 1) := by decide +kernel
theorem dX2_keepState_20 : decode cX2_keepState 20 = .ok (.getfield 66, 3) := by decide +kernel
theorem dX2_keepState_23 : decode cX2_keepState 23 = .ok (.invokevirtual 87, 3) := by decide +kernel
theorem dX2_keepState_26 : decode cX2_keepState 26 = .ok (.aload_n 0, 1) := by decide +kernel
theorem dX2_keepState_27 : decode cX2_keepState 27 = .ok (.getfield 39, 3) := by decide +kernel
theorem dX2_keepState_30 : decode cX2_keepState 30 = .ok (.iload_n 1, 1) := by decide +kernel
theorem dX2_keepState_31 : decode cX2_keepState 31 = .ok (.aaload, 1) := by decide +kernel
theorem dX2_keepState_32 : decode cX2_keepState 32 = .ok (.iload_n 2, 1) := by decide +kernel
theorem dX2_keepState_33 : decode cX2_keepState 33 = .ok (.putfield 110, 3) := by decide +kernel
theorem dX2_keepState_36 : decode cX2_keepState 36 = .ok (.return_, 1) := by decide +kernel
theorem dX2_readToken_0 : decode cX2_readToken 0 = .ok (.aload_n 1, 1) := by decide +kernel
theorem dX2_readToken_1 : decode cX2_readToken 1 = .ok (.getfield 120, 3) := by decide +kernel
theorem dX2_readToken_4 : decode cX2_readToken 4 = .ok (.iload_n 2, 1) := by decide +kernel
theorem dX2_readToken_5 : decode cX2_readToken 5 = .ok (.iaload, 1) := by decide +kernel
theorem dX2_readToken_6 : decode cX2_readToken 6 = .ok (.istore 4, 2) := by decide +kernel
theorem dX2_readToken_8 : decode cX2_readToken 8 = .ok (.aload_n 1, 1) := by decide +kernel
theorem dX2_readToken_9 : decode cX2_readToken 9 = .ok (.getfield 117, 3) := by decide +kernel
theorem dX2_readToken_12 : decode cX2_readToken 12 = .ok (.iload_n 2, 1) := by decide +kernel
theorem dX2_readToken_13 : decode cX2_readToken 13 = .ok (.iaload, 1) := by decide +kernel
theorem dX2_readToken_14 : decode cX2_readToken 14 = .ok (.tableswitch 166 0 6 #[42, 88, 53, 104, 125, 137, 156], 42) := by decide +kernel
theorem dX2_readToken_56 : decode cX2_readToken 56 = .ok (.aload_n 0, 1) := by decide +kernel
theorem dX2_readToken_57 : decode cX2_readToken 57 = .ok (.iload 4, 2) := by decide +kernel
theorem dX2_readToken_59 : decode cX2_readToken 59 = .ok (.bipush 60, 2) := by decide +kernel
theorem dX2_readToken_61 : decode cX2_readToken 61 = .ok (.invokevirtual 130, 3) := by decide +kernel
theorem dX2_readToken_64 : decode cX2_readToken 64 = .ok (.goto 121, 3) := by decide +kernel
theorem dX2_readToken_67 : decode cX2_readToken 67 = .ok (.aload_n 0, 1) := by decide +kernel
theorem dX2_readToken_68 : decode cX2_readToken 68 = .ok (.getfield 66, 3) := by decide +kernel
theorem dX2_readToken_71 : decode cX2_readToken 71 = .ok (.getfield 145, 3) := by decide +kernel
theorem dX2_readToken_74 : decode cX2_readToken 74 = .ok (.iconst (-1), 1) := by decide +kernel
theorem dX2_readToken_75 : decode cX2_readToken 75 = .ok (.if_icmp .ne 11, 3) := by decide +kernel
theorem dX2_readToken_78 : decode cX2_readToken 78 = .ok (.aload_n 0, 1) := by decide +kernel
theorem dX2_readToken_79 : decode cX2_readToken 79 = .ok (.iconst 1, 1) := by decide +kernel
theorem dX2_readToken_80 : decode cX2_readToken 80 = .ok (.invokevirtual 142, 3) := by decide +kernel
theorem dX2_readToken_83 : decode cX2_readToken 83 = .ok (.goto 102, 3) := by decide +kernel
theorem dX2_readToken_86 : decode cX2_readToken 86 = .ok (.aload_n 0, 1) := by decide +kernel
theorem dX2_readToken_87 : decode cX2_readToken 87 = .ok (.aload_n 0, 1) := by decide +kernel
theorem dX2_readToken_88 : decode cX2_readToken 88 = .ok (.getfield 66, 3) := by decide +kernel
theorem dX2_readToken_91 : decode cX2_readToken 91 = .ok (.getfield 145, 3) := by decide +kernel
theorem dX2_readToken_94 : decode cX2_readToken 94 = .ok (.bipush 60, 2) := by decide +kernel
theorem dX2_readToken_96 : decode cX2_readToken 96 = .ok (.invokevirtual 130, 3) := by decide +kernel
theorem dX2_readToken_99 : decode cX2_readToken 99 = .ok (.goto 86, 3) := by decide +kernel
theorem dX2_readToken_102 : decode cX2_readToken 102 = .ok (.aload_n 0, 1) := by decide +kernel
theorem dX2_readToken_103 : decode cX2_readToken 103 = .ok (.aload_n 0, 1) := by decide +kernel
theorem dX2_readToken_104 : decode cX2_readToken 104 = .ok (.getfield 66, 3) := by decide +kernel
theorem dX2_readToken_107 : decode cX2_readToken 107 = .ok (.iload 4, 2) := by decide +kernel
theorem dX2_readToken_109 : decode cX2_readToken 109 = .ok (.invokevirtual 148, 3) := by decide +kernel
theorem dX2_readToken_112 : decode cX2_readToken 112 = .ok (.invokevirtual 151, 3) := by decide +kernel
theorem dX2_readToken_115 : decode cX2_readToken 115 = .ok (.goto 70, 3) := by decide +kernel
theorem dX2_readToken_118 : decode cX2_readToken 118 = .ok (.aload_n 0, 1) := by decide +kernel
theorem dX2_readToken_119 : decode cX2_readToken 119 = .ok (.aload_n 0, 1) := by decide +kernel
theorem dX2_readToken_120 : decode cX2_readToken 120 = .ok (.getfield 66, 3) := by decide +kernel
theorem dX2_readToken_123 : decode cX2_readToken 123 = .ok (.aload_n 0, 1) := by decide +kernel
theorem dX2_readToken_124 : decode cX2_readToken 124 = .ok (.getfield 66, 3) := by decide +kernel
theorem dX2_readToken_127 : decode cX2_readToken 127 = .ok (.invokevirtual 154, 3) := by decide +kernel
theorem dX2_readToken_130 : decode cX2_readToken 130 = .ok (.invokevirtual 148, 3) := by decide +kernel
theorem dX2_readToken_133 : decode cX2_readToken 133 = .ok (.invokevirtual 151, 3) := by decide +kernel
theorem dX2_readToken_136 : decode cX2_readToken 136 = .ok (.goto 49, 3) := by decide +kernel
theorem dX2_readToken_139 : decode cX2_readToken 139 = .ok (.aload_n 0, 1) := by decide +kernel
theorem dX2_readToken_140 : decode cX2_readToken 140 = .ok (.bipush 10, 2) := by decide +kernel
theorem dX2_readToken_142 : decode cX2_readToken 142 = .ok (.iload 4, 2) := by decide +kernel
theorem dX2_readToken_144 : decode cX2_readToken 144 = .ok (.i2c, 1) := by decide +kernel
theorem dX2_readToken_145 : decode cX2_readToken 145 = .ok (.invokevirtual 130, 3) := by decide +kernel
theorem dX2_readToken_148 : decode cX2_readToken 148 = .ok (.goto 37, 3) := by decide +kernel
theorem dX2_readToken_151 : decode cX2_readToken 151 = .ok (.aload_n 1, 1) := by decide +kernel
theorem dX2_readToken_152 : decode cX2_readToken 152 = .ok (.iload_n 2, 1) := by decide +kernel
theorem dX2_readToken_153 : decode cX2_readToken 153 = .ok (.invokestatic 158, 3) := by decide +kernel
theorem dX2_readToken_156 : decode cX2_readToken 156 = .ok (.ifCond .ne 29, 3) := by decide +kernel
theorem dX2_readToken_159 : decode cX2_readToken 159 = .ok (.aload_n 0, 1) := by decide +kernel
theorem dX2_readToken_160 : decode cX2_readToken 160 = .ok (.bipush 10, 2) := by decide +kernel
theorem dX2_readToken_162 : decode cX2_readToken 162 = .ok (.bipush 32, 2) := by decide +kernel
theorem dX2_readToken_164 : decode cX2_readToken 164 = .ok (.invokevirtual 130, 3) := by decide +kernel
theorem dX2_readToken_167 : decode cX2_readToken 167 = .ok (.goto 18, 3) := by decide +kernel
theorem dX2_readToken_170 : decode cX2_readToken 170 = .ok (.aload_n 0, 1) := by decide +kernel
theorem dX2_readToken_171 : decode cX2_readToken 171 = .ok (.iload 4, 2) := by decide +kernel
theorem dX2_readToken_173 : decode cX2_readToken 173 = .ok (.iload_n 3, 1) := by decide +kernel
theorem dX2_readToken_174 : decode cX2_readToken 174 = .ok (.invokevirtual 162, 3) := by decide +kernel
theorem dX2_readToken_177 : decode cX2_readToken 177 = .ok (.goto 8, 3) := by decide +kernel
theorem dX2_readToken_180 : decode cX2_readToken 180 = .ok (.aload_n 0, 1) := by decide +kernel
theorem dX2_readToken_181 : decode cX2_readToken 181 = .ok (.iconst 5, 1) := by decide +kernel
theorem dX2_readToken_182 : decode cX2_readToken 182 = .ok (.invokevirtual 142, 3) := by decide +kernel
theorem dX2_readToken_185 : decode cX2_readToken 185 = .ok (.return_, 1) := by decide +kernel
theorem dX2_isLineLeftOut_0 : decode cX2_isLineLeftOut 0 = .ok (.aload_n 0, 1) := by decide +kernel
theorem dX2_isLineLeftOut_1 : decode cX2_isLineLeftOut 1 = .ok (.iload_n 1, 1) := by decide +kernel
theorem dX2_isLineLeftOut_2 : decode cX2_isLineLeftOut 2 = .ok (.iconst 1, 1) := by decide +kernel
theorem dX2_isLineLeftOut_3 : decode cX2_isLineLeftOut 3 = .ok (.isub, 1) := by decide +kernel
theorem dX2_isLineLeftOut_4 : decode cX2_isLineLeftOut 4 = .ok (.invokevirtual 102, 3) := by decide +kernel
theorem dX2_isLineLeftOut_7 : decode cX2_isLineLeftOut 7 = .ok (.istore_n 2, 1) := by decide +kernel
theorem dX2_isLineLeftOut_8 : decode cX2_isLineLeftOut 8 = .ok (.aload_n 0, 1) := by decide +kernel
theorem dX2_isLineLeftOut_9 : decode cX2_isLineLeftOut 9 = .ok (.iload_n 1, 1) := by decide +kernel
theorem dX2_isLineLeftOut_10 : decode cX2_isLineLeftOut 10 = .ok (.iconst 1, 1) := by decide +kernel
theorem dX2_isLineLeftOut_11 : decode cX2_isLineLeftOut 11 = .ok (.iadd, 1) := by decide +kernel
theorem dX2_isLineLeftOut_12 : decode cX2_isLineLeftOut 12 = .ok (.invokevirtual 102, 3) := by decide +kernel
theorem dX2_isLineLeftOut_15 : decode cX2_isLineLeftOut 15 = .ok (.istore_n 3, 1) := by decide +kernel
theorem dX2_isLineLeftOut_16 : decode cX2_isLineLeftOut 16 = .ok (.iload_n 2, 1) := by decide +kernel
theorem dX2_isLineLeftOut_17 : decode cX2_isLineLeftOut 17 = .ok (.ifCond .eq 18, 3) := by decide +kernel
theorem dX2_isLineLeftOut_20 : decode cX2_isLineLeftOut 20 = .ok (.iload_n 2, 1) := by decide +kernel
theorem dX2_isLineLeftOut_21 : decode cX2_isLineLeftOut 21 = .ok (.iconst 2, 1) := by decide +kernel
theorem dX2_isLineLeftOut_22 : decode cX2_isLineLeftOut 22 = .ok (.if_icmp .eq 13, 3) := by decide +kernel
theorem dX2_isLineLeftOut_25 : decode cX2_isLineLeftOut 25 = .ok (.iload_n 3, 1) := by decide +kernel
theorem dX2_isLineLeftOut_26 : decode cX2_isLineLeftOut 26 = .ok (.iconst 1, 1) := by decide +kernel
theorem dX2_isLineLeftOut_27 : decode cX2_isLineLeftOut 27 = .ok (.if_icmp .eq 8, 3) := by decide +kernel
theorem dX2_isLineLeftOut_30 : decode cX2_isLineLeftOut 30 = .ok (.iload_n 3, 1) := by decide +kernel
theorem dX2_isLineLeftOut_31 : decode cX2_isLineLeftOut 31 = .ok (.iconst 3, 1) := by decide +kernel
theorem dX2_isLineLeftOut_32 : decode cX2_isLineLeftOut 32 = .ok (.if_icmp .ne 7, 3) := by decide +kernel
theorem dX2_isLineLeftOut_35 : decode cX2_isLineLeftOut 35 = .ok (.iconst 1, 1) := by decide +kernel
theorem dX2_isLineLeftOut_36 : decode cX2_isLineLeftOut 36 = .ok (.goto 4, 3) := by decide +kernel
theorem dX2_isLineLeftOut_39 : decode cX2_isLineLeftOut 39 = .ok (.iconst 0, 1) := by decide +kernel
theorem dX2_isLineLeftOut_40 : decode cX2_isLineLeftOut 40 = .ok (.ireturn, 1) := by decide +kernel
theorem dX2_goThroughEntity_0 : decode cX2_goThroughEntity 0 = .ok (.iload_n 2, 1) := by decide +kernel
theorem dX2_goThroughEntity_1 : decode cX2_goThroughEntity 1 = .ok (.iconst 2, 1) := by decide +kernel
theorem dX2_goThroughEntity_2 : decode cX2_goThroughEntity 2 = .ok (.if_icmp .lt 7, 3) := by decide +kernel
theorem dX2_goThroughEntity_5 : decode cX2_goThroughEntity 5 = .ok (.iconst 1, 1) := by decide +kernel
theorem dX2_goThroughEntity_6 : decode cX2_goThroughEntity 6 = .ok (.goto 4, 3) := by decide +kernel
theorem dX2_goThroughEntity_9 : decode cX2_goThroughEntity 9 = .ok (.iconst 0, 1) := by decide +kernel
theorem dX2_goThroughEntity_10 : decode cX2_goThroughEntity 10 = .ok (.istore_n 3, 1) := by decide +kernel
theorem dX2_goThroughEntity_11 : decode cX2_goThroughEntity 11 = .ok (.iconst 0, 1) := by decide +kernel
theorem dX2_goThroughEntity_12 : decode cX2_goThroughEntity 12 = .ok (.istore 4, 2) := by decide +kernel
theorem dX2_goThroughEntity_14 : decode cX2_goThroughEntity 14 = .ok (.iload 4, 2) := by decide +kernel
theorem dX2_goThroughEntity_16 : decode cX2_goThroughEntity 16 = .ok (.iload_n 2, 1) := by decide +kernel
theorem dX2_goThroughEntity_17 : decode cX2_goThroughEntity 17 = .ok (.if_icmp .ge 36, 3) := by decide +kernel
theorem dX2_goThroughEntity_20 : decode cX2_goThroughEntity 20 = .ok (.iload 4, 2) := by decide +kernel
theorem dX2_goThroughEntity_22 : decode cX2_goThroughEntity 22 = .ok (.iconst 2, 1) := by decide +kernel
theorem dX2_goThroughEntity_23 : decode cX2_goThroughEntity 23 = .ok (.if_icmp .ge 30, 3) := by decide +kernel
theorem dX2_goThroughEntity_26 : decode cX2_goThroughEntity 26 = .ok (.iload_n 3, 1) := by decide +kernel
theorem dX2_goThroughEntity_27 : decode cX2_goThroughEntity 27 = .ok (.ifCond .ne 14, 3) := by decide +kernel
theorem dX2_goThroughEntity_30 : decode cX2_goThroughEntity 30 = .ok (.aload_n 0, 1) := by decide +kernel
theorem dX2_goThroughEntity_31 : decode cX2_goThroughEntity 31 = .ok (.getfield 46, 3) := by decide +kernel
theorem dX2_goThroughEntity_34 : decode cX2_goThroughEntity 34 = .ok (.iload 4, 2) := by decide +kernel
theorem dX2_goThroughEntity_36 : decode cX2_goThroughEntity 36 = .ok (.iaload, 1) := by decide +kernel
theorem dX2_goThroughEntity_37 : decode cX2_goThroughEntity 37 = .ok (.iload_n 1, 1) := by decide +kernel
theorem dX2_goThroughEntity_38 : decode cX2_goThroughEntity 38 = .ok (.if_icmp .ne 7, 3) := by decide +kernel
theorem dX2_goThroughEntity_41 : decode cX2_goThroughEntity 41 = .ok (.iconst 1, 1) := by decide +kernel
theorem dX2_goThroughEntity_42 : decode cX2_goThroughEntity 42 = .ok (.goto 4, 3) := by decide +kernel
theorem dX2_goThroughEntity_45 : decode cX2_goThroughEntity 45 = .ok (.iconst 0, 1) := by decide +kernel
theorem dX2_goThroughEntity_46 : decode cX2_goThroughEntity 46 = .ok (.istore_n 3, 1) := by decide +kernel
theorem dX2_goThroughEntity_47 : decode cX2_goThroughEntity 47 = .ok (.iinc 4 1, 3) := by decide +kernel
theorem dX2_goThroughEntity_50 : decode cX2_goThroughEntity 50 = .ok (.goto (-36), 3) := by decide +kernel
theorem dX2_goThroughEntity_53 : decode cX2_goThroughEntity 53 = .ok (.iload_n 3, 1) := by decide +kernel
theorem dX2_goThroughEntity_54 : decode cX2_goThroughEntity 54 = .ok (.ifCond .eq 9, 3) := by decide +kernel
theorem dX2_goThroughEntity_57 : decode cX2_goThroughEntity 57 = .ok (.aload_n 0, 1) := by decide +kernel
theorem dX2_goThroughEntity_58 : decode cX2_goThroughEntity 58 = .ok (.iconst 4, 1) := by decide +kernel
theorem dX2_goThroughEntity_59 : decode cX2_goThroughEntity 59 = .ok (.invokevirtual 142, 3) := by decide +kernel
theorem dX2_goThroughEntity_62 : decode cX2_goThroughEntity 62 = .ok (.return_, 1) := by decide +kernel
theorem dX2_goThroughEntity_63 : decode cX2_goThroughEntity 63 = .ok (.aload_n 0, 1) := by decide +kernel
theorem dX2_goThroughEntity_64 : decode cX2_goThroughEntity 64 = .ok (.getfield 46, 3) := by decide +kernel
theorem dX2_goThroughEntity_67 : decode cX2_goThroughEntity 67 = .ok (.iload_n 2, 1) := by decide +kernel
theorem dX2_goThroughEntity_68 : decode cX2_goThroughEntity 68 = .ok (.iload_n 1, 1) := by decide +kernel
theorem dX2_goThroughEntity_69 : decode cX2_goThroughEntity 69 = .ok (.iastore, 1) := by decide +kernel
theorem dX2_goThroughEntity_70 : decode cX2_goThroughEntity 70 = .ok (.aload_n 0, 1) := by decide +kernel
theorem dX2_goThroughEntity_71 : decode cX2_goThroughEntity 71 = .ok (.aload_n 0, 1) := by decide +kernel
theorem dX2_goThroughEntity_72 : decode cX2_goThroughEntity 72 = .ok (.getfield 56, 3) := by decide +kernel
theorem dX2_goThroughEntity_75 : decode cX2_goThroughEntity 75 = .ok (.iload_n 1, 1) := by decide +kernel
theorem dX2_goThroughEntity_76 : decode cX2_goThroughEntity 76 = .ok (.aaload, 1) := by decide +kernel
theorem dX2_goThroughEntity_77 : decode cX2_goThroughEntity 77 = .ok (.iload_n 2, 1) := by decide +kernel
theorem dX2_goThroughEntity_78 : decode cX2_goThroughEntity 78 = .ok (.iconst 1, 1) := by decide +kernel
theorem dX2_goThroughEntity_79 : decode cX2_goThroughEntity 79 = .ok (.iadd, 1) := by decide +kernel
theorem dX2_goThroughEntity_80 : decode cX2_goThroughEntity 80 = .ok (.invokevirtual 91, 3) := by decide +kernel
theorem dX2_goThroughEntity_83 : decode cX2_goThroughEntity 83 = .ok (.return_, 1) := by decide +kernel
theorem dX2_readThing_0 : decode cX2_readThing 0 = .ok (.iconst 0, 1) := by decide +kernel
theorem dX2_readThing_1 : decode cX2_readThing 1 = .ok (.istore_n 3, 1) := by decide +kernel
theorem dX2_readThing_2 : decode cX2_readThing 2 = .ok (.iconst 0, 1) := by decide +kernel
theorem dX2_readThing_3 : decode cX2_readThing 3 = .ok (.istore 4, 2) := by decide +kernel
theorem dX2_readThing_5 : decode cX2_readThing 5 = .ok (.iload 4, 2) := by decide +kernel
theorem dX2_readThing_7 : decode cX2_readThing 7 = .ok (.bipush 100, 2) := by decide +kernel
theorem dX2_readThing_9 : decode cX2_readThing 9 = .ok (.if_icmp .ge 186, 3) := by decide +kernel
theorem dX2_readThing_12 : decode cX2_readThing 12 = .ok (.aload_n 0, 1) := by decide +kernel
theorem dX2_readThing_13 : decode cX2_readThing 13 = .ok (.getfield 12, 3) := by decide +kernel
theorem dX2_readThing_16 : decode cX2_readThing 16 = .ok (.getfield 77, 3) := by decide +kernel
theorem dX2_readThing_19 : decode cX2_readThing 19 = .ok (.sipush 300, 3) := by decide +kernel
theorem dX2_readThing_22 : decode cX2_readThing 22 = .ok (.if_icmp .ge 21, 3) := by decide +kernel
theorem dX2_readThing_25 : decode cX2_readThing 25 = .ok (.iload_n 1, 1) := by decide +kernel
theorem dX2_readThing_26 : decode cX2_readThing 26 = .ok (.bipush 10, 2) := by decide +kernel
theorem dX2_readThing_28 : decode cX2_readThing 28 = .ok (.if_icmp .eq 22, 3) := by decide +kernel
theorem dX2_readThing_31 : decode cX2_readThing 31 = .ok (.aload_n 0, 1) := by decide +kernel
theorem dX2_readThing_32 : decode cX2_readThing 32 = .ok (.getfield 66, 3) := by decide +kernel
theorem dX2_readThing_35 : decode cX2_readThing 35 = .ok (.getfield 165, 3) := by decide +kernel
theorem dX2_readThing_38 : decode cX2_readThing 38 = .ok (.bipush 20, 2) := by decide +kernel
theorem dX2_readThing_40 : decode cX2_readThing 40 = .ok (.if_icmp .lt 10, 3) := by decide +kernel
theorem dX2_readThing_43 : decode cX2_readThing 43 = .ok (.aload_n 0, 1) := by decide +kernel
theorem dX2_readThing_44 : decode cX2_readThing 44 = .ok (.bipush 6, 2) := by decide +kernel
theorem dX2_readThing_46 : decode cX2_readThing 46 = .ok (.invokevirtual 142, 3) := by decide +kernel
theorem dX2_readThing_49 : decode cX2_readThing 49 = .ok (.return_, 1) := by decide +kernel
theorem dX2_readThing_50 : decode cX2_readThing 50 = .ok (.aload_n 0, 1) := by decide +kernel
theorem dX2_readThing_51 : decode cX2_readThing 51 = .ok (.getfield 66, 3) := by decide +kernel
theorem dX2_readThing_54 : decode cX2_readThing 54 = .ok (.iload_n 1, 1) := by decide +kernel
theorem dX2_readThing_55 : decode cX2_readThing 55 = .ok (.invokevirtual 168, 3) := by decide +kernel
theorem dX2_readThing_58 : decode cX2_readThing 58 = .ok (.ifCond .eq 11, 3) := by decide +kernel
theorem dX2_readThing_61 : decode cX2_readThing 61 = .ok (.aload_n 0, 1) := by decide +kernel
theorem dX2_readThing_62 : decode cX2_readThing 62 = .ok (.iload_n 1, 1) := by decide +kernel
theorem dX2_readThing_63 : decode cX2_readThing 63 = .ok (.iload_n 2, 1) := by decide +kernel
theorem dX2_readThing_64 : decode cX2_readThing 64 = .ok (.iconst 0, 1) := by decide +kernel
theorem dX2_readThing_65 : decode cX2_readThing 65 = .ok (.invokevirtual 172, 3) := by decide +kernel
theorem dX2_readThing_68 : decode cX2_readThing 68 = .ok (.return_, 1) := by decide +kernel
theorem dX2_readThing_69 : decode cX2_readThing 69 = .ok (.iload_n 3, 1) := by decide +kernel
theorem dX2_readThing_70 : decode cX2_readThing 70 = .ok (.bipush 8, 2) := by decide +kernel
theorem dX2_readThing_72 : decode cX2_readThing 72 = .ok (.if_icmp .ge 13, 3) := by decide +kernel
theorem dX2_readThing_75 : decode cX2_readThing 75 = .ok (.aload_n 0, 1) := by decide +kernel
theorem dX2_readThing_76 : decode cX2_readThing 76 = .ok (.getfield 66, 3) := by decide +kernel
theorem dX2_readThing_79 : decode cX2_readThing 79 = .ok (.invokevirtual 176, 3) := by decide +kernel
theorem dX2_readThing_82 : decode cX2_readThing 82 = .ok (.goto 4, 3) := by decide +kernel
theorem dX2_readThing_85 : decode cX2_readThing 85 = .ok (.iconst (-1), 1) := by decide +kernel
theorem dX2_readThing_86 : decode cX2_readThing 86 = .ok (.istore 5, 2) := by decide +kernel
theorem dX2_readThing_88 : decode cX2_readThing 88 = .ok (.aload_n 0, 1) := by decide +kernel
theorem dX2_readThing_89 : decode cX2_readThing 89 = .ok (.getfield 66, 3) := by decide +kernel
theorem dX2_readThing_92 : decode cX2_readThing 92 = .ok (.getfield 145, 3) := by decide +kernel
theorem dX2_readThing_95 : decode cX2_readThing 95 = .ok (.iconst (-1), 1) := by decide +kernel
theorem dX2_readThing_96 : decode cX2_readThing 96 = .ok (.if_icmp .ne 26, 3) := by decide +kernel
theorem dX2_readThing_99 : decode cX2_readThing 99 = .ok (.aload_n 0, 1) := by decide +kernel
theorem dX2_readThing_100 : decode cX2_readThing 100 = .ok (.getfield 49, 3) := by decide +kernel
theorem dX2_readThing_103 : decode cX2_readThing 103 = .ok (.getfield 179, 3) := by decide +kernel
theorem dX2_readThing_106 : decode cX2_readThing 106 = .ok (.iconst 0, 1) := by decide +kernel
theorem dX2_readThing_107 : decode cX2_readThing 107 = .ok (.baload, 1) := by decide +kernel
theorem dX2_readThing_108 : decode cX2_readThing 108 = .ok (.ifCond .eq 14, 3) := by decide +kernel
theorem dX2_readThing_111 : decode cX2_readThing 111 = .ok (.aload_n 0, 1) := by decide +kernel
theorem dX2_readThing_112 : decode cX2_readThing 112 = .ok (.iconst 0, 1) := by decide +kernel
theorem dX2_readThing_113 : decode cX2_readThing 113 = .ok (.bipush 60, 2) := by decide +kernel
theorem dX2_readThing_115 : decode cX2_readThing 115 = .ok (.iconst 1, 1) := by decide +kernel
theorem dX2_readThing_116 : decode cX2_readThing 116 = .ok (.invokevirtual 172, 3) := by decide +kernel
theorem dX2_readThing_119 : decode cX2_readThing 119 = .ok (.goto 70, 3) := by decide +kernel
theorem dX2_readThing_122 : decode cX2_readThing 122 = .ok (.iload 5, 2) := by decide +kernel
theorem dX2_readThing_124 : decode cX2_readThing 124 = .ok (.iconst (-1), 1) := by decide +kernel
theorem dX2_readThing_125 : decode cX2_readThing 125 = .ok (.if_icmp .eq 28, 3) := by decide +kernel
theorem dX2_readThing_128 : decode cX2_readThing 128 = .ok (.aload_n 0, 1) := by decide +kernel
theorem dX2_readThing_129 : decode cX2_readThing 129 = .ok (.getfield 66, 3) := by decide +kernel
theorem dX2_readThing_132 : decode cX2_readThing 132 = .ok (.iload 5, 2) := by decide +kernel
theorem dX2_readThing_134 : decode cX2_readThing 134 = .ok (.invokevirtual 168, 3) := by decide +kernel
theorem dX2_readThing_137 : decode cX2_readThing 137 = .ok (.pop, 1) := by decide +kernel
theorem dX2_readThing_138 : decode cX2_readThing 138 = .ok (.aload_n 0, 1) := by decide +kernel
theorem dX2_readThing_139 : decode cX2_readThing 139 = .ok (.iload 5, 2) := by decide +kernel
theorem dX2_readThing_141 : decode cX2_readThing 141 = .ok (.bipush 60, 2) := by decide +kernel
theorem dX2_readThing_143 : decode cX2_readThing 143 = .ok (.iconst 1, 1) := by decide +kernel
theorem dX2_readThing_144 : decode cX2_readThing 144 = .ok (.invokevirtual 172, 3) := by decide +kernel
theorem dX2_readThing_147 : decode cX2_readThing 147 = .ok (.iinc 3 1, 3) := by decide +kernel
theorem dX2_readThing_150 : decode cX2_readThing 150 = .ok (.goto 39, 3) := by decide +kernel
theorem dX2_readThing_153 : decode cX2_readThing 153 = .ok (.aload_n 0, 1) := by decide +kernel
theorem dX2_readThing_154 : decode cX2_readThing 154 = .ok (.getfield 66, 3) := by decide +kernel
theorem dX2_readThing_157 : decode cX2_readThing 157 = .ok (.invokevirtual 185, 3) := by decide +kernel
theorem dX2_readThing_160 : decode cX2_readThing 160 = .ok (.ifCond .eq 23, 3) := by decide +kernel
theorem dX2_readThing_163 : decode cX2_readThing 163 = .ok (.aload_n 0, 1) := by decide +kernel
theorem dX2_readThing_164 : decode cX2_readThing 164 = .ok (.getfield 66, 3) := by decide +kernel
theorem dX2_readThing_167 : decode cX2_readThing 167 = .ok (.invokevirtual 189, 3) := by decide +kernel
theorem dX2_readThing_170 : decode cX2_readThing 170 = .ok (.aload_n 0, 1) := by decide +kernel
theorem dX2_readThing_171 : decode cX2_readThing 171 = .ok (.dup, 1) := by decide +kernel
theorem dX2_readThing_172 : decode cX2_readThing 172 = .ok (.getfield 81, 3) := by decide +kernel
theorem dX2_readThing_175 : decode cX2_readThing 175 = .ok (.iconst 1, 1) := by decide +kernel
theorem dX2_readThing_176 : decode cX2_readThing 176 = .ok (.iadd, 1) := by decide +kernel
theorem dX2_readThing_177 : decode cX2_readThing 177 = .ok (.putfield 81, 3) := by decide +kernel
theorem dX2_readThing_180 : decode cX2_readThing 180 = .ok (.goto 9, 3) := by decide +kernel
theorem dX2_readThing_183 : decode cX2_readThing 183 = .ok (.aload_n 0, 1) := by decide +kernel
theorem dX2_readThing_184 : decode cX2_readThing 184 = .ok (.iconst 0, 1) := by decide +kernel
theorem dX2_readThing_185 : decode cX2_readThing 185 = .ok (.invokevirtual 142, 3) := by decide +kernel
theorem dX2_readThing_188 : decode cX2_readThing 188 = .ok (.return_, 1) := by decide +kernel
theorem dX2_readThing_189 : decode cX2_readThing 189 = .ok (.iinc 4 1, 3) := by decide +kernel
theorem dX2_readThing_192 : decode cX2_readThing 192 = .ok (.goto (-187), 3) := by decide +kernel
theorem dX2_readThing_195 : decode cX2_readThing 195 = .ok (.return_, 1) := by decide +kernel
theorem dX2_addThing_0 : decode cX2_addThing 0 = .ok (.aload_n 0, 1) := by decide +kernel
theorem dX2_addThing_1 : decode cX2_addThing 1 = .ok (.getfield 66, 3) := by decide +kernel
theorem dX2_addThing_4 : decode cX2_addThing 4 = .ok (.getfield 165, 3) := by decide +kernel
theorem dX2_addThing_7 : decode cX2_addThing 7 = .ok (.ifCond .le 20, 3) := by decide +kernel
theorem dX2_addThing_10 : decode cX2_addThing 10 = .ok (.aload_n 0, 1) := by decide +kernel
theorem dX2_addThing_11 : decode cX2_addThing 11 = .ok (.getfield 34, 3) := by decide +kernel
theorem dX2_addThing_14 : decode cX2_addThing 14 = .ok (.aload_n 0, 1) := by decide +kernel
theorem dX2_addThing_15 : decode cX2_addThing 15 = .ok (.getfield 66, 3) := by decide +kernel
theorem dX2_addThing_18 : decode cX2_addThing 18 = .ok (.getfield 165, 3) := by decide +kernel
theorem dX2_addThing_21 : decode cX2_addThing 21 = .ok (.iconst 1, 1) := by decide +kernel
theorem dX2_addThing_22 : decode cX2_addThing 22 = .ok (.isub, 1) := by decide +kernel
theorem dX2_addThing_23 : decode cX2_addThing 23 = .ok (.iaload, 1) := by decide +kernel
theorem dX2_addThing_24 : decode cX2_addThing 24 = .ok (.goto 4, 3) := by decide +kernel
theorem dX2_addThing_27 : decode cX2_addThing 27 = .ok (.iconst (-1), 1) := by decide +kernel
theorem dX2_addThing_28 : decode cX2_addThing 28 = .ok (.istore 4, 2) := by decide +kernel
theorem dX2_addThing_30 : decode cX2_addThing 30 = .ok (.aload_n 0, 1) := by decide +kernel
theorem dX2_addThing_31 : decode cX2_addThing 31 = .ok (.getfield 12, 3) := by decide +kernel
theorem dX2_addThing_34 : decode cX2_addThing 34 = .ok (.getfield 77, 3) := by decide +kernel
theorem dX2_addThing_37 : decode cX2_addThing 37 = .ok (.istore 5, 2) := by decide +kernel
theorem dX2_addThing_39 : decode cX2_addThing 39 = .ok (.aload_n 0, 1) := by decide +kernel
theorem dX2_addThing_40 : decode cX2_addThing 40 = .ok (.getfield 12, 3) := by decide +kernel
theorem dX2_addThing_43 : decode cX2_addThing 43 = .ok (.iload_n 1, 1) := by decide +kernel
theorem dX2_addThing_44 : decode cX2_addThing 44 = .ok (.iload 4, 2) := by decide +kernel
theorem dX2_addThing_46 : decode cX2_addThing 46 = .ok (.iload_n 2, 1) := by decide +kernel
theorem dX2_addThing_47 : decode cX2_addThing 47 = .ok (.aload_n 0, 1) := by decide +kernel
theorem dX2_addThing_48 : decode cX2_addThing 48 = .ok (.getfield 123, 3) := by decide +kernel
theorem dX2_addThing_51 : decode cX2_addThing 51 = .ok (.iload_n 3, 1) := by decide +kernel
theorem dX2_addThing_52 : decode cX2_addThing 52 = .ok (.invokevirtual 192, 3) := by decide +kernel
theorem dX2_addThing_55 : decode cX2_addThing 55 = .ok (.iload_n 1, 1) := by decide +kernel
theorem dX2_addThing_56 : decode cX2_addThing 56 = .ok (.bipush 10, 2) := by decide +kernel
theorem dX2_addThing_58 : decode cX2_addThing 58 = .ok (.if_icmp .ne 4, 3) := by decide +kernel
theorem dX2_addThing_61 : decode cX2_addThing 61 = .ok (.return_, 1) := by decide +kernel
theorem dX2_addThing_62 : decode cX2_addThing 62 = .ok (.aload_n 0, 1) := by decide +kernel
theorem dX2_addThing_63 : decode cX2_addThing 63 = .ok (.getfield 66, 3) := by decide +kernel
theorem dX2_addThing_66 : decode cX2_addThing 66 = .ok (.getfield 165, 3) := by decide +kernel
theorem dX2_addThing_69 : decode cX2_addThing 69 = .ok (.bipush 20, 2) := by decide +kernel
theorem dX2_addThing_71 : decode cX2_addThing 71 = .ok (.if_icmp .ge 17, 3) := by decide +kernel
theorem dX2_addThing_74 : decode cX2_addThing 74 = .ok (.aload_n 0, 1) := by decide +kernel
theorem dX2_addThing_75 : decode cX2_addThing 75 = .ok (.getfield 34, 3) := by decide +kernel
theorem dX2_addThing_78 : decode cX2_addThing 78 = .ok (.aload_n 0, 1) := by decide +kernel
theorem dX2_addThing_79 : decode cX2_addThing 79 = .ok (.getfield 66, 3) := by decide +kernel
theorem dX2_addThing_82 : decode cX2_addThing 82 = .ok (.getfield 165, 3) := by decide +kernel
theorem dX2_addThing_85 : decode cX2_addThing 85 = .ok (.iload 5, 2) := by decide +kernel
theorem dX2_addThing_87 : decode cX2_addThing 87 = .ok (.iastore, 1) := by decide +kernel
theorem dX2_addThing_88 : decode cX2_addThing 88 = .ok (.aload_n 0, 1) := by decide +kernel
theorem dX2_addThing_89 : decode cX2_addThing 89 = .ok (.getfield 66, 3) := by decide +kernel
theorem dX2_addThing_92 : decode cX2_addThing 92 = .ok (.iload_n 1, 1) := by decide +kernel
theorem dX2_addThing_93 : decode cX2_addThing 93 = .ok (.invokevirtual 195, 3) := by decide +kernel
theorem dX2_addThing_96 : decode cX2_addThing 96 = .ok (.return_, 1) := by decide +kernel
theorem dX2_closeByTag_0 : decode cX2_closeByTag 0 = .ok (.iload_n 1, 1) := by decide +kernel
theorem dX2_closeByTag_1 : decode cX2_closeByTag 1 = .ok (.iconst (-1), 1) := by decide +kernel
theorem dX2_closeByTag_2 : decode cX2_closeByTag 2 = .ok (.if_icmp .ne 11, 3) := by decide +kernel
theorem dX2_closeByTag_5 : decode cX2_closeByTag 5 = .ok (.aload_n 0, 1) := by decide +kernel
theorem dX2_closeByTag_6 : decode cX2_closeByTag 6 = .ok (.iconst 1, 1) := by decide +kernel
theorem dX2_closeByTag_7 : decode cX2_closeByTag 7 = .ok (.invokevirtual 142, 3) := by decide +kernel
theorem dX2_closeByTag_10 : decode cX2_closeByTag 10 = .ok (.goto 9, 3) := by decide +kernel
theorem dX2_closeByTag_13 : decode cX2_closeByTag 13 = .ok (.aload_n 0, 1) := by decide +kernel
theorem dX2_closeByTag_14 : decode cX2_closeByTag 14 = .ok (.iload_n 1, 1) := by decide +kernel
theorem dX2_closeByTag_15 : decode cX2_closeByTag 15 = .ok (.iconst 1, 1) := by decide +kernel
theorem dX2_closeByTag_16 : decode cX2_closeByTag 16 = .ok (.invokevirtual 95, 3) := by decide +kernel
theorem dX2_closeByTag_19 : decode cX2_closeByTag 19 = .ok (.return_, 1) := by decide +kernel
theorem dX2_closeUpTo_0 : decode cX2_closeUpTo 0 = .ok (.aload_n 0, 1) := by decide +kernel
theorem dX2_closeUpTo_1 : decode cX2_closeUpTo 1 = .ok (.getfield 66, 3) := by decide +kernel
theorem dX2_closeUpTo_4 : decode cX2_closeUpTo 4 = .ok (.getfield 165, 3) := by decide +kernel
theorem dX2_closeUpTo_7 : decode cX2_closeUpTo 7 = .ok (.iconst 1, 1) := by decide +kernel
theorem dX2_closeUpTo_8 : decode cX2_closeUpTo 8 = .ok (.isub, 1) := by decide +kernel
theorem dX2_closeUpTo_9 : decode cX2_closeUpTo 9 = .ok (.istore_n 3, 1) := by decide +kernel
theorem dX2_closeUpTo_10 : decode cX2_closeUpTo 10 = .ok (.iload_n 3, 1) := by decide +kernel
theorem dX2_closeUpTo_11 : decode cX2_closeUpTo 11 = .ok (.iload_n 1, 1) := by decide +kernel
theorem dX2_closeUpTo_12 : decode cX2_closeUpTo 12 = .ok (.if_icmp .lt 75, 3) := by decide +kernel
theorem dX2_closeUpTo_15 : decode cX2_closeUpTo 15 = .ok (.aload_n 0, 1) := by decide +kernel
theorem dX2_closeUpTo_16 : decode cX2_closeUpTo 16 = .ok (.getfield 66, 3) := by decide +kernel
theorem dX2_closeUpTo_19 : decode cX2_closeUpTo 19 = .ok (.invokevirtual 198, 3) := by decide +kernel
theorem dX2_closeUpTo_22 : decode cX2_closeUpTo 22 = .ok (.ifCond .ne 8, 3) := by decide +kernel
theorem dX2_closeUpTo_25 : decode cX2_closeUpTo 25 = .ok (.aload_n 0, 1) := by decide +kernel
theorem dX2_closeUpTo_26 : decode cX2_closeUpTo 26 = .ok (.iconst 2, 1) := by decide +kernel
theorem dX2_closeUpTo_27 : decode cX2_closeUpTo 27 = .ok (.invokevirtual 142, 3) := by decide +kernel
theorem dX2_closeUpTo_30 : decode cX2_closeUpTo 30 = .ok (.iload_n 3, 1) := by decide +kernel
theorem dX2_closeUpTo_31 : decode cX2_closeUpTo 31 = .ok (.iload_n 1, 1) := by decide +kernel
theorem dX2_closeUpTo_32 : decode cX2_closeUpTo 32 = .ok (.if_icmp .gt 7, 3) := by decide +kernel
theorem dX2_closeUpTo_35 : decode cX2_closeUpTo 35 = .ok (.iload_n 2, 1) := by decide +kernel
theorem dX2_closeUpTo_36 : decode cX2_closeUpTo 36 = .ok (.ifCond .ne 38, 3) := by decide +kernel
theorem dX2_closeUpTo_39 : decode cX2_closeUpTo 39 = .ok (.aload_n 0, 1) := by decide +kernel
theorem dX2_closeUpTo_40 : decode cX2_closeUpTo 40 = .ok (.dup, 1) := by decide +kernel
theorem dX2_closeUpTo_41 : decode cX2_closeUpTo 41 = .ok (.getfield 81, 3) := by decide +kernel
theorem dX2_closeUpTo_44 : decode cX2_closeUpTo 44 = .ok (.iconst 1, 1) := by decide +kernel
theorem dX2_closeUpTo_45 : decode cX2_closeUpTo 45 = .ok (.iadd, 1) := by decide +kernel
theorem dX2_closeUpTo_46 : decode cX2_closeUpTo 46 = .ok (.putfield 81, 3) := by decide +kernel
theorem dX2_closeUpTo_49 : decode cX2_closeUpTo 49 = .ok (.aload_n 0, 1) := by decide +kernel
theorem dX2_closeUpTo_50 : decode cX2_closeUpTo 50 = .ok (.getfield 49, 3) := by decide +kernel
theorem dX2_closeUpTo_53 : decode cX2_closeUpTo 53 = .ok (.getfield 201, 3) := by decide +kernel
theorem dX2_closeUpTo_56 : decode cX2_closeUpTo 56 = .ok (.aload_n 0, 1) := by decide +kernel
theorem dX2_closeUpTo_57 : decode cX2_closeUpTo 57 = .ok (.getfield 66, 3) := by decide +kernel
theorem dX2_closeUpTo_60 : decode cX2_closeUpTo 60 = .ok (.getfield 204, 3) := by decide +kernel
theorem dX2_closeUpTo_63 : decode cX2_closeUpTo 63 = .ok (.iload_n 3, 1) := by decide +kernel
theorem dX2_closeUpTo_64 : decode cX2_closeUpTo 64 = .ok (.iaload, 1) := by decide +kernel
theorem dX2_closeUpTo_65 : decode cX2_closeUpTo 65 = .ok (.baload, 1) := by decide +kernel
theorem dX2_closeUpTo_66 : decode cX2_closeUpTo 66 = .ok (.ifCond .ne 8, 3) := by decide +kernel
theorem dX2_closeUpTo_69 : decode cX2_closeUpTo 69 = .ok (.aload_n 0, 1) := by decide +kernel
theorem dX2_closeUpTo_70 : decode cX2_closeUpTo 70 = .ok (.iconst 3, 1) := by decide +kernel
theorem dX2_closeUpTo_71 : decode cX2_closeUpTo 71 = .ok (.invokevirtual 142, 3) := by decide +kernel
theorem dX2_closeUpTo_74 : decode cX2_closeUpTo 74 = .ok (.aload_n 0, 1) := by decide +kernel
theorem dX2_closeUpTo_75 : decode cX2_closeUpTo 75 = .ok (.getfield 66, 3) := by decide +kernel
theorem dX2_closeUpTo_78 : decode cX2_closeUpTo 78 = .ok (.invokevirtual 189, 3) := by decide +kernel
theorem dX2_closeUpTo_81 : decode cX2_closeUpTo 81 = .ok (.iinc 3 (-1), 3) := by decide +kernel
theorem dX2_closeUpTo_84 : decode cX2_closeUpTo 84 = .ok (.goto (-74), 3) := by decide +kernel
theorem dX2_closeUpTo_87 : decode cX2_closeUpTo 87 = .ok (.return_, 1) := by decide +kernel
theorem dX2_addError_0 : decode cX2_addError 0 = .ok (.aload_n 0, 1) := by decide +kernel
theorem dX2_addError_1 : decode cX2_addError 1 = .ok (.getfield 78, 3) := by decide +kernel
theorem dX2_addError_4 : decode cX2_addError 4 = .ok (.sipush 4920, 3) := by decide +kernel
theorem dX2_addError_7 : decode cX2_addError 7 = .ok (.if_icmp .ge 36, 3) := by decide +kernel
theorem dX2_addError_10 : decode cX2_addError 10 = .ok (.aload_n 0, 1) := by decide +kernel
theorem dX2_addError_11 : decode cX2_addError 11 = .ok (.getfield 27, 3) := by decide +kernel
theorem dX2_addError_14 : decode cX2_addError 14 = .ok (.aload_n 0, 1) := by decide +kernel
theorem dX2_addError_15 : decode cX2_addError 15 = .ok (.getfield 78, 3) := by decide +kernel
theorem dX2_addError_18 : decode cX2_addError 18 = .ok (.iload_n 1, 1) := by decide +kernel
theorem dX2_addError_19 : decode cX2_addError 19 = .ok (.iastore, 1) := by decide +kernel
theorem dX2_addError_20 : decode cX2_addError 20 = .ok (.aload_n 0, 1) := by decide +kernel
theorem dX2_addError_21 : decode cX2_addError 21 = .ok (.getfield 31, 3) := by decide +kernel
theorem dX2_addError_24 : decode cX2_addError 24 = .ok (.aload_n 0, 1) := by decide +kernel
theorem dX2_addError_25 : decode cX2_addError 25 = .ok (.getfield 78, 3) := by decide +kernel
theorem dX2_addError_28 : decode cX2_addError 28 = .ok (.aload_n 0, 1) := by decide +kernel
theorem dX2_addError_29 : decode cX2_addError 29 = .ok (.getfield 123, 3) := by decide +kernel
theorem dX2_addError_32 : decode cX2_addError 32 = .ok (.iastore, 1) := by decide +kernel
theorem dX2_addError_33 : decode cX2_addError 33 = .ok (.aload_n 0, 1) := by decide +kernel
theorem dX2_addError_34 : decode cX2_addError 34 = .ok (.dup, 1) := by decide +kernel
theorem dX2_addError_35 : decode cX2_addError 35 = .ok (.getfield 78, 3) := by decide +kernel
theorem dX2_addError_38 : decode cX2_addError 38 = .ok (.iconst 1, 1) := by decide +kernel
theorem dX2_addError_39 : decode cX2_addError 39 = .ok (.iadd, 1) := by decide +kernel
theorem dX2_addError_40 : decode cX2_addError 40 = .ok (.putfield 78, 3) := by decide +kernel
theorem dX2_addError_43 : decode cX2_addError 43 = .ok (.return_, 1) := by decide +kernel
theorem dX2_writeNormalForm_0 : decode cX2_writeNormalForm 0 = .ok (.aload_n 0, 1) := by decide +kernel
theorem dX2_writeNormalForm_1 : decode cX2_writeNormalForm 1 = .ok (.getfield 23, 3) := by decide +kernel
theorem dX2_writeNormalForm_4 : decode cX2_writeNormalForm 4 = .ok (.iconst 0, 1) := by decide +kernel
theorem dX2_writeNormalForm_5 : decode cX2_writeNormalForm 5 = .ok (.putfield 70, 3) := by decide +kernel
theorem dX2_writeNormalForm_8 : decode cX2_writeNormalForm 8 = .ok (.iconst 0, 1) := by decide +kernel
theorem dX2_writeNormalForm_9 : decode cX2_writeNormalForm 9 = .ok (.istore_n 1, 1) := by decide +kernel
theorem dX2_writeNormalForm_10 : decode cX2_writeNormalForm 10 = .ok (.iconst 0, 1) := by decide +kernel
theorem dX2_writeNormalForm_11 : decode cX2_writeNormalForm 11 = .ok (.istore_n 2, 1) := by decide +kernel
theorem dX2_writeNormalForm_12 : decode cX2_writeNormalForm 12 = .ok (.iload_n 2, 1) := by decide +kernel
theorem dX2_writeNormalForm_13 : decode cX2_writeNormalForm 13 = .ok (.aload_n 0, 1) := by decide +kernel
theorem dX2_writeNormalForm_14 : decode cX2_writeNormalForm 14 = .ok (.getfield 12, 3) := by decide +kernel
theorem dX2_writeNormalForm_17 : decode cX2_writeNormalForm 17 = .ok (.getfield 77, 3) := by decide +kernel
theorem dX2_writeNormalForm_20 : decode cX2_writeNormalForm 20 = .ok (.if_icmp .ge 114, 3) := by decide +kernel
theorem dX2_writeNormalForm_23 : decode cX2_writeNormalForm 23 = .ok (.aload_n 0, 1) := by decide +kernel
theorem dX2_writeNormalForm_24 : decode cX2_writeNormalForm 24 = .ok (.iload_n 1, 1) := by decide +kernel
theorem dX2_writeNormalForm_25 : decode cX2_writeNormalForm 25 = .ok (.aload_n 0, 1) := by decide +kernel
theorem dX2_writeNormalForm_26 : decode cX2_writeNormalForm 26 = .ok (.getfield 12, 3) := by decide +kernel
theorem dX2_writeNormalForm_29 : decode cX2_writeNormalForm 29 = .ok (.getfield 207, 3) := by decide +kernel
theorem dX2_writeNormalForm_32 : decode cX2_writeNormalForm 32 = .ok (.iload_n 2, 1) := by decide +kernel
theorem dX2_writeNormalForm_33 : decode cX2_writeNormalForm 33 = .ok (.iaload, 1) := by decide +kernel
theorem dX2_writeNormalForm_34 : decode cX2_writeNormalForm 34 = .ok (.invokevirtual 210, 3) := by decide +kernel
theorem dX2_writeNormalForm_37 : decode cX2_writeNormalForm 37 = .ok (.istore_n 1, 1) := by decide +kernel
theorem dX2_writeNormalForm_38 : decode cX2_writeNormalForm 38 = .ok (.aload_n 0, 1) := by decide +kernel
theorem dX2_writeNormalForm_39 : decode cX2_writeNormalForm 39 = .ok (.getfield 12, 3) := by decide +kernel
theorem dX2_writeNormalForm_42 : decode cX2_writeNormalForm 42 = .ok (.getfield 214, 3) := by decide +kernel
theorem dX2_writeNormalForm_45 : decode cX2_writeNormalForm 45 = .ok (.iload_n 2, 1) := by decide +kernel
theorem dX2_writeNormalForm_46 : decode cX2_writeNormalForm 46 = .ok (.iaload, 1) := by decide +kernel
theorem dX2_writeNormalForm_47 : decode cX2_writeNormalForm 47 = .ok (.istore_n 3, 1) := by decide +kernel
theorem dX2_writeNormalForm_48 : decode cX2_writeNormalForm 48 = .ok (.iload_n 3, 1) := by decide +kernel
theorem dX2_writeNormalForm_49 : decode cX2_writeNormalForm 49 = .ok (.bipush 10, 2) := by decide +kernel
theorem dX2_writeNormalForm_51 : decode cX2_writeNormalForm 51 = .ok (.if_icmp .ne 30, 3) := by decide +kernel
theorem dX2_writeNormalForm_54 : decode cX2_writeNormalForm 54 = .ok (.aload_n 0, 1) := by decide +kernel
theorem dX2_writeNormalForm_55 : decode cX2_writeNormalForm 55 = .ok (.getfield 23, 3) := by decide +kernel
theorem dX2_writeNormalForm_58 : decode cX2_writeNormalForm 58 = .ok (.aload_n 0, 1) := by decide +kernel
theorem dX2_writeNormalForm_59 : decode cX2_writeNormalForm 59 = .ok (.getfield 23, 3) := by decide +kernel
theorem dX2_writeNormalForm_62 : decode cX2_writeNormalForm 62 = .ok (.getfield 70, 3) := by decide +kernel
theorem dX2_writeNormalForm_65 : decode cX2_writeNormalForm 65 = .ok (.iconst 4, 1) := by decide +kernel
theorem dX2_writeNormalForm_66 : decode cX2_writeNormalForm 66 = .ok (.aload_n 0, 1) := by decide +kernel
theorem dX2_writeNormalForm_67 : decode cX2_writeNormalForm 67 = .ok (.getfield 12, 3) := by decide +kernel
theorem dX2_writeNormalForm_70 : decode cX2_writeNormalForm 70 = .ok (.getfield 217, 3) := by decide +kernel
theorem dX2_writeNormalForm_73 : decode cX2_writeNormalForm 73 = .ok (.iload_n 2, 1) := by decide +kernel
theorem dX2_writeNormalForm_74 : decode cX2_writeNormalForm 74 = .ok (.caload, 1) := by decide +kernel
theorem dX2_writeNormalForm_75 : decode cX2_writeNormalForm 75 = .ok (.invokevirtual 221, 3) := by decide +kernel
theorem dX2_writeNormalForm_78 : decode cX2_writeNormalForm 78 = .ok (.goto 50, 3) := by decide +kernel
theorem dX2_writeNormalForm_81 : decode cX2_writeNormalForm 81 = .ok (.aload_n 0, 1) := by decide +kernel
theorem dX2_writeNormalForm_82 : decode cX2_writeNormalForm 82 = .ok (.getfield 23, 3) := by decide +kernel
theorem dX2_writeNormalForm_85 : decode cX2_writeNormalForm 85 = .ok (.aload_n 0, 1) := by decide +kernel
theorem dX2_writeNormalForm_86 : decode cX2_writeNormalForm 86 = .ok (.getfield 23, 3) := by decide +kernel
theorem dX2_writeNormalForm_89 : decode cX2_writeNormalForm 89 = .ok (.getfield 70, 3) := by decide +kernel
theorem dX2_writeNormalForm_92 : decode cX2_writeNormalForm 92 = .ok (.iconst 0, 1) := by decide +kernel
theorem dX2_writeNormalForm_93 : decode cX2_writeNormalForm 93 = .ok (.iload_n 3, 1) := by decide +kernel
theorem dX2_writeNormalForm_94 : decode cX2_writeNormalForm 94 = .ok (.invokevirtual 221, 3) := by decide +kernel
theorem dX2_writeNormalForm_97 : decode cX2_writeNormalForm 97 = .ok (.aload_n 0, 1) := by decide +kernel
theorem dX2_writeNormalForm_98 : decode cX2_writeNormalForm 98 = .ok (.getfield 49, 3) := by decide +kernel
theorem dX2_writeNormalForm_101 : decode cX2_writeNormalForm 101 = .ok (.getfield 225, 3) := by decide +kernel
theorem dX2_writeNormalForm_104 : decode cX2_writeNormalForm 104 = .ok (.iload_n 3, 1) := by decide +kernel
theorem dX2_writeNormalForm_105 : decode cX2_writeNormalForm 105 = .ok (.aaload, 1) := by decide +kernel
theorem dX2_writeNormalForm_106 : decode cX2_writeNormalForm 106 = .ok (.getfield 229, 3) := by decide +kernel
theorem dX2_writeNormalForm_109 : decode cX2_writeNormalForm 109 = .ok (.ifCond .le 19, 3) := by decide +kernel
theorem dX2_writeNormalForm_112 : decode cX2_writeNormalForm 112 = .ok (.iload_n 1, 1) := by decide +kernel
theorem dX2_writeNormalForm_113 : decode cX2_writeNormalForm 113 = .ok (.bipush 20, 2) := by decide +kernel
theorem dX2_writeNormalForm_115 : decode cX2_writeNormalForm 115 = .ok (.if_icmp .ge 13, 3) := by decide +kernel
theorem dX2_writeNormalForm_118 : decode cX2_writeNormalForm 118 = .ok (.aload_n 0, 1) := by decide +kernel
theorem dX2_writeNormalForm_119 : decode cX2_writeNormalForm 119 = .ok (.getfield 34, 3) := by decide +kernel
theorem dX2_writeNormalForm_122 : decode cX2_writeNormalForm 122 = .ok (.iload_n 1, 1) := by decide +kernel
theorem dX2_writeNormalForm_123 : decode cX2_writeNormalForm 123 = .ok (.iload_n 2, 1) := by decide +kernel
theorem dX2_writeNormalForm_124 : decode cX2_writeNormalForm 124 = .ok (.iastore, 1) := by decide +kernel
theorem dX2_writeNormalForm_125 : decode cX2_writeNormalForm 125 = .ok (.iinc 1 1, 3) := by decide +kernel
theorem dX2_writeNormalForm_128 : decode cX2_writeNormalForm 128 = .ok (.iinc 2 1, 3) := by decide +kernel
theorem dX2_writeNormalForm_131 : decode cX2_writeNormalForm 131 = .ok (.goto (-119), 3) := by decide +kernel
theorem dX2_writeNormalForm_134 : decode cX2_writeNormalForm 134 = .ok (.aload_n 0, 1) := by decide +kernel
theorem dX2_writeNormalForm_135 : decode cX2_writeNormalForm 135 = .ok (.iload_n 1, 1) := by decide +kernel
theorem dX2_writeNormalForm_136 : decode cX2_writeNormalForm 136 = .ok (.iconst (-1), 1) := by decide +kernel
theorem dX2_writeNormalForm_137 : decode cX2_writeNormalForm 137 = .ok (.invokevirtual 210, 3) := by decide +kernel
theorem dX2_writeNormalForm_140 : decode cX2_writeNormalForm 140 = .ok (.pop, 1) := by decide +kernel
theorem dX2_writeNormalForm_141 : decode cX2_writeNormalForm 141 = .ok (.return_, 1) := by decide +kernel
theorem dX2_writeEnds_0 : decode cX2_writeEnds 0 = .ok (.iload_n 1, 1) := by decide +kernel
theorem dX2_writeEnds_1 : decode cX2_writeEnds 1 = .ok (.iconst 1, 1) := by decide +kernel
theorem dX2_writeEnds_2 : decode cX2_writeEnds 2 = .ok (.isub, 1) := by decide +kernel
theorem dX2_writeEnds_3 : decode cX2_writeEnds 3 = .ok (.istore_n 3, 1) := by decide +kernel
theorem dX2_writeEnds_4 : decode cX2_writeEnds 4 = .ok (.iload_n 3, 1) := by decide +kernel
theorem dX2_writeEnds_5 : decode cX2_writeEnds 5 = .ok (.ifCond .lt 52, 3) := by decide +kernel
theorem dX2_writeEnds_8 : decode cX2_writeEnds 8 = .ok (.aload_n 0, 1) := by decide +kernel
theorem dX2_writeEnds_9 : decode cX2_writeEnds 9 = .ok (.getfield 34, 3) := by decide +kernel
theorem dX2_writeEnds_12 : decode cX2_writeEnds 12 = .ok (.iload_n 3, 1) := by decide +kernel
theorem dX2_writeEnds_13 : decode cX2_writeEnds 13 = .ok (.iaload, 1) := by decide +kernel
theorem dX2_writeEnds_14 : decode cX2_writeEnds 14 = .ok (.iload_n 2, 1) := by decide +kernel
theorem dX2_writeEnds_15 : decode cX2_writeEnds 15 = .ok (.if_icmp .ne 7, 3) := by decide +kernel
theorem dX2_writeEnds_18 : decode cX2_writeEnds 18 = .ok (.iload_n 3, 1) := by decide +kernel
theorem dX2_writeEnds_19 : decode cX2_writeEnds 19 = .ok (.iconst 1, 1) := by decide +kernel
theorem dX2_writeEnds_20 : decode cX2_writeEnds 20 = .ok (.iadd, 1) := by decide +kernel
theorem dX2_writeEnds_21 : decode cX2_writeEnds 21 = .ok (.ireturn, 1) := by decide +kernel
theorem dX2_writeEnds_22 : decode cX2_writeEnds 22 = .ok (.aload_n 0, 1) := by decide +kernel
theorem dX2_writeEnds_23 : decode cX2_writeEnds 23 = .ok (.getfield 23, 3) := by decide +kernel
theorem dX2_writeEnds_26 : decode cX2_writeEnds 26 = .ok (.aload_n 0, 1) := by decide +kernel
theorem dX2_writeEnds_27 : decode cX2_writeEnds 27 = .ok (.getfield 23, 3) := by decide +kernel
theorem dX2_writeEnds_30 : decode cX2_writeEnds 30 = .ok (.getfield 70, 3) := by decide +kernel
theorem dX2_writeEnds_33 : decode cX2_writeEnds 33 = .ok (.iconst 1, 1) := by decide +kernel
theorem dX2_writeEnds_34 : decode cX2_writeEnds 34 = .ok (.aload_n 0, 1) := by decide +kernel
theorem dX2_writeEnds_35 : decode cX2_writeEnds 35 = .ok (.getfield 12, 3) := by decide +kernel
theorem dX2_writeEnds_38 : decode cX2_writeEnds 38 = .ok (.getfield 214, 3) := by decide +kernel
theorem dX2_writeEnds_41 : decode cX2_writeEnds 41 = .ok (.aload_n 0, 1) := by decide +kernel
theorem dX2_writeEnds_42 : decode cX2_writeEnds 42 = .ok (.getfield 34, 3) := by decide +kernel
theorem dX2_writeEnds_45 : decode cX2_writeEnds 45 = .ok (.iload_n 3, 1) := by decide +kernel
theorem dX2_writeEnds_46 : decode cX2_writeEnds 46 = .ok (.iaload, 1) := by decide +kernel
theorem dX2_writeEnds_47 : decode cX2_writeEnds 47 = .ok (.iaload, 1) := by decide +kernel
theorem dX2_writeEnds_48 : decode cX2_writeEnds 48 = .ok (.invokevirtual 221, 3) := by decide +kernel
theorem dX2_writeEnds_51 : decode cX2_writeEnds 51 = .ok (.iinc 3 (-1), 3) := by decide +kernel
theorem dX2_writeEnds_54 : decode cX2_writeEnds 54 = .ok (.goto (-50), 3) := by decide +kernel
theorem dX2_writeEnds_57 : decode cX2_writeEnds 57 = .ok (.iconst 0, 1) := by decide +kernel
theorem dX2_writeEnds_58 : decode cX2_writeEnds 58 = .ok (.ireturn, 1) := by decide +kernel
theorem dX2_isNormalFormReadAsWritten_0 : decode cX2_isNormalFormReadAsWritten 0 = .ok (.aload_n 0, 1) := by decide +kernel
theorem dX2_isNormalFormReadAsWritten_1 : decode cX2_isNormalFormReadAsWritten 1 = .ok (.getfield 66, 3) := by decide +kernel
theorem dX2_isNormalFormReadAsWritten_4 : decode cX2_isNormalFormReadAsWritten 4 = .ok (.invokevirtual 84, 3) := by decide +kernel
theorem dX2_isNormalFormReadAsWritten_7 : decode cX2_isNormalFormReadAsWritten 7 = .ok (.iconst 0, 1) := by decide +kernel
theorem dX2_isNormalFormReadAsWritten_8 : decode cX2_isNormalFormReadAsWritten 8 = .ok (.istore_n 1, 1) := by decide +kernel
theorem dX2_isNormalFormReadAsWritten_9 : decode cX2_isNormalFormReadAsWritten 9 = .ok (.iload_n 1, 1) := by decide +kernel
theorem dX2_isNormalFormReadAsWritten_10 : decode cX2_isNormalFormReadAsWritten 10 = .ok (.aload_n 0, 1) := by decide +kernel
theorem dX2_isNormalFormReadAsWritten_11 : decode cX2_isNormalFormReadAsWritten 11 = .ok (.getfield 23, 3) := by decide +kernel
theorem dX2_isNormalFormReadAsWritten_14 : decode cX2_isNormalFormReadAsWritten 14 = .ok (.getfield 70, 3) := by decide +kernel
theorem dX2_isNormalFormReadAsWritten_17 : decode cX2_isNormalFormReadAsWritten 17 = .ok (.if_icmp .ge 39, 3) := by decide +kernel
theorem dX2_isNormalFormReadAsWritten_20 : decode cX2_isNormalFormReadAsWritten 20 = .ok (.aload_n 0, 1) := by decide +kernel
theorem dX2_isNormalFormReadAsWritten_21 : decode cX2_isNormalFormReadAsWritten 21 = .ok (.getfield 66, 3) := by decide +kernel
theorem dX2_isNormalFormReadAsWritten_24 : decode cX2_isNormalFormReadAsWritten 24 = .ok (.aload_n 0, 1) := by decide +kernel
theorem dX2_isNormalFormReadAsWritten_25 : decode cX2_isNormalFormReadAsWritten 25 = .ok (.getfield 23, 3) := by decide +kernel
theorem dX2_isNormalFormReadAsWritten_28 : decode cX2_isNormalFormReadAsWritten 28 = .ok (.getfield 117, 3) := by decide +kernel
theorem dX2_isNormalFormReadAsWritten_31 : decode cX2_isNormalFormReadAsWritten 31 = .ok (.iload_n 1, 1) := by decide +kernel
theorem dX2_isNormalFormReadAsWritten_32 : decode cX2_isNormalFormReadAsWritten 32 = .ok (.iaload, 1) := by decide +kernel
theorem dX2_isNormalFormReadAsWritten_33 : decode cX2_isNormalFormReadAsWritten 33 = .ok (.aload_n 0, 1) := by decide +kernel
theorem dX2_isNormalFormReadAsWritten_34 : decode cX2_isNormalFormReadAsWritten 34 = .ok (.getfield 23, 3) := by decide +kernel
theorem dX2_isNormalFormReadAsWritten_37 : decode cX2_isNormalFormReadAsWritten 37 = .ok (.getfield 120, 3) := by decide +kernel
theorem dX2_isNormalFormReadAsWritten_40 : decode cX2_isNormalFormReadAsWritten 40 = .ok (.iload_n 1, 1) := by decide +kernel
theorem dX2_isNormalFormReadAsWritten_41 : decode cX2_isNormalFormReadAsWritten 41 = .ok (.iaload, 1) := by decide +kernel
theorem dX2_isNormalFormReadAsWritten_42 : decode cX2_isNormalFormReadAsWritten 42 = .ok (.invokevirtual 234, 3) := by decide +kernel
theorem dX2_isNormalFormReadAsWritten_45 : decode cX2_isNormalFormReadAsWritten 45 = .ok (.ifCond .ne 5, 3) := by decide +kernel
theorem dX2_isNormalFormReadAsWritten_48 : decode cX2_isNormalFormReadAsWritten 48 = .ok (.iconst 0, 1) := by decide +kernel
theorem dX2_isNormalFormReadAsWritten_49 : decode cX2_isNormalFormReadAsWritten 49 = .ok (.ireturn, 1) := by decide +kernel
theorem dX2_isNormalFormReadAsWritten_50 : decode cX2_isNormalFormReadAsWritten 50 = .ok (.iinc 1 1, 3) := by decide +kernel
theorem dX2_isNormalFormReadAsWritten_53 : decode cX2_isNormalFormReadAsWritten 53 = .ok (.goto (-44), 3) := by decide +kernel
theorem dX2_isNormalFormReadAsWritten_56 : decode cX2_isNormalFormReadAsWritten 56 = .ok (.aload_n 0, 1) := by decide +kernel
theorem dX2_isNormalFormReadAsWritten_57 : decode cX2_isNormalFormReadAsWritten 57 = .ok (.getfield 66, 3) := by decide +kernel
theorem dX2_isNormalFormReadAsWritten_60 : decode cX2_isNormalFormReadAsWritten 60 = .ok (.getfield 165, 3) := by decide +kernel
theorem dX2_isNormalFormReadAsWritten_63 : decode cX2_isNormalFormReadAsWritten 63 = .ok (.ifCond .ne 7, 3) := by decide +kernel
theorem dX2_isNormalFormReadAsWritten_66 : decode cX2_isNormalFormReadAsWritten 66 = .ok (.iconst 1, 1) := by decide +kernel
theorem dX2_isNormalFormReadAsWritten_67 : decode cX2_isNormalFormReadAsWritten 67 = .ok (.goto 4, 3) := by decide +kernel
theorem dX2_isNormalFormReadAsWritten_70 : decode cX2_isNormalFormReadAsWritten 70 = .ok (.iconst 0, 1) := by decide +kernel
theorem dX2_isNormalFormReadAsWritten_71 : decode cX2_isNormalFormReadAsWritten 71 = .ok (.ireturn, 1) := by decide +kernel
theorem dX3_init_0 : decode cX3_init 0 = .ok (.aload_n 0, 1) := by decide +kernel
theorem dX3_init_1 : decode cX3_init 1 = .ok (.invokespecial 3, 3) := by decide +kernel
theorem dX3_init_4 : decode cX3_init 4 = .ok (.aload_n 0, 1) := by decide +kernel
theorem dX3_init_5 : decode cX3_init 5 = .ok (.iload_n 1, 1) := by decide +kernel
theorem dX3_init_6 : decode cX3_init 6 = .ok (.newarray .int, 2) := by decide +kernel
theorem dX3_init_8 : decode cX3_init 8 = .ok (.putfield 9, 3) := by decide +kernel
theorem dX3_init_11 : decode cX3_init 11 = .ok (.aload_n 0, 1) := by decide +kernel
theorem dX3_init_12 : decode cX3_init 12 = .ok (.iload_n 1, 1) := by decide +kernel
theorem dX3_init_13 : decode cX3_init 13 = .ok (.newarray .int, 2) := by decide +kernel
theorem dX3_init_15 : decode cX3_init 15 = .ok (.putfield 15, 3) := by decide +kernel
theorem dX3_init_18 : decode cX3_init 18 = .ok (.return_, 1) := by decide +kernel
theorem dX3_sortAt_0 : decode cX3_sortAt 0 = .ok (.iload_n 1, 1) := by decide +kernel
theorem dX3_sortAt_1 : decode cX3_sortAt 1 = .ok (.ifCond .lt 20, 3) := by decide +kernel
theorem dX3_sortAt_4 : decode cX3_sortAt 4 = .ok (.iload_n 1, 1) := by decide +kernel
theorem dX3_sortAt_5 : decode cX3_sortAt 5 = .ok (.aload_n 0, 1) := by decide +kernel
theorem dX3_sortAt_6 : decode cX3_sortAt 6 = .ok (.getfield 18, 3) := by decide +kernel
theorem dX3_sortAt_9 : decode cX3_sortAt 9 = .ok (.if_icmp .ge 12, 3) := by decide +kernel
theorem dX3_sortAt_12 : decode cX3_sortAt 12 = .ok (.aload_n 0, 1) := by decide +kernel
theorem dX3_sortAt_13 : decode cX3_sortAt 13 = .ok (.getfield 9, 3) := by decide +kernel
theorem dX3_sortAt_16 : decode cX3_sortAt 16 = .ok (.iload_n 1, 1) := by decide +kernel
theorem dX3_sortAt_17 : decode cX3_sortAt 17 = .ok (.iaload, 1) := by decide +kernel
theorem dX3_sortAt_18 : decode cX3_sortAt 18 = .ok (.goto 4, 3) := by decide +kernel
theorem dX3_sortAt_21 : decode cX3_sortAt 21 = .ok (.iconst (-1), 1) := by decide +kernel
theorem dX3_sortAt_22 : decode cX3_sortAt 22 = .ok (.ireturn, 1) := by decide +kernel
theorem dX3_putToken_0 : decode cX3_putToken 0 = .ok (.iload_n 1, 1) := by decide +kernel
theorem dX3_putToken_1 : decode cX3_putToken 1 = .ok (.ifCond .lt 23, 3) := by decide +kernel
theorem dX3_putToken_4 : decode cX3_putToken 4 = .ok (.iload_n 1, 1) := by decide +kernel
theorem dX3_putToken_5 : decode cX3_putToken 5 = .ok (.aload_n 0, 1) := by decide +kernel
theorem dX3_putToken_6 : decode cX3_putToken 6 = .ok (.getfield 18, 3) := by decide +kernel
theorem dX3_putToken_9 : decode cX3_putToken 9 = .ok (.if_icmp .gt 15, 3) := by decide +kernel
theorem dX3_putToken_12 : decode cX3_putToken 12 = .ok (.aload_n 0, 1) := by decide +kernel
theorem dX3_putToken_13 : decode cX3_putToken 13 = .ok (.getfield 18, 3) := by decide +kernel
theorem dX3_putToken_16 : decode cX3_putToken 16 = .ok (.aload_n 0, 1) := by decide +kernel
theorem dX3_putToken_17 : decode cX3_putToken 17 = .ok (.getfield 9, 3) := by decide +kernel
theorem dX3_putToken_20 : decode cX3_putToken 20 = .ok (.arraylength, 1) := by decide +kernel
theorem dX3_putToken_21 : decode cX3_putToken 21 = .ok (.if_icmp .lt 4, 3) := by decide +kernel
theorem dX3_putToken_24 : decode cX3_putToken 24 = .ok (.return_, 1) := by decide +kernel
theorem dX3_putToken_25 : decode cX3_putToken 25 = .ok (.aload_n 0, 1) := by decide +kernel
theorem dX3_putToken_26 : decode cX3_putToken 26 = .ok (.getfield 18, 3) := by decide +kernel
theorem dX3_putToken_29 : decode cX3_putToken 29 = .ok (.istore 4, 2) := by decide +kernel
theorem dX3_putToken_31 : decode cX3_putToken 31 = .ok (.iload 4, 2) := by decide +kernel
theorem dX3_putToken_33 : decode cX3_putToken 33 = .ok (.iload_n 1, 1) := by decide +kernel
theorem dX3_putToken_34 : decode cX3_putToken 34 = .ok (.if_icmp .le 41, 3) := by decide +kernel
theorem dX3_putToken_37 : decode cX3_putToken 37 = .ok (.aload_n 0, 1) := by decide +kernel
theorem dX3_putToken_38 : decode cX3_putToken 38 = .ok (.getfield 9, 3) := by decide +kernel
theorem dX3_putToken_41 : decode cX3_putToken 41 = .ok (.iload 4, 2) := by decide +kernel
theorem dX3_putToken_43 : decode cX3_putToken 43 = .ok (.aload_n 0, 1) := by decide +kernel
theorem dX3_putToken_44 : decode cX3_putToken 44 = .ok (.getfield 9, 3) := by decide +kernel
theorem dX3_putToken_47 : decode cX3_putToken 47 = .ok (.iload 4, 2) := by decide +kernel
theorem dX3_putToken_49 : decode cX3_putToken 49 = .ok (.iconst 1, 1) := by decide +kernel
theorem dX3_putToken_50 : decode cX3_putToken 50 = .ok (.isub, 1) := by decide +kernel
theorem dX3_putToken_51 : decode cX3_putToken 51 = .ok (.iaload, 1) := by decide +kernel
theorem dX3_putToken_52 : decode cX3_putToken 52 = .ok (.iastore, 1) := by decide +kernel
theorem dX3_putToken_53 : decode cX3_putToken 53 = .ok (.aload_n 0, 1) := by decide +kernel
theorem dX3_putToken_54 : decode cX3_putToken 54 = .ok (.getfield 15, 3) := by decide +kernel
theorem dX3_putToken_57 : decode cX3_putToken 57 = .ok (.iload 4, 2) := by decide +kernel
theorem dX3_putToken_59 : decode cX3_putToken 59 = .ok (.aload_n 0, 1) := by decide +kernel
theorem dX3_putToken_60 : decode cX3_putToken 60 = .ok (.getfield 15, 3) := by decide +kernel
theorem dX3_putToken_63 : decode cX3_putToken 63 = .ok (.iload 4, 2) := by decide +kernel
theorem dX3_putToken_65 : decode cX3_putToken 65 = .ok (.iconst 1, 1) := by decide +kernel
theorem dX3_putToken_66 : decode cX3_putToken 66 = .ok (.isub, 1) := by decide +kernel
theorem dX3_putToken_67 : decode cX3_putToken 67 = .ok (.iaload, 1) := by decide +kernel
theorem dX3_putToken_68 : decode cX3_putToken 68 = .ok (.iastore, 1) := by decide +kernel
theorem dX3_putToken_69 : decode cX3_putToken 69 = .ok (.iinc 4 (-1), 3) := by decide +kernel
theorem dX3_putToken_72 : decode cX3_putToken 72 = .ok (.goto (-41), 3) := by decide +kernel
theorem dX3_putToken_75 : decode cX3_putToken 75 = .ok (.aload_n 0, 1) := by decide +kernel
theorem dX3_putToken_76 : decode cX3_putToken 76 = .ok (.getfield 9, 3) := by decide +kernel
theorem dX3_putToken_79 : decode cX3_putToken 79 = .ok (.iload_n 1, 1) := by decide +kernel
theorem dX3_putToken_80 : decode cX3_putToken 80 = .ok (.iload_n 2, 1) := by decide +kernel
theorem dX3_putToken_81 : decode cX3_putToken 81 = .ok (.iastore, 1) := by decide +kernel
theorem dX3_putToken_82 : decode cX3_putToken 82 = .ok (.aload_n 0, 1) := by decide +kernel
theorem dX3_putToken_83 : decode cX3_putToken 83 = .ok (.getfield 15, 3) := by decide +kernel
theorem dX3_putToken_86 : decode cX3_putToken 86 = .ok (.iload_n 1, 1) := by decide +kernel
theorem dX3_putToken_87 : decode cX3_putToken 87 = .ok (.iload_n 3, 1) := by decide +kernel
theorem dX3_putToken_88 : decode cX3_putToken 88 = .ok (.iastore, 1) := by decide +kernel
theorem dX3_putToken_89 : decode cX3_putToken 89 = .ok (.aload_n 0, 1) := by decide +kernel
theorem dX3_putToken_90 : decode cX3_putToken 90 = .ok (.dup, 1) := by decide +kernel
theorem dX3_putToken_91 : decode cX3_putToken 91 = .ok (.getfield 18, 3) := by decide +kernel
theorem dX3_putToken_94 : decode cX3_putToken 94 = .ok (.iconst 1, 1) := by decide +kernel
theorem dX3_putToken_95 : decode cX3_putToken 95 = .ok (.iadd, 1) := by decide +kernel
theorem dX3_putToken_96 : decode cX3_putToken 96 = .ok (.putfield 18, 3) := by decide +kernel
theorem dX3_putToken_99 : decode cX3_putToken 99 = .ok (.return_, 1) := by decide +kernel
theorem dX3_dropToken_0 : decode cX3_dropToken 0 = .ok (.iload_n 1, 1) := by decide +kernel
theorem dX3_dropToken_1 : decode cX3_dropToken 1 = .ok (.ifCond .lt 11, 3) := by decide +kernel
theorem dX3_dropToken_4 : decode cX3_dropToken 4 = .ok (.iload_n 1, 1) := by decide +kernel
theorem dX3_dropToken_5 : decode cX3_dropToken 5 = .ok (.aload_n 0, 1) := by decide +kernel
theorem dX3_dropToken_6 : decode cX3_dropToken 6 = .ok (.getfield 18, 3) := by decide +kernel
theorem dX3_dropToken_9 : decode cX3_dropToken 9 = .ok (.if_icmp .lt 4, 3) := by decide +kernel
theorem dX3_dropToken_12 : decode cX3_dropToken 12 = .ok (.return_, 1) := by decide +kernel
theorem dX3_dropToken_13 : decode cX3_dropToken 13 = .ok (.aload_n 0, 1) := by decide +kernel
theorem dX3_dropToken_14 : decode cX3_dropToken 14 = .ok (.dup, 1) := by decide +kernel
theorem dX3_dropToken_15 : decode cX3_dropToken 15 = .ok (.getfield 18, 3) := by decide +kernel
theorem dX3_dropToken_18 : decode cX3_dropToken 18 = .ok (.iconst 1, 1) := by decide +kernel
theorem dX3_dropToken_19 : decode cX3_dropToken 19 = .ok (.isub, 1) := by decide +kernel
theorem dX3_dropToken_20 : decode cX3_dropToken 20 = .ok (.putfield 18, 3) := by decide +kernel
theorem dX3_dropToken_23 : decode cX3_dropToken 23 = .ok (.iload_n 1, 1) := by decide +kernel
theorem dX3_dropToken_24 : decode cX3_dropToken 24 = .ok (.istore_n 2, 1) := by decide +kernel
theorem dX3_dropToken_25 : decode cX3_dropToken 25 = .ok (.iload_n 2, 1) := by decide +kernel
theorem dX3_dropToken_26 : decode cX3_dropToken 26 = .ok (.aload_n 0, 1) := by decide +kernel
theorem dX3_dropToken_27 : decode cX3_dropToken 27 = .ok (.getfield 18, 3) := by decide +kernel
theorem dX3_dropToken_30 : decode cX3_dropToken 30 = .ok (.if_icmp .ge 37, 3) := by decide +kernel
theorem dX3_dropToken_33 : decode cX3_dropToken 33 = .ok (.aload_n 0, 1) := by decide +kernel
theorem dX3_dropToken_34 : decode cX3_dropToken 34 = .ok (.getfield 9, 3) := by decide +kernel
theorem dX3_dropToken_37 : decode cX3_dropToken 37 = .ok (.iload_n 2, 1) := by decide +kernel
theorem dX3_dropToken_38 : decode cX3_dropToken 38 = .ok (.aload_n 0, 1) := by decide +kernel
theorem dX3_dropToken_39 : decode cX3_dropToken 39 = .ok (.getfield 9, 3) := by decide +kernel
theorem dX3_dropToken_42 : decode cX3_dropToken 42 = .ok (.iload_n 2, 1) := by decide +kernel
theorem dX3_dropToken_43 : decode cX3_dropToken 43 = .ok (.iconst 1, 1) := by decide +kernel
theorem dX3_dropToken_44 : decode cX3_dropToken 44 = .ok (.iadd, 1) := by decide +kernel
theorem dX3_dropToken_45 : decode cX3_dropToken 45 = .ok (.iaload, 1) := by decide +kernel
theorem dX3_dropToken_46 : decode cX3_dropToken 46 = .ok (.iastore, 1) := by decide +kernel
theorem dX3_dropToken_47 : decode cX3_dropToken 47 = .ok (.aload_n 0, 1) := by decide +kernel
theorem dX3_dropToken_48 : decode cX3_dropToken 48 = .ok (.getfield 15, 3) := by decide +kernel
theorem dX3_dropToken_51 : decode cX3_dropToken 51 = .ok (.iload_n 2, 1) := by decide +kernel
theorem dX3_dropToken_52 : decode cX3_dropToken 52 = .ok (.aload_n 0, 1) := by decide +kernel
theorem dX3_dropToken_53 : decode cX3_dropToken 53 = .ok (.getfield 15, 3) := by decide +kernel
theorem dX3_dropToken_56 : decode cX3_dropToken 56 = .ok (.iload_n 2, 1) := by decide +kernel
theorem dX3_dropToken_57 : decode cX3_dropToken 57 = .ok (.iconst 1, 1) := by decide +kernel
theorem dX3_dropToken_58 : decode cX3_dropToken 58 = .ok (.iadd, 1) := by decide +kernel
theorem dX3_dropToken_59 : decode cX3_dropToken 59 = .ok (.iaload, 1) := by decide +kernel
theorem dX3_dropToken_60 : decode cX3_dropToken 60 = .ok (.iastore, 1) := by decide +kernel
theorem dX3_dropToken_61 : decode cX3_dropToken 61 = .ok (.iinc 2 1, 3) := by decide +kernel
theorem dX3_dropToken_64 : decode cX3_dropToken 64 = .ok (.goto (-39), 3) := by decide +kernel
theorem dX3_dropToken_67 : decode cX3_dropToken 67 = .ok (.return_, 1) := by decide +kernel
theorem dX4_init_0 : decode cX4_init 0 = .ok (.aload_n 0, 1) := by decide +kernel
theorem dX4_init_1 : decode cX4_init 1 = .ok (.invokespecial 3, 3) := by decide +kernel
theorem dX4_init_4 : decode cX4_init 4 = .ok (.aload_n 0, 1) := by decide +kernel
theorem dX4_init_5 : decode cX4_init 5 = .ok (.bipush 20, 2) := by decide +kernel
theorem dX4_init_7 : decode cX4_init 7 = .ok (.newarray .int, 2) := by decide +kernel
theorem dX4_init_9 : decode cX4_init 9 = .ok (.putfield 9, 3) := by decide +kernel
theorem dX4_init_12 : decode cX4_init 12 = .ok (.aload_n 0, 1) := by decide +kernel
theorem dX4_init_13 : decode cX4_init 13 = .ok (.bipush 20, 2) := by decide +kernel
theorem dX4_init_15 : decode cX4_init 15 = .ok (.newarray .int, 2) := by decide +kernel
theorem dX4_init_17 : decode cX4_init 17 = .ok (.putfield 15, 3) := by decide +kernel
theorem dX4_init_20 : decode cX4_init 20 = .ok (.aload_n 0, 1) := by decide +kernel
theorem dX4_init_21 : decode cX4_init 21 = .ok (.iconst (-1), 1) := by decide +kernel
theorem dX4_init_22 : decode cX4_init 22 = .ok (.putfield 18, 3) := by decide +kernel
theorem dX4_init_25 : decode cX4_init 25 = .ok (.aload_n 0, 1) := by decide +kernel
theorem dX4_init_26 : decode cX4_init 26 = .ok (.aload_n 1, 1) := by decide +kernel
theorem dX4_init_27 : decode cX4_init 27 = .ok (.putfield 22, 3) := by decide +kernel
theorem dX4_init_30 : decode cX4_init 30 = .ok (.return_, 1) := by decide +kernel
