theorem dX6_shiftRole_47 : decode cX6_shiftRole 47 = .ok (.iload_n 3, 1) := by decide +kernel
theorem dX6_shiftRole_48 : decode cX6_shiftRole 48 = .ok (.invokevirtual 152, 3) := by decide +kernel
theorem dX6_shiftRole_51 : decode cX6_shiftRole 51 = .ok (.ireturn, 1) := by decide +kernel
theorem dX6_setColour_0 : decode cX6_setColour 0 = .ok (.aload_n 0, 1) := by decide +kernel
theorem dX6_setColour_1 : decode cX6_setColour 1 = .ok (.iload_n 1, 1) := by decide +kernel
theorem dX6_setColour_2 : decode cX6_setColour 2 = .ok (.invokevirtual 78, 3) := by decide +kernel
theorem dX6_setColour_5 : decode cX6_setColour 5 = .ok (.aload_n 0, 1) := by decide +kernel
theorem dX6_setColour_6 : decode cX6_setColour 6 = .ok (.iload_n 2, 1) := by decide +kernel
theorem dX6_setColour_7 : decode cX6_setColour 7 = .ok (.invokevirtual 82, 3) := by decide +kernel
theorem dX6_setColour_10 : decode cX6_setColour 10 = .ok (.aload_n 0, 1) := by decide +kernel
theorem dX6_setColour_11 : decode cX6_setColour 11 = .ok (.iload_n 3, 1) := by decide +kernel
theorem dX6_setColour_12 : decode cX6_setColour 12 = .ok (.invokevirtual 113, 3) := by decide +kernel
theorem dX6_setColour_15 : decode cX6_setColour 15 = .ok (.aload_n 0, 1) := by decide +kernel
theorem dX6_setColour_16 : decode cX6_setColour 16 = .ok (.getfield 35, 3) := by decide +kernel
theorem dX6_setColour_19 : decode cX6_setColour 19 = .ok (.aload_n 0, 1) := by decide +kernel
theorem dX6_setColour_20 : decode cX6_setColour 20 = .ok (.getfield 25, 3) := by decide +kernel
theorem dX6_setColour_23 : decode cX6_setColour 23 = .ok (.invokevirtual 65, 3) := by decide +kernel
theorem dX6_setColour_26 : decode cX6_setColour 26 = .ok (.aload_n 0, 1) := by decide +kernel
theorem dX6_setColour_27 : decode cX6_setColour 27 = .ok (.getfield 25, 3) := by decide +kernel
theorem dX6_setColour_30 : decode cX6_setColour 30 = .ok (.getfield 85, 3) := by decide +kernel
theorem dX6_setColour_33 : decode cX6_setColour 33 = .ok (.iload_n 2, 1) := by decide +kernel
theorem dX6_setColour_34 : decode cX6_setColour 34 = .ok (.aaload, 1) := by decide +kernel
theorem dX6_setColour_35 : decode cX6_setColour 35 = .ok (.iload_n 1, 1) := by decide +kernel
theorem dX6_setColour_36 : decode cX6_setColour 36 = .ok (.iaload, 1) := by decide +kernel
theorem dX6_setColour_37 : decode cX6_setColour 37 = .ok (.istore 4, 2) := by decide +kernel
theorem dX6_setColour_39 : decode cX6_setColour 39 = .ok (.aload_n 0, 1) := by decide +kernel
theorem dX6_setColour_40 : decode cX6_setColour 40 = .ok (.getfield 25, 3) := by decide +kernel
theorem dX6_setColour_43 : decode cX6_setColour 43 = .ok (.getfield 85, 3) := by decide +kernel
theorem dX6_setColour_46 : decode cX6_setColour 46 = .ok (.iload_n 2, 1) := by decide +kernel
theorem dX6_setColour_47 : decode cX6_setColour 47 = .ok (.aaload, 1) := by decide +kernel
theorem dX6_setColour_48 : decode cX6_setColour 48 = .ok (.iload_n 1, 1) := by decide +kernel
theorem dX6_setColour_49 : decode cX6_setColour 49 = .ok (.iload_n 3, 1) := by decide +kernel
theorem dX6_setColour_50 : decode cX6_setColour 50 = .ok (.iastore, 1) := by decide +kernel
theorem dX6_setColour_51 : decode cX6_setColour 51 = .ok (.iload 4, 2) := by decide +kernel
theorem dX6_setColour_53 : decode cX6_setColour 53 = .ok (.ireturn, 1) := by decide +kernel
theorem dX6_setFixed_0 : decode cX6_setFixed 0 = .ok (.aload_n 0, 1) := by decide +kernel
theorem dX6_setFixed_1 : decode cX6_setFixed 1 = .ok (.iload_n 1, 1) := by decide +kernel
theorem dX6_setFixed_2 : decode cX6_setFixed 2 = .ok (.invokevirtual 78, 3) := by decide +kernel
theorem dX6_setFixed_5 : decode cX6_setFixed 5 = .ok (.aload_n 0, 1) := by decide +kernel
theorem dX6_setFixed_6 : decode cX6_setFixed 6 = .ok (.getfield 35, 3) := by decide +kernel
theorem dX6_setFixed_9 : decode cX6_setFixed 9 = .ok (.aload_n 0, 1) := by decide +kernel
theorem dX6_setFixed_10 : decode cX6_setFixed 10 = .ok (.getfield 25, 3) := by decide +kernel
theorem dX6_setFixed_13 : decode cX6_setFixed 13 = .ok (.invokevirtual 65, 3) := by decide +kernel
theorem dX6_setFixed_16 : decode cX6_setFixed 16 = .ok (.aload_n 0, 1) := by decide +kernel
theorem dX6_setFixed_17 : decode cX6_setFixed 17 = .ok (.getfield 25, 3) := by decide +kernel
theorem dX6_setFixed_20 : decode cX6_setFixed 20 = .ok (.getfield 89, 3) := by decide +kernel
theorem dX6_setFixed_23 : decode cX6_setFixed 23 = .ok (.iload_n 1, 1) := by decide +kernel
theorem dX6_setFixed_24 : decode cX6_setFixed 24 = .ok (.baload, 1) := by decide +kernel
theorem dX6_setFixed_25 : decode cX6_setFixed 25 = .ok (.istore_n 3, 1) := by decide +kernel
theorem dX6_setFixed_26 : decode cX6_setFixed 26 = .ok (.aload_n 0, 1) := by decide +kernel
theorem dX6_setFixed_27 : decode cX6_setFixed 27 = .ok (.getfield 25, 3) := by decide +kernel
theorem dX6_setFixed_30 : decode cX6_setFixed 30 = .ok (.getfield 89, 3) := by decide +kernel
theorem dX6_setFixed_33 : decode cX6_setFixed 33 = .ok (.iload_n 1, 1) := by decide +kernel
theorem dX6_setFixed_34 : decode cX6_setFixed 34 = .ok (.iload_n 2, 1) := by decide +kernel
theorem dX6_setFixed_35 : decode cX6_setFixed 35 = .ok (.bastore, 1) := by decide +kernel
theorem dX6_setFixed_36 : decode cX6_setFixed 36 = .ok (.iload_n 3, 1) := by decide +kernel
theorem dX6_setFixed_37 : decode cX6_setFixed 37 = .ok (.ireturn, 1) := by decide +kernel
theorem dX6_shift_0 : decode cX6_shift 0 = .ok (.aload_n 0, 1) := by decide +kernel
theorem dX6_shift_1 : decode cX6_shift 1 = .ok (.iload_n 1, 1) := by decide +kernel
theorem dX6_shift_2 : decode cX6_shift 2 = .ok (.invokevirtual 78, 3) := by decide +kernel
theorem dX6_shift_5 : decode cX6_shift 5 = .ok (.aload_n 0, 1) := by decide +kernel
theorem dX6_shift_6 : decode cX6_shift 6 = .ok (.iload_n 2, 1) := by decide +kernel
theorem dX6_shift_7 : decode cX6_shift 7 = .ok (.invokevirtual 82, 3) := by decide +kernel
theorem dX6_shift_10 : decode cX6_shift 10 = .ok (.iload_n 3, 1) := by decide +kernel
theorem dX6_shift_11 : decode cX6_shift 11 = .ok (.sipush (-255), 3) := by decide +kernel
theorem dX6_shift_14 : decode cX6_shift 14 = .ok (.if_icmp .lt 10, 3) := by decide +kernel
theorem dX6_shift_17 : decode cX6_shift 17 = .ok (.iload_n 3, 1) := by decide +kernel
theorem dX6_shift_18 : decode cX6_shift 18 = .ok (.sipush 255, 3) := by decide +kernel
theorem dX6_shift_21 : decode cX6_shift 21 = .ok (.if_icmp .le 13, 3) := by decide +kernel
theorem dX6_shift_24 : decode cX6_shift 24 = .ok (.new 50, 3) := by decide +kernel
theorem dX6_shift_27 : decode cX6_shift 27 = .ok (.dup, 1) := by decide +kernel
theorem dX6_shift_28 : decode cX6_shift 28 = .ok (.ldc 155, 2) := by decide +kernel
theorem dX6_shift_30 : decode cX6_shift 30 = .ok (.invokespecial 54, 3) := by decide +kernel
theorem dX6_shift_33 : decode cX6_shift 33 = .ok (.athrow, 1) := by decide +kernel
theorem dX6_shift_34 : decode cX6_shift 34 = .ok (.aload_n 0, 1) := by decide +kernel
theorem dX6_shift_35 : decode cX6_shift 35 = .ok (.getfield 25, 3) := by decide +kernel
theorem dX6_shift_38 : decode cX6_shift 38 = .ok (.getfield 89, 3) := by decide +kernel
theorem dX6_shift_41 : decode cX6_shift 41 = .ok (.iload_n 1, 1) := by decide +kernel
theorem dX6_shift_42 : decode cX6_shift 42 = .ok (.baload, 1) := by decide +kernel
theorem dX6_shift_43 : decode cX6_shift 43 = .ok (.ifCond .eq 13, 3) := by decide +kernel
theorem dX6_shift_46 : decode cX6_shift 46 = .ok (.new 157, 3) := by decide +kernel
theorem dX6_shift_49 : decode cX6_shift 49 = .ok (.dup, 1) := by decide +kernel
theorem dX6_shift_50 : decode cX6_shift 50 = .ok (.ldc 159, 2) := by decide +kernel
theorem dX6_shift_52 : decode cX6_shift 52 = .ok (.invokespecial 161, 3) := by decide +kernel
theorem dX6_shift_55 : decode cX6_shift 55 = .ok (.athrow, 1) := by decide +kernel
theorem dX6_shift_56 : decode cX6_shift 56 = .ok (.aload_n 0, 1) := by decide +kernel
theorem dX6_shift_57 : decode cX6_shift 57 = .ok (.getfield 35, 3) := by decide +kernel
theorem dX6_shift_60 : decode cX6_shift 60 = .ok (.aload_n 0, 1) := by decide +kernel
theorem dX6_shift_61 : decode cX6_shift 61 = .ok (.getfield 25, 3) := by decide +kernel
theorem dX6_shift_64 : decode cX6_shift 64 = .ok (.invokevirtual 65, 3) := by decide +kernel
theorem dX6_shift_67 : decode cX6_shift 67 = .ok (.aload_n 0, 1) := by decide +kernel
theorem dX6_shift_68 : decode cX6_shift 68 = .ok (.getfield 25, 3) := by decide +kernel
theorem dX6_shift_71 : decode cX6_shift 71 = .ok (.getfield 85, 3) := by decide +kernel
theorem dX6_shift_74 : decode cX6_shift 74 = .ok (.iload_n 2, 1) := by decide +kernel
theorem dX6_shift_75 : decode cX6_shift 75 = .ok (.aaload, 1) := by decide +kernel
theorem dX6_shift_76 : decode cX6_shift 76 = .ok (.iload_n 1, 1) := by decide +kernel
theorem dX6_shift_77 : decode cX6_shift 77 = .ok (.aload_n 0, 1) := by decide +kernel
theorem dX6_shift_78 : decode cX6_shift 78 = .ok (.getfield 25, 3) := by decide +kernel
theorem dX6_shift_81 : decode cX6_shift 81 = .ok (.getfield 85, 3) := by decide +kernel
theorem dX6_shift_84 : decode cX6_shift 84 = .ok (.iload_n 2, 1) := by decide +kernel
theorem dX6_shift_85 : decode cX6_shift 85 = .ok (.aaload, 1) := by decide +kernel
theorem dX6_shift_86 : decode cX6_shift 86 = .ok (.iload_n 1, 1) := by decide +kernel
theorem dX6_shift_87 : decode cX6_shift 87 = .ok (.iaload, 1) := by decide +kernel
theorem dX6_shift_88 : decode cX6_shift 88 = .ok (.iload_n 3, 1) := by decide +kernel
theorem dX6_shift_89 : decode cX6_shift 89 = .ok (.invokestatic 162, 3) := by decide +kernel
theorem dX6_shift_92 : decode cX6_shift 92 = .ok (.iastore, 1) := by decide +kernel
theorem dX6_shift_93 : decode cX6_shift 93 = .ok (.aload_n 0, 1) := by decide +kernel
theorem dX6_shift_94 : decode cX6_shift 94 = .ok (.getfield 25, 3) := by decide +kernel
theorem dX6_shift_97 : decode cX6_shift 97 = .ok (.getfield 85, 3) := by decide +kernel
theorem dX6_shift_100 : decode cX6_shift 100 = .ok (.iload_n 2, 1) := by decide +kernel
theorem dX6_shift_101 : decode cX6_shift 101 = .ok (.aaload, 1) := by decide +kernel
theorem dX6_shift_102 : decode cX6_shift 102 = .ok (.iload_n 1, 1) := by decide +kernel
theorem dX6_shift_103 : decode cX6_shift 103 = .ok (.iaload, 1) := by decide +kernel
theorem dX6_shift_104 : decode cX6_shift 104 = .ok (.ireturn, 1) := by decide +kernel
theorem dX6_repair_0 : decode cX6_repair 0 = .ok (.iload_n 1, 1) := by decide +kernel
theorem dX6_repair_1 : decode cX6_repair 1 = .ok (.iconst 1, 1) := by decide +kernel
theorem dX6_repair_2 : decode cX6_repair 2 = .ok (.if_icmp .lt 9, 3) := by decide +kernel
theorem dX6_repair_5 : decode cX6_repair 5 = .ok (.iload_n 1, 1) := by decide +kernel
theorem dX6_repair_6 : decode cX6_repair 6 = .ok (.bipush 6, 2) := by decide +kernel
theorem dX6_repair_8 : decode cX6_repair 8 = .ok (.if_icmp .le 13, 3) := by decide +kernel
theorem dX6_repair_11 : decode cX6_repair 11 = .ok (.new 50, 3) := by decide +kernel
theorem dX6_repair_14 : decode cX6_repair 14 = .ok (.dup, 1) := by decide +kernel
theorem dX6_repair_15 : decode cX6_repair 15 = .ok (.ldc 165, 2) := by decide +kernel
theorem dX6_repair_17 : decode cX6_repair 17 = .ok (.invokespecial 54, 3) := by decide +kernel
theorem dX6_repair_20 : decode cX6_repair 20 = .ok (.athrow, 1) := by decide +kernel
theorem dX6_repair_21 : decode cX6_repair 21 = .ok (.aload_n 0, 1) := by decide +kernel
theorem dX6_repair_22 : decode cX6_repair 22 = .ok (.getfield 35, 3) := by decide +kernel
theorem dX6_repair_25 : decode cX6_repair 25 = .ok (.aload_n 0, 1) := by decide +kernel
theorem dX6_repair_26 : decode cX6_repair 26 = .ok (.getfield 25, 3) := by decide +kernel
theorem dX6_repair_29 : decode cX6_repair 29 = .ok (.invokevirtual 65, 3) := by decide +kernel
theorem dX6_repair_32 : decode cX6_repair 32 = .ok (.iconst 0, 1) := by decide +kernel
theorem dX6_repair_33 : decode cX6_repair 33 = .ok (.istore_n 2, 1) := by decide +kernel
theorem dX6_repair_34 : decode cX6_repair 34 = .ok (.iload_n 2, 1) := by decide +kernel
theorem dX6_repair_35 : decode cX6_repair 35 = .ok (.iload_n 1, 1) := by decide +kernel
theorem dX6_repair_36 : decode cX6_repair 36 = .ok (.if_icmp .ge 19, 3) := by decide +kernel
theorem dX6_repair_39 : decode cX6_repair 39 = .ok (.aload_n 0, 1) := by decide +kernel
theorem dX6_repair_40 : decode cX6_repair 40 = .ok (.getfield 25, 3) := by decide +kernel
theorem dX6_repair_43 : decode cX6_repair 43 = .ok (.invokevirtual 167, 3) := by decide +kernel
theorem dX6_repair_46 : decode cX6_repair 46 = .ok (.ifCond .eq 9, 3) := by decide +kernel
theorem dX6_repair_49 : decode cX6_repair 49 = .ok (.iinc 2 1, 3) := by decide +kernel
theorem dX6_repair_52 : decode cX6_repair 52 = .ok (.goto (-18), 3) := by decide +kernel
theorem dX6_repair_55 : decode cX6_repair 55 = .ok (.iload_n 2, 1) := by decide +kernel
theorem dX6_repair_56 : decode cX6_repair 56 = .ok (.ireturn, 1) := by decide +kernel
theorem dX6_swapSchemes_0 : decode cX6_swapSchemes 0 = .ok (.aload_n 0, 1) := by decide +kernel
theorem dX6_swapSchemes_1 : decode cX6_swapSchemes 1 = .ok (.getfield 35, 3) := by decide +kernel
theorem dX6_swapSchemes_4 : decode cX6_swapSchemes 4 = .ok (.aload_n 0, 1) := by decide +kernel
theorem dX6_swapSchemes_5 : decode cX6_swapSchemes 5 = .ok (.getfield 25, 3) := by decide +kernel
theorem dX6_swapSchemes_8 : decode cX6_swapSchemes 8 = .ok (.invokevirtual 65, 3) := by decide +kernel
theorem dX6_swapSchemes_11 : decode cX6_swapSchemes 11 = .ok (.aload_n 0, 1) := by decide +kernel
theorem dX6_swapSchemes_12 : decode cX6_swapSchemes 12 = .ok (.getfield 25, 3) := by decide +kernel
theorem dX6_swapSchemes_15 : decode cX6_swapSchemes 15 = .ok (.invokevirtual 171, 3) := by decide +kernel
theorem dX6_swapSchemes_18 : decode cX6_swapSchemes 18 = .ok (.aload_n 0, 1) := by decide +kernel
theorem dX6_swapSchemes_19 : decode cX6_swapSchemes 19 = .ok (.invokevirtual 174, 3) := by decide +kernel
theorem dX6_swapSchemes_22 : decode cX6_swapSchemes 22 = .ok (.ireturn, 1) := by decide +kernel
theorem dX6_undo_0 : decode cX6_undo 0 = .ok (.aload_n 0, 1) := by decide +kernel
theorem dX6_undo_1 : decode cX6_undo 1 = .ok (.getfield 35, 3) := by decide +kernel
theorem dX6_undo_4 : decode cX6_undo 4 = .ok (.getfield 177, 3) := by decide +kernel
theorem dX6_undo_7 : decode cX6_undo 7 = .ok (.ifCond .ne 5, 3) := by decide +kernel
theorem dX6_undo_10 : decode cX6_undo 10 = .ok (.iconst (-1), 1) := by decide +kernel
theorem dX6_undo_11 : decode cX6_undo 11 = .ok (.ireturn, 1) := by decide +kernel
theorem dX6_undo_12 : decode cX6_undo 12 = .ok (.aload_n 0, 1) := by decide +kernel
theorem dX6_undo_13 : decode cX6_undo 13 = .ok (.getfield 35, 3) := by decide +kernel
theorem dX6_undo_16 : decode cX6_undo 16 = .ok (.aload_n 0, 1) := by decide +kernel
theorem dX6_undo_17 : decode cX6_undo 17 = .ok (.getfield 25, 3) := by decide +kernel
theorem dX6_undo_20 : decode cX6_undo 20 = .ok (.invokevirtual 180, 3) := by decide +kernel
theorem dX6_undo_23 : decode cX6_undo 23 = .ok (.aload_n 0, 1) := by decide +kernel
theorem dX6_undo_24 : decode cX6_undo 24 = .ok (.getfield 35, 3) := by decide +kernel
theorem dX6_undo_27 : decode cX6_undo 27 = .ok (.getfield 177, 3) := by decide +kernel
theorem dX6_undo_30 : decode cX6_undo 30 = .ok (.ireturn, 1) := by decide +kernel
theorem dX6_checksum_0 : decode cX6_checksum 0 = .ok (.lconst 0, 1) := by decide +kernel
theorem dX6_checksum_1 : decode cX6_checksum 1 = .ok (.lstore_n 1, 1) := by decide +kernel
theorem dX6_checksum_2 : decode cX6_checksum 2 = .ok (.iconst 0, 1) := by decide +kernel
theorem dX6_checksum_3 : decode cX6_checksum 3 = .ok (.istore_n 3, 1) := by decide +kernel
theorem dX6_checksum_4 : decode cX6_checksum 4 = .ok (.iload_n 3, 1) := by decide +kernel
theorem dX6_checksum_5 : decode cX6_checksum 5 = .ok (.aload_n 0, 1) := by decide +kernel
theorem dX6_checksum_6 : decode cX6_checksum 6 = .ok (.getfield 25, 3) := by decide +kernel
theorem dX6_checksum_9 : decode cX6_checksum 9 = .ok (.getfield 75, 3) := by decide +kernel
theorem dX6_checksum_12 : decode cX6_checksum 12 = .ok (.if_icmp .ge 72, 3) := by decide +kernel
theorem dX6_checksum_15 : decode cX6_checksum 15 = .ok (.ldc2_w 183, 3) := by decide +kernel
theorem dX6_checksum_18 : decode cX6_checksum 18 = .ok (.lload_n 1, 1) := by decide +kernel
theorem dX6_checksum_19 : decode cX6_checksum 19 = .ok (.lmul, 1) := by decide +kernel
theorem dX6_checksum_20 : decode cX6_checksum 20 = .ok (.aload_n 0, 1) := by decide +kernel
theorem dX6_checksum_21 : decode cX6_checksum 21 = .ok (.getfield 25, 3) := by decide +kernel
theorem dX6_checksum_24 : decode cX6_checksum 24 = .ok (.getfield 85, 3) := by decide +kernel
theorem dX6_checksum_27 : decode cX6_checksum 27 = .ok (.iconst 0, 1) := by decide +kernel
theorem dX6_checksum_28 : decode cX6_checksum 28 = .ok (.aaload, 1) := by decide +kernel
theorem dX6_checksum_29 : decode cX6_checksum 29 = .ok (.iload_n 3, 1) := by decide +kernel
theorem dX6_checksum_30 : decode cX6_checksum 30 = .ok (.iaload, 1) := by decide +kernel
theorem dX6_checksum_31 : decode cX6_checksum 31 = .ok (.i2l, 1) := by decide +kernel
theorem dX6_checksum_32 : decode cX6_checksum 32 = .ok (.ladd, 1) := by decide +kernel
theorem dX6_checksum_33 : decode cX6_checksum 33 = .ok (.lstore_n 1, 1) := by decide +kernel
theorem dX6_checksum_34 : decode cX6_checksum 34 = .ok (.ldc2_w 183, 3) := by decide +kernel
theorem dX6_checksum_37 : decode cX6_checksum 37 = .ok (.lload_n 1, 1) := by decide +kernel
theorem dX6_checksum_38 : decode cX6_checksum 38 = .ok (.lmul, 1) := by decide +kernel
theorem dX6_checksum_39 : decode cX6_checksum 39 = .ok (.aload_n 0, 1) := by decide +kernel
theorem dX6_checksum_40 : decode cX6_checksum 40 = .ok (.getfield 25, 3) := by decide +kernel
theorem dX6_checksum_43 : decode cX6_checksum 43 = .ok (.getfield 85, 3) := by decide +kernel
theorem dX6_checksum_46 : decode cX6_checksum 46 = .ok (.iconst 1, 1) := by decide +kernel
theorem dX6_checksum_47 : decode cX6_checksum 47 = .ok (.aaload, 1) := by decide +kernel
theorem dX6_checksum_48 : decode cX6_checksum 48 = .ok (.iload_n 3, 1) := by decide +kernel
theorem dX6_checksum_49 : decode cX6_checksum 49 = .ok (.iaload, 1) := by decide +kernel
theorem dX6_checksum_50 : decode cX6_checksum 50 = .ok (.i2l, 1) := by decide +kernel
theorem dX6_checksum_51 : decode cX6_checksum 51 = .ok (.ladd, 1) := by decide +kernel
theorem dX6_checksum_52 : decode cX6_checksum 52 = .ok (.lstore_n 1, 1) := by decide +kernel
theorem dX6_checksum_53 : decode cX6_checksum 53 = .ok (.ldc2_w 183, 3) := by decide +kernel
theorem dX6_checksum_56 : decode cX6_checksum 56 = .ok (.lload_n 1, 1) := by decide +kernel
theorem dX6_checksum_57 : decode cX6_checksum 57 = .ok (.lmul, 1) := by decide +kernel
theorem dX6_checksum_58 : decode cX6_checksum 58 = .ok (.aload_n 0, 1) := by decide +kernel
theorem dX6_checksum_59 : decode cX6_checksum 59 = .ok (.getfield 25, 3) := by decide +kernel
theorem dX6_checksum_62 : decode cX6_checksum 62 = .ok (.getfield 89, 3) := by decide +kernel
theorem dX6_checksum_65 : decode cX6_checksum 65 = .ok (.iload_n 3, 1) := by decide +kernel
theorem dX6_checksum_66 : decode cX6_checksum 66 = .ok (.baload, 1) := by decide +kernel
theorem dX6_checksum_67 : decode cX6_checksum 67 = .ok (.ifCond .eq 7, 3) := by decide +kernel
theorem dX6_checksum_70 : decode cX6_checksum 70 = .ok (.iconst 1, 1) := by decide +kernel
theorem dX6_checksum_71 : decode cX6_checksum 71 = .ok (.goto 4, 3) := by decide +kernel
theorem dX6_checksum_74 : decode cX6_checksum 74 = .ok (.iconst 0, 1) := by decide +kernel
theorem dX6_checksum_75 : decode cX6_checksum 75 = .ok (.i2l, 1) := by decide +kernel
theorem dX6_checksum_76 : decode cX6_checksum 76 = .ok (.ladd, 1) := by decide +kernel
theorem dX6_checksum_77 : decode cX6_checksum 77 = .ok (.lstore_n 1, 1) := by decide +kernel
theorem dX6_checksum_78 : decode cX6_checksum 78 = .ok (.iinc 3 1, 3) := by decide +kernel
theorem dX6_checksum_81 : decode cX6_checksum 81 = .ok (.goto (-77), 3) := by decide +kernel
theorem dX6_checksum_84 : decode cX6_checksum 84 = .ok (.iconst 0, 1) := by decide +kernel
theorem dX6_checksum_85 : decode cX6_checksum 85 = .ok (.istore_n 3, 1) := by decide +kernel
theorem dX6_checksum_86 : decode cX6_checksum 86 = .ok (.iload_n 3, 1) := by decide +kernel
theorem dX6_checksum_87 : decode cX6_checksum 87 = .ok (.aload_n 0, 1) := by decide +kernel
theorem dX6_checksum_88 : decode cX6_checksum 88 = .ok (.getfield 25, 3) := by decide +kernel
theorem dX6_checksum_91 : decode cX6_checksum 91 = .ok (.getfield 72, 3) := by decide +kernel
theorem dX6_checksum_94 : decode cX6_checksum 94 = .ok (.if_icmp .ge 43, 3) := by decide +kernel
theorem dX6_checksum_97 : decode cX6_checksum 97 = .ok (.ldc2_w 183, 3) := by decide +kernel
theorem dX6_checksum_100 : decode cX6_checksum 100 = .ok (.lload_n 1, 1) := by decide +kernel
theorem dX6_checksum_101 : decode cX6_checksum 101 = .ok (.lmul, 1) := by decide +kernel
theorem dX6_checksum_102 : decode cX6_checksum 102 = .ok (.aload_n 0, 1) := by decide +kernel
theorem dX6_checksum_103 : decode cX6_checksum 103 = .ok (.getfield 25, 3) := by decide +kernel
theorem dX6_checksum_106 : decode cX6_checksum 106 = .ok (.iload_n 3, 1) := by decide +kernel
theorem dX6_checksum_107 : decode cX6_checksum 107 = .ok (.iconst 0, 1) := by decide +kernel
theorem dX6_checksum_108 : decode cX6_checksum 108 = .ok (.invokevirtual 125, 3) := by decide +kernel
theorem dX6_checksum_111 : decode cX6_checksum 111 = .ok (.i2l, 1) := by decide +kernel
theorem dX6_checksum_112 : decode cX6_checksum 112 = .ok (.ladd, 1) := by decide +kernel
theorem dX6_checksum_113 : decode cX6_checksum 113 = .ok (.lstore_n 1, 1) := by decide +kernel
theorem dX6_checksum_114 : decode cX6_checksum 114 = .ok (.ldc2_w 183, 3) := by decide +kernel
theorem dX6_checksum_117 : decode cX6_checksum 117 = .ok (.lload_n 1, 1) := by decide +kernel
theorem dX6_checksum_118 : decode cX6_checksum 118 = .ok (.lmul, 1) := by decide +kernel
theorem dX6_checksum_119 : decode cX6_checksum 119 = .ok (.aload_n 0, 1) := by decide +kernel
theorem dX6_checksum_120 : decode cX6_checksum 120 = .ok (.getfield 25, 3) := by decide +kernel
theorem dX6_checksum_123 : decode cX6_checksum 123 = .ok (.iload_n 3, 1) := by decide +kernel
theorem dX6_checksum_124 : decode cX6_checksum 124 = .ok (.iconst 1, 1) := by decide +kernel
theorem dX6_checksum_125 : decode cX6_checksum 125 = .ok (.invokevirtual 125, 3) := by decide +kernel
theorem dX6_checksum_128 : decode cX6_checksum 128 = .ok (.i2l, 1) := by decide +kernel
theorem dX6_checksum_129 : decode cX6_checksum 129 = .ok (.ladd, 1) := by decide +kernel
theorem dX6_checksum_130 : decode cX6_checksum 130 = .ok (.lstore_n 1, 1) := by decide +kernel
theorem dX6_checksum_131 : decode cX6_checksum 131 = .ok (.iinc 3 1, 3) := by decide +kernel
theorem dX6_checksum_134 : decode cX6_checksum 134 = .ok (.goto (-48), 3) := by decide +kernel
theorem dX6_checksum_137 : decode cX6_checksum 137 = .ok (.lload_n 1, 1) := by decide +kernel
theorem dX6_checksum_138 : decode cX6_checksum 138 = .ok (.lreturn, 1) := by decide +kernel
theorem dX6_putWord_0 : decode cX6_putWord 0 = .ok (.aload_n 0, 1) := by decide +kernel
theorem dX6_putWord_1 : decode cX6_putWord 1 = .ok (.getfield 9, 3) := by decide +kernel
theorem dX6_putWord_4 : decode cX6_putWord 4 = .ok (.iload_n 1, 1) := by decide +kernel
theorem dX6_putWord_5 : decode cX6_putWord 5 = .ok (.iload_n 2, 1) := by decide +kernel
theorem dX6_putWord_6 : decode cX6_putWord 6 = .ok (.bipush 24, 2) := by decide +kernel
theorem dX6_putWord_8 : decode cX6_putWord 8 = .ok (.ishr, 1) := by decide +kernel
theorem dX6_putWord_9 : decode cX6_putWord 9 = .ok (.i2b, 1) := by decide +kernel
theorem dX6_putWord_10 : decode cX6_putWord 10 = .ok (.bastore, 1) := by decide +kernel
theorem dX6_putWord_11 : decode cX6_putWord 11 = .ok (.aload_n 0, 1) := by decide +kernel
theorem dX6_putWord_12 : decode cX6_putWord 12 = .ok (.getfield 9, 3) := by decide +kernel
theorem dX6_putWord_15 : decode cX6_putWord 15 = .ok (.iload_n 1, 1) := by decide +kernel
theorem dX6_putWord_16 : decode cX6_putWord 16 = .ok (.iconst 1, 1) := by decide +kernel
theorem dX6_putWord_17 : decode cX6_putWord 17 = .ok (.iadd, 1) := by decide +kernel
theorem dX6_putWord_18 : decode cX6_putWord 18 = .ok (.iload_n 2, 1) := by decide +kernel
theorem dX6_putWord_19 : decode cX6_putWord 19 = .ok (.bipush 16, 2) := by decide +kernel
theorem dX6_putWord_21 : decode cX6_putWord 21 = .ok (.ishr, 1) := by decide +kernel
theorem dX6_putWord_22 : decode cX6_putWord 22 = .ok (.i2b, 1) := by decide +kernel
theorem dX6_putWord_23 : decode cX6_putWord 23 = .ok (.bastore, 1) := by decide +kernel
theorem dX6_putWord_24 : decode cX6_putWord 24 = .ok (.aload_n 0, 1) := by decide +kernel
theorem dX6_putWord_25 : decode cX6_putWord 25 = .ok (.getfield 9, 3) := by decide +kernel
theorem dX6_putWord_28 : decode cX6_putWord 28 = .ok (.iload_n 1, 1) := by decide +kernel
theorem dX6_putWord_29 : decode cX6_putWord 29 = .ok (.iconst 2, 1) := by decide +kernel
theorem dX6_putWord_30 : decode cX6_putWord 30 = .ok (.iadd, 1) := by decide +kernel
theorem dX6_putWord_31 : decode cX6_putWord 31 = .ok (.iload_n 2, 1) := by decide +kernel
theorem dX6_putWord_32 : decode cX6_putWord 32 = .ok (.bipush 8, 2) := by decide +kernel
theorem dX6_putWord_34 : decode cX6_putWord 34 = .ok (.ishr, 1) := by decide +kernel
theorem dX6_putWord_35 : decode cX6_putWord 35 = .ok (.i2b, 1) := by decide +kernel
theorem dX6_putWord_36 : decode cX6_putWord 36 = .ok (.bastore, 1) := by decide +kernel
theorem dX6_putWord_37 : decode cX6_putWord 37 = .ok (.aload_n 0, 1) := by decide +kernel
theorem dX6_putWord_38 : decode cX6_putWord 38 = .ok (.getfield 9, 3) := by decide +kernel
theorem dX6_putWord_41 : decode cX6_putWord 41 = .ok (.iload_n 1, 1) := by decide +kernel
theorem dX6_putWord_42 : decode cX6_putWord 42 = .ok (.iconst 3, 1) := by decide +kernel
theorem dX6_putWord_43 : decode cX6_putWord 43 = .ok (.iadd, 1) := by decide +kernel
theorem dX6_putWord_44 : decode cX6_putWord 44 = .ok (.iload_n 2, 1) := by decide +kernel
theorem dX6_putWord_45 : decode cX6_putWord 45 = .ok (.i2b, 1) := by decide +kernel
theorem dX6_putWord_46 : decode cX6_putWord 46 = .ok (.bastore, 1) := by decide +kernel
theorem dX6_putWord_47 : decode cX6_putWord 47 = .ok (.return_, 1) := by decide +kernel
theorem dX6_requireRole_0 : decode cX6_requireRole 0 = .ok (.iload_n 1, 1) := by decide +kernel
theorem dX6_requireRole_1 : decode cX6_requireRole 1 = .ok (.ifCond .lt 14, 3) := by decide +kernel
theorem dX6_requireRole_4 : decode cX6_requireRole 4 = .ok (.iload_n 1, 1) := by decide +kernel
theorem dX6_requireRole_5 : decode cX6_requireRole 5 = .ok (.aload_n 0, 1) := by decide +kernel
theorem dX6_requireRole_6 : decode cX6_requireRole 6 = .ok (.getfield 25, 3) := by decide +kernel
theorem dX6_requireRole_9 : decode cX6_requireRole 9 = .ok (.getfield 75, 3) := by decide +kernel
theorem dX6_requireRole_12 : decode cX6_requireRole 12 = .ok (.if_icmp .lt 13, 3) := by decide +kernel
theorem dX6_requireRole_15 : decode cX6_requireRole 15 = .ok (.new 185, 3) := by decide +kernel
theorem dX6_requireRole_18 : decode cX6_requireRole 18 = .ok (.dup, 1) := by decide +kernel
theorem dX6_requireRole_19 : decode cX6_requireRole 19 = .ok (.ldc 187, 2) := by decide +kernel
theorem dX6_requireRole_21 : decode cX6_requireRole 21 = .ok (.invokespecial 189, 3) := by decide +kernel
theorem dX6_requireRole_24 : decode cX6_requireRole 24 = .ok (.athrow, 1) := by decide +kernel
theorem dX6_requireRole_25 : decode cX6_requireRole 25 = .ok (.return_, 1) := by decide +kernel
theorem dX6_requireRule_0 : decode cX6_requireRule 0 = .ok (.iload_n 1, 1) := by decide +kernel
theorem dX6_requireRule_1 : decode cX6_requireRule 1 = .ok (.ifCond .lt 14, 3) := by decide +kernel
theorem dX6_requireRule_4 : decode cX6_requireRule 4 = .ok (.iload_n 1, 1) := by decide +kernel
theorem dX6_requireRule_5 : decode cX6_requireRule 5 = .ok (.aload_n 0, 1) := by decide +kernel
theorem dX6_requireRule_6 : decode cX6_requireRule 6 = .ok (.getfield 25, 3) := by decide +kernel
theorem dX6_requireRule_9 : decode cX6_requireRule 9 = .ok (.getfield 72, 3) := by decide +kernel
theorem dX6_requireRule_12 : decode cX6_requireRule 12 = .ok (.if_icmp .lt 13, 3) := by decide +kernel
theorem dX6_requireRule_15 : decode cX6_requireRule 15 = .ok (.new 185, 3) := by decide +kernel
theorem dX6_requireRule_18 : decode cX6_requireRule 18 = .ok (.dup, 1) := by decide +kernel
theorem dX6_requireRule_19 : decode cX6_requireRule 19 = .ok (.ldc 190, 2) := by decide +kernel
theorem dX6_requireRule_21 : decode cX6_requireRule 21 = .ok (.invokespecial 189, 3) := by decide +kernel
theorem dX6_requireRule_24 : decode cX6_requireRule 24 = .ok (.athrow, 1) := by decide +kernel
theorem dX6_requireRule_25 : decode cX6_requireRule 25 = .ok (.return_, 1) := by decide +kernel
theorem dX6_requireScheme_0 : decode cX6_requireScheme 0 = .ok (.iload_n 1, 1) := by decide +kernel
theorem dX6_requireScheme_1 : decode cX6_requireScheme 1 = .ok (.ifCond .lt 8, 3) := by decide +kernel
theorem dX6_requireScheme_4 : decode cX6_requireScheme 4 = .ok (.iload_n 1, 1) := by decide +kernel
theorem dX6_requireScheme_5 : decode cX6_requireScheme 5 = .ok (.iconst 2, 1) := by decide +kernel
theorem dX6_requireScheme_6 : decode cX6_requireScheme 6 = .ok (.if_icmp .lt 13, 3) := by decide +kernel
theorem dX6_requireScheme_9 : decode cX6_requireScheme 9 = .ok (.new 185, 3) := by decide +kernel
theorem dX6_requireScheme_12 : decode cX6_requireScheme 12 = .ok (.dup, 1) := by decide +kernel
theorem dX6_requireScheme_13 : decode cX6_requireScheme 13 = .ok (.ldc 192, 2) := by decide +kernel
theorem dX6_requireScheme_15 : decode cX6_requireScheme 15 = .ok (.invokespecial 189, 3) := by decide +kernel
theorem dX6_requireScheme_18 : decode cX6_requireScheme 18 = .ok (.athrow, 1) := by decide +kernel
theorem dX6_requireScheme_19 : decode cX6_requireScheme 19 = .ok (.return_, 1) := by decide +kernel
theorem dX6_requireSight_0 : decode cX6_requireSight 0 = .ok (.iload_n 1, 1) := by decide +kernel
theorem dX6_requireSight_1 : decode cX6_requireSight 1 = .ok (.ifCond .lt 8, 3) := by decide +kernel
theorem dX6_requireSight_4 : decode cX6_requireSight 4 = .ok (.iload_n 1, 1) := by decide +kernel
theorem dX6_requireSight_5 : decode cX6_requireSight 5 = .ok (.iconst 5, 1) := by decide +kernel
theorem dX6_requireSight_6 : decode cX6_requireSight 6 = .ok (.if_icmp .lt 13, 3) := by decide +kernel
theorem dX6_requireSight_9 : decode cX6_requireSight 9 = .ok (.new 50, 3) := by decide +kernel
theorem dX6_requireSight_12 : decode cX6_requireSight 12 = .ok (.dup, 1) := by decide +kernel
theorem dX6_requireSight_13 : decode cX6_requireSight 13 = .ok (.ldc 194, 2) := by decide +kernel
theorem dX6_requireSight_15 : decode cX6_requireSight 15 = .ok (.invokespecial 54, 3) := by decide +kernel
theorem dX6_requireSight_18 : decode cX6_requireSight 18 = .ok (.athrow, 1) := by decide +kernel
theorem dX6_requireSight_19 : decode cX6_requireSight 19 = .ok (.return_, 1) := by decide +kernel
theorem dX6_requireColour_0 : decode cX6_requireColour 0 = .ok (.iload_n 1, 1) := by decide +kernel
theorem dX6_requireColour_1 : decode cX6_requireColour 1 = .ok (.ifCond .lt 9, 3) := by decide +kernel
theorem dX6_requireColour_4 : decode cX6_requireColour 4 = .ok (.iload_n 1, 1) := by decide +kernel
theorem dX6_requireColour_5 : decode cX6_requireColour 5 = .ok (.ldc 196, 2) := by decide +kernel
theorem dX6_requireColour_7 : decode cX6_requireColour 7 = .ok (.if_icmp .le 13, 3) := by decide +kernel
theorem dX6_requireColour_10 : decode cX6_requireColour 10 = .ok (.new 50, 3) := by decide +kernel
theorem dX6_requireColour_13 : decode cX6_requireColour 13 = .ok (.dup, 1) := by decide +kernel
theorem dX6_requireColour_14 : decode cX6_requireColour 14 = .ok (.ldc 197, 2) := by decide +kernel
theorem dX6_requireColour_16 : decode cX6_requireColour 16 = .ok (.invokespecial 54, 3) := by decide +kernel
theorem dX6_requireColour_19 : decode cX6_requireColour 19 = .ok (.athrow, 1) := by decide +kernel
theorem dX6_requireColour_20 : decode cX6_requireColour 20 = .ok (.return_, 1) := by decide +kernel
theorem dX6_limited_0 : decode cX6_limited 0 = .ok (.iload_n 0, 1) := by decide +kernel
theorem dX6_limited_1 : decode cX6_limited 1 = .ok (.iload_n 1, 1) := by decide +kernel
theorem dX6_limited_2 : decode cX6_limited 2 = .ok (.if_icmp .ge 7, 3) := by decide +kernel
theorem dX6_limited_5 : decode cX6_limited 5 = .ok (.iload_n 1, 1) := by decide +kernel
theorem dX6_limited_6 : decode cX6_limited 6 = .ok (.goto 13, 3) := by decide +kernel
theorem dX6_limited_9 : decode cX6_limited 9 = .ok (.iload_n 0, 1) := by decide +kernel
theorem dX6_limited_10 : decode cX6_limited 10 = .ok (.iload_n 2, 1) := by decide +kernel
theorem dX6_limited_11 : decode cX6_limited 11 = .ok (.if_icmp .le 7, 3) := by decide +kernel
theorem dX6_limited_14 : decode cX6_limited 14 = .ok (.iload_n 2, 1) := by decide +kernel
theorem dX6_limited_15 : decode cX6_limited 15 = .ok (.goto 4, 3) := by decide +kernel
theorem dX6_limited_18 : decode cX6_limited 18 = .ok (.iload_n 0, 1) := by decide +kernel
theorem dX6_limited_19 : decode cX6_limited 19 = .ok (.ireturn, 1) := by decide +kernel
theorem dX7_init_0 : decode cX7_init 0 = .ok (.aload_n 0, 1) := by decide +kernel
theorem dX7_init_1 : decode cX7_init 1 = .ok (.invokespecial 3, 3) := by decide +kernel
theorem dX7_init_4 : decode cX7_init 4 = .ok (.aload_n 0, 1) := by decide +kernel
theorem dX7_init_5 : decode cX7_init 5 = .ok (.sipush 700, 3) := by decide +kernel
theorem dX7_init_8 : decode cX7_init 8 = .ok (.newarray .int, 2) := by decide +kernel
theorem dX7_init_10 : decode cX7_init 10 = .ok (.putfield 9, 3) := by decide +kernel
theorem dX7_init_13 : decode cX7_init 13 = .ok (.aload_n 0, 1) := by decide +kernel
theorem dX7_init_14 : decode cX7_init 14 = .ok (.iconst (-1), 1) := by decide +kernel
theorem dX7_init_15 : decode cX7_init 15 = .ok (.putfield 13, 3) := by decide +kernel
theorem dX7_init_18 : decode cX7_init 18 = .ok (.aload_n 0, 1) := by decide +kernel
theorem dX7_init_19 : decode cX7_init 19 = .ok (.sipush 1282, 3) := by decide +kernel
theorem dX7_init_22 : decode cX7_init 22 = .ok (.newarray .int, 2) := by decide +kernel
theorem dX7_init_24 : decode cX7_init 24 = .ok (.putfield 17, 3) := by decide +kernel
theorem dX7_init_27 : decode cX7_init 27 = .ok (.aload_n 0, 1) := by decide +kernel
theorem dX7_init_28 : decode cX7_init 28 = .ok (.sipush 1282, 3) := by decide +kernel
theorem dX7_init_31 : decode cX7_init 31 = .ok (.newarray .int, 2) := by decide +kernel
theorem dX7_init_33 : decode cX7_init 33 = .ok (.putfield 20, 3) := by decide +kernel
theorem dX7_init_36 : decode cX7_init 36 = .ok (.aload_n 0, 1) := by decide +kernel
theorem dX7_init_37 : decode cX7_init 37 = .ok (.bipush 8, 2) := by decide +kernel
theorem dX7_init_39 : decode cX7_init 39 = .ok (.sipush 1282, 3) := by decide +kernel
theorem dX7_init_42 : decode cX7_init 42 = .ok (.multianewarray 23 2, 4) := by decide +kernel
theorem dX7_init_46 : decode cX7_init 46 = .ok (.putfield 25, 3) := by decide +kernel
theorem dX7_init_49 : decode cX7_init 49 = .ok (.aload_n 0, 1) := by decide +kernel
theorem dX7_init_50 : decode cX7_init 50 = .ok (.sipush 1200, 3) := by decide +kernel
theorem dX7_init_53 : decode cX7_init 53 = .ok (.newarray .long, 2) := by decide +kernel
theorem dX7_init_55 : decode cX7_init 55 = .ok (.putfield 28, 3) := by decide +kernel
theorem dX7_init_58 : decode cX7_init 58 = .ok (.aload_n 0, 1) := by decide +kernel
theorem dX7_init_59 : decode cX7_init 59 = .ok (.bipush 24, 2) := by decide +kernel
theorem dX7_init_61 : decode cX7_init 61 = .ok (.newarray .int, 2) := by decide +kernel
theorem dX7_init_63 : decode cX7_init 63 = .ok (.putfield 32, 3) := by decide +kernel
theorem dX7_init_66 : decode cX7_init 66 = .ok (.return_, 1) := by decide +kernel
theorem dX7_thrown_0 : decode cX7_thrown 0 = .ok (.aload_n 0, 1) := by decide +kernel
theorem dX7_thrown_1 : decode cX7_thrown 1 = .ok (.getfield 35, 3) := by decide +kernel
theorem dX7_thrown_4 : decode cX7_thrown 4 = .ok (.ireturn, 1) := by decide +kernel
theorem dX7_fails_0 : decode cX7_fails 0 = .ok (.iload_n 1, 1) := by decide +kernel
theorem dX7_fails_1 : decode cX7_fails 1 = .ok (.ifCond .eq 15, 3) := by decide +kernel
theorem dX7_fails_4 : decode cX7_fails 4 = .ok (.aload_n 0, 1) := by decide +kernel
theorem dX7_fails_5 : decode cX7_fails 5 = .ok (.getfield 35, 3) := by decide +kernel
theorem dX7_fails_8 : decode cX7_fails 8 = .ok (.ifCond .ne 8, 3) := by decide +kernel
theorem dX7_fails_11 : decode cX7_fails 11 = .ok (.aload_n 0, 1) := by decide +kernel
theorem dX7_fails_12 : decode cX7_fails 12 = .ok (.iload_n 2, 1) := by decide +kernel
theorem dX7_fails_13 : decode cX7_fails 13 = .ok (.putfield 35, 3) := by decide +kernel
theorem dX7_fails_16 : decode cX7_fails 16 = .ok (.aload_n 0, 1) := by decide +kernel
theorem dX7_fails_17 : decode cX7_fails 17 = .ok (.getfield 35, 3) := by decide +kernel
theorem dX7_fails_20 : decode cX7_fails 20 = .ok (.ifCond .eq 7, 3) := by decide +kernel
theorem dX7_fails_23 : decode cX7_fails 23 = .ok (.iconst 1, 1) := by decide +kernel
theorem dX7_fails_24 : decode cX7_fails 24 = .ok (.goto 4, 3) := by decide +kernel
theorem dX7_fails_27 : decode cX7_fails 27 = .ok (.iconst 0, 1) := by decide +kernel
theorem dX7_fails_28 : decode cX7_fails 28 = .ok (.ireturn, 1) := by decide +kernel
theorem dX7_in_0 : decode cX7_in 0 = .ok (.iload_n 0, 1) := by decide +kernel
theorem dX7_in_1 : decode cX7_in 1 = .ok (.iload_n 1, 1) := by decide +kernel
theorem dX7_in_2 : decode cX7_in 2 = .ok (.if_icmp .lt 12, 3) := by decide +kernel
theorem dX7_in_5 : decode cX7_in 5 = .ok (.iload_n 0, 1) := by decide +kernel
theorem dX7_in_6 : decode cX7_in 6 = .ok (.iload_n 2, 1) := by decide +kernel
theorem dX7_in_7 : decode cX7_in 7 = .ok (.if_icmp .gt 7, 3) := by decide +kernel
theorem dX7_in_10 : decode cX7_in 10 = .ok (.iconst 1, 1) := by decide +kernel
theorem dX7_in_11 : decode cX7_in 11 = .ok (.goto 4, 3) := by decide +kernel
theorem dX7_in_14 : decode cX7_in 14 = .ok (.iconst 0, 1) := by decide +kernel
theorem dX7_in_15 : decode cX7_in 15 = .ok (.ireturn, 1) := by decide +kernel
theorem dX7_min_0 : decode cX7_min 0 = .ok (.iload_n 0, 1) := by decide +kernel
theorem dX7_min_1 : decode cX7_min 1 = .ok (.iload_n 1, 1) := by decide +kernel
theorem dX7_min_2 : decode cX7_min 2 = .ok (.if_icmp .ge 7, 3) := by decide +kernel
theorem dX7_min_5 : decode cX7_min 5 = .ok (.iload_n 0, 1) := by decide +kernel
theorem dX7_min_6 : decode cX7_min 6 = .ok (.goto 4, 3) := by decide +kernel
theorem dX7_min_9 : decode cX7_min 9 = .ok (.iload_n 1, 1) := by decide +kernel
theorem dX7_min_10 : decode cX7_min 10 = .ok (.ireturn, 1) := by decide +kernel
theorem dX7_max_0 : decode cX7_max 0 = .ok (.iload_n 0, 1) := by decide +kernel
theorem dX7_max_1 : decode cX7_max 1 = .ok (.iload_n 1, 1) := by decide +kernel
theorem dX7_max_2 : decode cX7_max 2 = .ok (.if_icmp .le 7, 3) := by decide +kernel
theorem dX7_max_5 : decode cX7_max 5 = .ok (.iload_n 0, 1) := by decide +kernel
theorem dX7_max_6 : decode cX7_max 6 = .ok (.goto 4, 3) := by decide +kernel
theorem dX7_max_9 : decode cX7_max 9 = .ok (.iload_n 1, 1) := by decide +kernel
theorem dX7_max_10 : decode cX7_max 10 = .ok (.ireturn, 1) := by decide +kernel
theorem dX7_copy_0 : decode cX7_copy 0 = .ok (.iconst 0, 1) := by decide +kernel
theorem dX7_copy_1 : decode cX7_copy 1 = .ok (.istore_n 2, 1) := by decide +kernel
theorem dX7_copy_2 : decode cX7_copy 2 = .ok (.iload_n 2, 1) := by decide +kernel
theorem dX7_copy_3 : decode cX7_copy 3 = .ok (.sipush 1282, 3) := by decide +kernel
theorem dX7_copy_6 : decode cX7_copy 6 = .ok (.if_icmp .ge 15, 3) := by decide +kernel
theorem dX7_copy_9 : decode cX7_copy 9 = .ok (.aload_n 1, 1) := by decide +kernel
theorem dX7_copy_10 : decode cX7_copy 10 = .ok (.iload_n 2, 1) := by decide +kernel
theorem dX7_copy_11 : decode cX7_copy 11 = .ok (.aload_n 0, 1) := by decide +kernel
theorem dX7_copy_12 : decode cX7_copy 12 = .ok (.iload_n 2, 1) := by decide +kernel
theorem dX7_copy_13 : decode cX7_copy 13 = .ok (.iaload, 1) := by decide +kernel
theorem dX7_copy_14 : decode cX7_copy 14 = .ok (.iastore, 1) := by decide +kernel
theorem dX7_copy_15 : decode cX7_copy 15 = .ok (.iinc 2 1, 3) := by decide +kernel
theorem dX7_copy_18 : decode cX7_copy 18 = .ok (.goto (-16), 3) := by decide +kernel
theorem dX7_copy_21 : decode cX7_copy 21 = .ok (.return_, 1) := by decide +kernel
theorem dX7_role_0 : decode cX7_role 0 = .ok (.iconst 4, 1) := by decide +kernel
theorem dX7_role_1 : decode cX7_role 1 = .ok (.iconst 3, 1) := by decide +kernel
theorem dX7_role_2 : decode cX7_role 2 = .ok (.iload_n 0, 1) := by decide +kernel
theorem dX7_role_3 : decode cX7_role 3 = .ok (.imul, 1) := by decide +kernel
theorem dX7_role_4 : decode cX7_role 4 = .ok (.iadd, 1) := by decide +kernel
theorem dX7_role_5 : decode cX7_role 5 = .ok (.ireturn, 1) := by decide +kernel
theorem dX7_rule_0 : decode cX7_rule 0 = .ok (.bipush 34, 2) := by decide +kernel
theorem dX7_rule_2 : decode cX7_rule 2 = .ok (.iconst 4, 1) := by decide +kernel
theorem dX7_rule_3 : decode cX7_rule 3 = .ok (.iload_n 0, 1) := by decide +kernel
theorem dX7_rule_4 : decode cX7_rule 4 = .ok (.imul, 1) := by decide +kernel
theorem dX7_rule_5 : decode cX7_rule 5 = .ok (.iadd, 1) := by decide +kernel
theorem dX7_rule_6 : decode cX7_rule 6 = .ok (.ireturn, 1) := by decide +kernel
theorem dX7_mixed_0 : decode cX7_mixed 0 = .ok (.ldc 38, 2) := by decide +kernel
theorem dX7_mixed_2 : decode cX7_mixed 2 = .ok (.iload_n 0, 1) := by decide +kernel
theorem dX7_mixed_3 : decode cX7_mixed 3 = .ok (.imul, 1) := by decide +kernel
theorem dX7_mixed_4 : decode cX7_mixed 4 = .ok (.sipush 256, 3) := by decide +kernel
theorem dX7_mixed_7 : decode cX7_mixed 7 = .ok (.iload_n 1, 1) := by decide +kernel
theorem dX7_mixed_8 : decode cX7_mixed 8 = .ok (.imul, 1) := by decide +kernel
theorem dX7_mixed_9 : decode cX7_mixed 9 = .ok (.iadd, 1) := by decide +kernel
theorem dX7_mixed_10 : decode cX7_mixed 10 = .ok (.iload_n 2, 1) := by decide +kernel
theorem dX7_mixed_11 : decode cX7_mixed 11 = .ok (.iadd, 1) := by decide +kernel
theorem dX7_mixed_12 : decode cX7_mixed 12 = .ok (.ireturn, 1) := by decide +kernel
theorem dX7_append_0 : decode cX7_append 0 = .ok (.aload_n 0, 1) := by decide +kernel
theorem dX7_append_1 : decode cX7_append 1 = .ok (.iconst 0, 1) := by decide +kernel
theorem dX7_append_2 : decode cX7_append 2 = .ok (.putfield 35, 3) := by decide +kernel
theorem dX7_append_5 : decode cX7_append 5 = .ok (.aload_n 0, 1) := by decide +kernel
theorem dX7_append_6 : decode cX7_append 6 = .ok (.getfield 39, 3) := by decide +kernel
theorem dX7_append_9 : decode cX7_append 9 = .ok (.bipush 20, 2) := by decide +kernel
theorem dX7_append_11 : decode cX7_append 11 = .ok (.iadd, 1) := by decide +kernel
theorem dX7_append_12 : decode cX7_append 12 = .ok (.sipush 700, 3) := by decide +kernel
theorem dX7_append_15 : decode cX7_append 15 = .ok (.if_icmp .le 5, 3) := by decide +kernel
theorem dX7_append_18 : decode cX7_append 18 = .ok (.iconst (-1), 1) := by decide +kernel
theorem dX7_append_19 : decode cX7_append 19 = .ok (.ireturn, 1) := by decide +kernel
theorem dX7_append_20 : decode cX7_append 20 = .ok (.iconst 0, 1) := by decide +kernel
theorem dX7_append_21 : decode cX7_append 21 = .ok (.istore 6, 2) := by decide +kernel
theorem dX7_append_23 : decode cX7_append 23 = .ok (.iload 6, 2) := by decide +kernel
theorem dX7_append_25 : decode cX7_append 25 = .ok (.bipush 20, 2) := by decide +kernel
theorem dX7_append_27 : decode cX7_append 27 = .ok (.if_icmp .ge 93, 3) := by decide +kernel
theorem dX7_append_30 : decode cX7_append 30 = .ok (.iload 6, 2) := by decide +kernel
theorem dX7_append_32 : decode cX7_append 32 = .ok (.iconst 4, 1) := by decide +kernel
theorem dX7_append_33 : decode cX7_append 33 = .ok (.if_icmp .ge 7, 3) := by decide +kernel
theorem dX7_append_36 : decode cX7_append 36 = .ok (.iload_n 1, 1) := by decide +kernel
theorem dX7_append_37 : decode cX7_append 37 = .ok (.goto 39, 3) := by decide +kernel
theorem dX7_append_40 : decode cX7_append 40 = .ok (.iload 6, 2) := by decide +kernel
theorem dX7_append_42 : decode cX7_append 42 = .ok (.bipush 8, 2) := by decide +kernel
theorem dX7_append_44 : decode cX7_append 44 = .ok (.if_icmp .ge 7, 3) := by decide +kernel
theorem dX7_append_47 : decode cX7_append 47 = .ok (.iload_n 2, 1) := by decide +kernel
theorem dX7_append_48 : decode cX7_append 48 = .ok (.goto 28, 3) := by decide +kernel
theorem dX7_append_51 : decode cX7_append 51 = .ok (.iload 6, 2) := by decide +kernel
theorem dX7_append_53 : decode cX7_append 53 = .ok (.bipush 12, 2) := by decide +kernel
theorem dX7_append_55 : decode cX7_append 55 = .ok (.if_icmp .ge 7, 3) := by decide +kernel
theorem dX7_append_58 : decode cX7_append 58 = .ok (.iload_n 3, 1) := by decide +kernel
theorem dX7_append_59 : decode cX7_append 59 = .ok (.goto 17, 3) := by decide +kernel
theorem dX7_append_62 : decode cX7_append 62 = .ok (.iload 6, 2) := by decide +kernel
theorem dX7_append_64 : decode cX7_append 64 = .ok (.bipush 16, 2) := by decide +kernel
theorem dX7_append_66 : decode cX7_append 66 = .ok (.if_icmp .ge 8, 3) := by decide +kernel
theorem dX7_append_69 : decode cX7_append 69 = .ok (.iload 4, 2) := by decide +kernel
theorem dX7_append_71 : decode cX7_append 71 = .ok (.goto 5, 3) := by decide +kernel
theorem dX7_append_74 : decode cX7_append 74 = .ok (.iload 5, 2) := by decide +kernel
theorem dX7_append_76 : decode cX7_append 76 = .ok (.istore 7, 2) := by decide +kernel
theorem dX7_append_78 : decode cX7_append 78 = .ok (.aload_n 0, 1) := by decide +kernel
theorem dX7_append_79 : decode cX7_append 79 = .ok (.getfield 9, 3) := by decide +kernel
theorem dX7_append_82 : decode cX7_append 82 = .ok (.aload_n 0, 1) := by decide +kernel
theorem dX7_append_83 : decode cX7_append 83 = .ok (.getfield 39, 3) := by decide +kernel
theorem dX7_append_86 : decode cX7_append 86 = .ok (.iload 7, 2) := by decide +kernel
theorem dX7_append_88 : decode cX7_append 88 = .ok (.bipush 24, 2) := by decide +kernel
theorem dX7_append_90 : decode cX7_append 90 = .ok (.bipush 8, 2) := by decide +kernel
theorem dX7_append_92 : decode cX7_append 92 = .ok (.iload 6, 2) := by decide +kernel
theorem dX7_append_94 : decode cX7_append 94 = .ok (.iconst 4, 1) := by decide +kernel
theorem dX7_append_95 : decode cX7_append 95 = .ok (.irem, 1) := by decide +kernel
theorem dX7_append_96 : decode cX7_append 96 = .ok (.imul, 1) := by decide +kernel
theorem dX7_append_97 : decode cX7_append 97 = .ok (.isub, 1) := by decide +kernel
theorem dX7_append_98 : decode cX7_append 98 = .ok (.ishr, 1) := by decide +kernel
theorem dX7_append_99 : decode cX7_append 99 = .ok (.sipush 255, 3) := by decide +kernel
theorem dX7_append_102 : decode cX7_append 102 = .ok (.iand, 1) := by decide +kernel
theorem dX7_append_103 : decode cX7_append 103 = .ok (.iastore, 1) := by decide +kernel
theorem dX7_append_104 : decode cX7_append 104 = .ok (.aload_n 0, 1) := by decide +kernel
theorem dX7_append_105 : decode cX7_append 105 = .ok (.dup, 1) := by decide +kernel
theorem dX7_append_106 : decode cX7_append 106 = .ok (.getfield 39, 3) := by decide +kernel
theorem dX7_append_109 : decode cX7_append 109 = .ok (.iconst 1, 1) := by decide +kernel
theorem dX7_append_110 : decode cX7_append 110 = .ok (.iadd, 1) := by decide +kernel
theorem dX7_append_111 : decode cX7_append 111 = .ok (.putfield 39, 3) := by decide +kernel
theorem dX7_append_114 : decode cX7_append 114 = .ok (.iinc 6 1, 3) := by decide +kernel
theorem dX7_append_117 : decode cX7_append 117 = .ok (.goto (-94), 3) := by decide +kernel
theorem dX7_append_120 : decode cX7_append 120 = .ok (.aload_n 0, 1) := by decide +kernel
theorem dX7_append_121 : decode cX7_append 121 = .ok (.getfield 39, 3) := by decide +kernel
theorem dX7_append_124 : decode cX7_append 124 = .ok (.ireturn, 1) := by decide +kernel
theorem dX7_byteAt_0 : decode cX7_byteAt 0 = .ok (.iload_n 1, 1) := by decide +kernel
theorem dX7_byteAt_1 : decode cX7_byteAt 1 = .ok (.aload_n 0, 1) := by decide +kernel
theorem dX7_byteAt_2 : decode cX7_byteAt 2 = .ok (.getfield 42, 3) := by decide +kernel
theorem dX7_byteAt_5 : decode cX7_byteAt 5 = .ok (.if_icmp .ge 12, 3) := by decide +kernel
theorem dX7_byteAt_8 : decode cX7_byteAt 8 = .ok (.aload_n 0, 1) := by decide +kernel
theorem dX7_byteAt_9 : decode cX7_byteAt 9 = .ok (.getfield 9, 3) := by decide +kernel
theorem dX7_byteAt_12 : decode cX7_byteAt 12 = .ok (.iload_n 1, 1) := by decide +kernel
theorem dX7_byteAt_13 : decode cX7_byteAt 13 = .ok (.iaload, 1) := by decide +kernel
theorem dX7_byteAt_14 : decode cX7_byteAt 14 = .ok (.goto 4, 3) := by decide +kernel
theorem dX7_byteAt_17 : decode cX7_byteAt 17 = .ok (.iconst (-1), 1) := by decide +kernel
theorem dX7_byteAt_18 : decode cX7_byteAt 18 = .ok (.ireturn, 1) := by decide +kernel
theorem dX7_next_0 : decode cX7_next 0 = .ok (.aload_n 0, 1) := by decide +kernel
theorem dX7_next_1 : decode cX7_next 1 = .ok (.aload_n 0, 1) := by decide +kernel
theorem dX7_next_2 : decode cX7_next 2 = .ok (.getfield 45, 3) := by decide +kernel
theorem dX7_next_5 : decode cX7_next 5 = .ok (.invokevirtual 48, 3) := by decide +kernel
theorem dX7_next_8 : decode cX7_next 8 = .ok (.bipush 32, 2) := by decide +kernel
theorem dX7_next_10 : decode cX7_next 10 = .ok (.if_icmp .ne 16, 3) := by decide +kernel
theorem dX7_next_13 : decode cX7_next 13 = .ok (.aload_n 0, 1) := by decide +kernel
theorem dX7_next_14 : decode cX7_next 14 = .ok (.dup, 1) := by decide +kernel
theorem dX7_next_15 : decode cX7_next 15 = .ok (.getfield 45, 3) := by decide +kernel
theorem dX7_next_18 : decode cX7_next 18 = .ok (.iconst 1, 1) := by decide +kernel
theorem dX7_next_19 : decode cX7_next 19 = .ok (.iadd, 1) := by decide +kernel
theorem dX7_next_20 : decode cX7_next 20 = .ok (.putfield 45, 3) := by decide +kernel
theorem dX7_next_23 : decode cX7_next 23 = .ok (.goto (-23), 3) := by decide +kernel
theorem dX7_next_26 : decode cX7_next 26 = .ok (.aload_n 0, 1) := by decide +kernel
theorem dX7_next_27 : decode cX7_next 27 = .ok (.aload_n 0, 1) := by decide +kernel
theorem dX7_next_28 : decode cX7_next 28 = .ok (.getfield 45, 3) := by decide +kernel
theorem dX7_next_31 : decode cX7_next 31 = .ok (.invokevirtual 48, 3) := by decide +kernel
theorem dX7_next_34 : decode cX7_next 34 = .ok (.ireturn, 1) := by decide +kernel
theorem dX7_isGood_0 : decode cX7_isGood 0 = .ok (.aload_n 0, 1) := by decide +kernel
theorem dX7_isGood_1 : decode cX7_isGood 1 = .ok (.getfield 52, 3) := by decide +kernel
theorem dX7_isGood_4 : decode cX7_isGood 4 = .ok (.ifCond .ne 7, 3) := by decide +kernel
theorem dX7_isGood_7 : decode cX7_isGood 7 = .ok (.iconst 1, 1) := by decide +kernel
theorem dX7_isGood_8 : decode cX7_isGood 8 = .ok (.goto 4, 3) := by decide +kernel
theorem dX7_isGood_11 : decode cX7_isGood 11 = .ok (.iconst 0, 1) := by decide +kernel
theorem dX7_isGood_12 : decode cX7_isGood 12 = .ok (.ireturn, 1) := by decide +kernel
theorem dX7_report_0 : decode cX7_report 0 = .ok (.aload_n 0, 1) := by decide +kernel
theorem dX7_report_1 : decode cX7_report 1 = .ok (.getfield 52, 3) := by decide +kernel
theorem dX7_report_4 : decode cX7_report 4 = .ok (.ifCond .eq 4, 3) := by decide +kernel
theorem dX7_report_7 : decode cX7_report 7 = .ok (.return_, 1) := by decide +kernel
theorem dX7_report_8 : decode cX7_report 8 = .ok (.aload_n 0, 1) := by decide +kernel
theorem dX7_report_9 : decode cX7_report 9 = .ok (.iload_n 1, 1) := by decide +kernel
theorem dX7_report_10 : decode cX7_report 10 = .ok (.putfield 52, 3) := by decide +kernel
theorem dX7_report_13 : decode cX7_report 13 = .ok (.aload_n 0, 1) := by decide +kernel
theorem dX7_report_14 : decode cX7_report 14 = .ok (.iload_n 2, 1) := by decide +kernel
theorem dX7_report_15 : decode cX7_report 15 = .ok (.putfield 55, 3) := by decide +kernel
theorem dX7_report_18 : decode cX7_report 18 = .ok (.return_, 1) := by decide +kernel
theorem dX7_isDigit_0 : decode cX7_isDigit 0 = .ok (.iload_n 0, 1) := by decide +kernel
theorem dX7_isDigit_1 : decode cX7_isDigit 1 = .ok (.bipush 48, 2) := by decide +kernel
theorem dX7_isDigit_3 : decode cX7_isDigit 3 = .ok (.bipush 57, 2) := by decide +kernel
theorem dX7_isDigit_5 : decode cX7_isDigit 5 = .ok (.invokestatic 58, 3) := by decide +kernel
theorem dX7_isDigit_8 : decode cX7_isDigit 8 = .ok (.ireturn, 1) := by decide +kernel
theorem dX7_takeWord_0 : decode cX7_takeWord 0 = .ok (.aload_n 0, 1) := by decide +kernel
theorem dX7_takeWord_1 : decode cX7_takeWord 1 = .ok (.invokevirtual 62, 3) := by decide +kernel
theorem dX7_takeWord_4 : decode cX7_takeWord 4 = .ok (.ifCond .ne 5, 3) := by decide +kernel
theorem dX7_takeWord_7 : decode cX7_takeWord 7 = .ok (.iconst 0, 1) := by decide +kernel
theorem dX7_takeWord_8 : decode cX7_takeWord 8 = .ok (.ireturn, 1) := by decide +kernel
theorem dX7_takeWord_9 : decode cX7_takeWord 9 = .ok (.aload_n 0, 1) := by decide +kernel
theorem dX7_takeWord_10 : decode cX7_takeWord 10 = .ok (.invokevirtual 66, 3) := by decide +kernel
theorem dX7_takeWord_13 : decode cX7_takeWord 13 = .ok (.pop, 1) := by decide +kernel
theorem dX7_takeWord_14 : decode cX7_takeWord 14 = .ok (.iconst 0, 1) := by decide +kernel
theorem dX7_takeWord_15 : decode cX7_takeWord 15 = .ok (.istore_n 2, 1) := by decide +kernel
theorem dX7_takeWord_16 : decode cX7_takeWord 16 = .ok (.iload_n 2, 1) := by decide +kernel
theorem dX7_takeWord_17 : decode cX7_takeWord 17 = .ok (.aload_n 1, 1) := by decide +kernel
theorem dX7_takeWord_18 : decode cX7_takeWord 18 = .ok (.invokevirtual 70, 3) := by decide +kernel
theorem dX7_takeWord_21 : decode cX7_takeWord 21 = .ok (.if_icmp .ge 27, 3) := by decide +kernel
theorem dX7_takeWord_24 : decode cX7_takeWord 24 = .ok (.aload_n 0, 1) := by decide +kernel
theorem dX7_takeWord_25 : decode cX7_takeWord 25 = .ok (.aload_n 0, 1) := by decide +kernel
theorem dX7_takeWord_26 : decode cX7_takeWord 26 = .ok (.getfield 45, 3) := by decide +kernel
theorem dX7_takeWord_29 : decode cX7_takeWord 29 = .ok (.iload_n 2, 1) := by decide +kernel
theorem dX7_takeWord_30 : decode cX7_takeWord 30 = .ok (.iadd, 1) := by decide +kernel
theorem dX7_takeWord_31 : decode cX7_takeWord 31 = .ok (.invokevirtual 48, 3) := by decide +kernel
theorem dX7_takeWord_34 : decode cX7_takeWord 34 = .ok (.aload_n 1, 1) := by decide +kernel
theorem dX7_takeWord_35 : decode cX7_takeWord 35 = .ok (.iload_n 2, 1) := by decide +kernel
theorem dX7_takeWord_36 : decode cX7_takeWord 36 = .ok (.invokevirtual 75, 3) := by decide +kernel
theorem dX7_takeWord_39 : decode cX7_takeWord 39 = .ok (.if_icmp .ne 9, 3) := by decide +kernel
theorem dX7_takeWord_42 : decode cX7_takeWord 42 = .ok (.iinc 2 1, 3) := by decide +kernel
theorem dX7_takeWord_45 : decode cX7_takeWord 45 = .ok (.goto (-29), 3) := by decide +kernel
theorem dX7_takeWord_48 : decode cX7_takeWord 48 = .ok (.iload_n 2, 1) := by decide +kernel
theorem dX7_takeWord_49 : decode cX7_takeWord 49 = .ok (.aload_n 1, 1) := by decide +kernel
theorem dX7_takeWord_50 : decode cX7_takeWord 50 = .ok (.invokevirtual 70, 3) := by decide +kernel
theorem dX7_takeWord_53 : decode cX7_takeWord 53 = .ok (.if_icmp .lt 23, 3) := by decide +kernel
theorem dX7_takeWord_56 : decode cX7_takeWord 56 = .ok (.aload_n 0, 1) := by decide +kernel
theorem dX7_takeWord_57 : decode cX7_takeWord 57 = .ok (.aload_n 0, 1) := by decide +kernel
theorem dX7_takeWord_58 : decode cX7_takeWord 58 = .ok (.getfield 45, 3) := by decide +kernel
theorem dX7_takeWord_61 : decode cX7_takeWord 61 = .ok (.iload_n 2, 1) := by decide +kernel
theorem dX7_takeWord_62 : decode cX7_takeWord 62 = .ok (.iadd, 1) := by decide +kernel
theorem dX7_takeWord_63 : decode cX7_takeWord 63 = .ok (.invokevirtual 48, 3) := by decide +kernel
theorem dX7_takeWord_66 : decode cX7_takeWord 66 = .ok (.bipush 97, 2) := by decide +kernel
theorem dX7_takeWord_68 : decode cX7_takeWord 68 = .ok (.bipush 122, 2) := by decide +kernel
theorem dX7_takeWord_70 : decode cX7_takeWord 70 = .ok (.invokestatic 58, 3) := by decide +kernel
theorem dX7_takeWord_73 : decode cX7_takeWord 73 = .ok (.ifCond .eq 5, 3) := by decide +kernel
theorem dX7_takeWord_76 : decode cX7_takeWord 76 = .ok (.iconst 0, 1) := by decide +kernel
theorem dX7_takeWord_77 : decode cX7_takeWord 77 = .ok (.ireturn, 1) := by decide +kernel
theorem dX7_takeWord_78 : decode cX7_takeWord 78 = .ok (.aload_n 0, 1) := by decide +kernel
theorem dX7_takeWord_79 : decode cX7_takeWord 79 = .ok (.dup, 1) := by decide +kernel
theorem dX7_takeWord_80 : decode cX7_takeWord 80 = .ok (.getfield 45, 3) := by decide +kernel
theorem dX7_takeWord_83 : decode cX7_takeWord 83 = .ok (.iload_n 2, 1) := by decide +kernel
theorem dX7_takeWord_84 : decode cX7_takeWord 84 = .ok (.iadd, 1) := by decide +kernel
theorem dX7_takeWord_85 : decode cX7_takeWord 85 = .ok (.putfield 45, 3) := by decide +kernel
theorem dX7_takeWord_88 : decode cX7_takeWord 88 = .ok (.iconst 1, 1) := by decide +kernel
theorem dX7_takeWord_89 : decode cX7_takeWord 89 = .ok (.ireturn, 1) := by decide +kernel
theorem dX7_expect_0 : decode cX7_expect 0 = .ok (.aload_n 0, 1) := by decide +kernel
theorem dX7_expect_1 : decode cX7_expect 1 = .ok (.invokevirtual 62, 3) := by decide +kernel
theorem dX7_expect_4 : decode cX7_expect 4 = .ok (.ifCond .ne 4, 3) := by decide +kernel
theorem dX7_expect_7 : decode cX7_expect 7 = .ok (.return_, 1) := by decide +kernel
theorem dX7_expect_8 : decode cX7_expect 8 = .ok (.aload_n 0, 1) := by decide +kernel
theorem dX7_expect_9 : decode cX7_expect 9 = .ok (.invokevirtual 66, 3) := by decide +kernel
theorem dX7_expect_12 : decode cX7_expect 12 = .ok (.iload_n 1, 1) := by decide +kernel
theorem dX7_expect_13 : decode cX7_expect 13 = .ok (.if_icmp .ne 16, 3) := by decide +kernel
theorem dX7_expect_16 : decode cX7_expect 16 = .ok (.aload_n 0, 1) := by decide +kernel
theorem dX7_expect_17 : decode cX7_expect 17 = .ok (.dup, 1) := by decide +kernel
theorem dX7_expect_18 : decode cX7_expect 18 = .ok (.getfield 45, 3) := by decide +kernel
theorem dX7_expect_21 : decode cX7_expect 21 = .ok (.iconst 1, 1) := by decide +kernel
theorem dX7_expect_22 : decode cX7_expect 22 = .ok (.iadd, 1) := by decide +kernel
theorem dX7_expect_23 : decode cX7_expect 23 = .ok (.putfield 45, 3) := by decide +kernel
theorem dX7_expect_26 : decode cX7_expect 26 = .ok (.goto 13, 3) := by decide +kernel
theorem dX7_expect_29 : decode cX7_expect 29 = .ok (.aload_n 0, 1) := by decide +kernel
theorem dX7_expect_30 : decode cX7_expect 30 = .ok (.bipush (-2), 2) := by decide +kernel
theorem dX7_expect_32 : decode cX7_expect 32 = .ok (.aload_n 0, 1) := by decide +kernel
theorem dX7_expect_33 : decode cX7_expect 33 = .ok (.getfield 45, 3) := by decide +kernel
theorem dX7_expect_36 : decode cX7_expect 36 = .ok (.invokevirtual 79, 3) := by decide +kernel
theorem dX7_expect_39 : decode cX7_expect 39 = .ok (.return_, 1) := by decide +kernel
theorem dX7_number_0 : decode cX7_number 0 = .ok (.aload_n 0, 1) := by decide +kernel
theorem dX7_number_1 : decode cX7_number 1 = .ok (.invokevirtual 62, 3) := by decide +kernel
theorem dX7_number_4 : decode cX7_number 4 = .ok (.ifCond .ne 5, 3) := by decide +kernel
theorem dX7_number_7 : decode cX7_number 7 = .ok (.iconst 0, 1) := by decide +kernel
theorem dX7_number_8 : decode cX7_number 8 = .ok (.ireturn, 1) := by decide +kernel
theorem dX7_number_9 : decode cX7_number 9 = .ok (.aload_n 0, 1) := by decide +kernel
theorem dX7_number_10 : decode cX7_number 10 = .ok (.invokevirtual 66, 3) := by decide +kernel
theorem dX7_number_13 : decode cX7_number 13 = .ok (.invokestatic 83, 3) := by decide +kernel
theorem dX7_number_16 : decode cX7_number 16 = .ok (.ifCond .ne 15, 3) := by decide +kernel
theorem dX7_number_19 : decode cX7_number 19 = .ok (.aload_n 0, 1) := by decide +kernel
theorem dX7_number_20 : decode cX7_number 20 = .ok (.bipush (-2), 2) := by decide +kernel
theorem dX7_number_22 : decode cX7_number 22 = .ok (.aload_n 0, 1) := by decide +kernel
theorem dX7_number_23 : decode cX7_number 23 = .ok (.getfield 45, 3) := by decide +kernel
theorem dX7_number_26 : decode cX7_number 26 = .ok (.invokevirtual 79, 3) := by decide +kernel
theorem dX7_number_29 : decode cX7_number 29 = .ok (.iconst 0, 1) := by decide +kernel
theorem dX7_number_30 : decode cX7_number 30 = .ok (.ireturn, 1) := by decide +kernel
theorem dX7_number_31 : decode cX7_number 31 = .ok (.aload_n 0, 1) := by decide +kernel
theorem dX7_number_32 : decode cX7_number 32 = .ok (.aload_n 0, 1) := by decide +kernel
theorem dX7_number_33 : decode cX7_number 33 = .ok (.getfield 45, 3) := by decide +kernel
theorem dX7_number_36 : decode cX7_number 36 = .ok (.putfield 87, 3) := by decide +kernel
theorem dX7_number_39 : decode cX7_number 39 = .ok (.iconst 0, 1) := by decide +kernel
theorem dX7_number_40 : decode cX7_number 40 = .ok (.istore_n 3, 1) := by decide +kernel
theorem dX7_number_41 : decode cX7_number 41 = .ok (.aload_n 0, 1) := by decide +kernel
theorem dX7_number_42 : decode cX7_number 42 = .ok (.aload_n 0, 1) := by decide +kernel
theorem dX7_number_43 : decode cX7_number 43 = .ok (.getfield 45, 3) := by decide +kernel
theorem dX7_number_46 : decode cX7_number 46 = .ok (.invokevirtual 48, 3) := by decide +kernel
theorem dX7_number_49 : decode cX7_number 49 = .ok (.invokestatic 83, 3) := by decide +kernel
theorem dX7_number_52 : decode cX7_number 52 = .ok (.ifCond .eq 38, 3) := by decide +kernel
theorem dX7_number_55 : decode cX7_number 55 = .ok (.ldc 90, 2) := by decide +kernel
theorem dX7_number_57 : decode cX7_number 57 = .ok (.bipush 10, 2) := by decide +kernel
theorem dX7_number_59 : decode cX7_number 59 = .ok (.iload_n 3, 1) := by decide +kernel
theorem dX7_number_60 : decode cX7_number 60 = .ok (.imul, 1) := by decide +kernel
theorem dX7_number_61 : decode cX7_number 61 = .ok (.aload_n 0, 1) := by decide +kernel
theorem dX7_number_62 : decode cX7_number 62 = .ok (.aload_n 0, 1) := by decide +kernel
theorem dX7_number_63 : decode cX7_number 63 = .ok (.getfield 45, 3) := by decide +kernel
theorem dX7_number_66 : decode cX7_number 66 = .ok (.invokevirtual 48, 3) := by decide +kernel
theorem dX7_number_69 : decode cX7_number 69 = .ok (.iadd, 1) := by decide +kernel
theorem dX7_number_70 : decode cX7_number 70 = .ok (.bipush 48, 2) := by decide +kernel
theorem dX7_number_72 : decode cX7_number 72 = .ok (.isub, 1) := by decide +kernel
theorem dX7_number_73 : decode cX7_number 73 = .ok (.invokestatic 91, 3) := by decide +kernel
theorem dX7_number_76 : decode cX7_number 76 = .ok (.istore_n 3, 1) := by decide +kernel
theorem dX7_number_77 : decode cX7_number 77 = .ok (.aload_n 0, 1) := by decide +kernel
theorem dX7_number_78 : decode cX7_number 78 = .ok (.dup, 1) := by decide +kernel
theorem dX7_number_79 : decode cX7_number 79 = .ok (.getfield 45, 3) := by decide +kernel
theorem dX7_number_82 : decode cX7_number 82 = .ok (.iconst 1, 1) := by decide +kernel
theorem dX7_number_83 : decode cX7_number 83 = .ok (.iadd, 1) := by decide +kernel
theorem dX7_number_84 : decode cX7_number 84 = .ok (.putfield 45, 3) := by decide +kernel
theorem dX7_number_87 : decode cX7_number 87 = .ok (.goto (-46), 3) := by decide +kernel
theorem dX7_number_90 : decode cX7_number 90 = .ok (.iload_n 3, 1) := by decide +kernel
theorem dX7_number_91 : decode cX7_number 91 = .ok (.iload_n 1, 1) := by decide +kernel
theorem dX7_number_92 : decode cX7_number 92 = .ok (.iload_n 2, 1) := by decide +kernel
theorem dX7_number_93 : decode cX7_number 93 = .ok (.invokestatic 58, 3) := by decide +kernel
theorem dX7_number_96 : decode cX7_number 96 = .ok (.ifCond .ne 13, 3) := by decide +kernel
theorem dX7_number_99 : decode cX7_number 99 = .ok (.aload_n 0, 1) := by decide +kernel
theorem dX7_number_100 : decode cX7_number 100 = .ok (.bipush (-3), 2) := by decide +kernel
theorem dX7_number_102 : decode cX7_number 102 = .ok (.aload_n 0, 1) := by decide +kernel
theorem dX7_number_103 : decode cX7_number 103 = .ok (.getfield 87, 3) := by decide +kernel
theorem dX7_number_106 : decode cX7_number 106 = .ok (.invokevirtual 79, 3) := by decide +kernel
theorem dX7_number_109 : decode cX7_number 109 = .ok (.iload_n 3, 1) := by decide +kernel
theorem dX7_number_110 : decode cX7_number 110 = .ok (.ireturn, 1) := by decide +kernel
theorem dX7_emit_0 : decode cX7_emit 0 = .ok (.aload_n 0, 1) := by decide +kernel
theorem dX7_emit_1 : decode cX7_emit 1 = .ok (.invokevirtual 62, 3) := by decide +kernel
theorem dX7_emit_4 : decode cX7_emit 4 = .ok (.ifCond .ne 4, 3) := by decide +kernel
theorem dX7_emit_7 : decode cX7_emit 7 = .ok (.return_, 1) := by decide +kernel
theorem dX7_emit_8 : decode cX7_emit 8 = .ok (.aload_n 0, 1) := by decide +kernel
theorem dX7_emit_9 : decode cX7_emit 9 = .ok (.getfield 20, 3) := by decide +kernel
theorem dX7_emit_12 : decode cX7_emit 12 = .ok (.bipush 82, 2) := by decide +kernel
theorem dX7_emit_14 : decode cX7_emit 14 = .ok (.aload_n 0, 1) := by decide +kernel
theorem dX7_emit_15 : decode cX7_emit 15 = .ok (.getfield 20, 3) := by decide +kernel
theorem dX7_emit_18 : decode cX7_emit 18 = .ok (.iconst 3, 1) := by decide +kernel
theorem dX7_emit_19 : decode cX7_emit 19 = .ok (.iaload, 1) := by decide +kernel
theorem dX7_emit_20 : decode cX7_emit 20 = .ok (.iadd, 1) := by decide +kernel
theorem dX7_emit_21 : decode cX7_emit 21 = .ok (.iload_n 1, 1) := by decide +kernel
theorem dX7_emit_22 : decode cX7_emit 22 = .ok (.iastore, 1) := by decide +kernel
theorem dX7_emit_23 : decode cX7_emit 23 = .ok (.aload_n 0, 1) := by decide +kernel
theorem dX7_emit_24 : decode cX7_emit 24 = .ok (.getfield 20, 3) := by decide +kernel
theorem dX7_emit_27 : decode cX7_emit 27 = .ok (.iconst 3, 1) := by decide +kernel
theorem dX7_emit_28 : decode cX7_emit 28 = .ok (.dup2, 1) := by decide +kernel
theorem dX7_emit_29 : decode cX7_emit 29 = .ok (.iaload, 1) := by decide +kernel
theorem dX7_emit_30 : decode cX7_emit 30 = .ok (.iconst 1, 1) := by decide +kernel
theorem dX7_emit_31 : decode cX7_emit 31 = .ok (.iadd, 1) := by decide +kernel
theorem dX7_emit_32 : decode cX7_emit 32 = .ok (.iastore, 1) := by decide +kernel
theorem dX7_emit_33 : decode cX7_emit 33 = .ok (.return_, 1) := by decide +kernel
theorem dX7_factor_0 : decode cX7_factor 0 = .ok (.aload_n 0, 1) := by decide +kernel
theorem dX7_factor_1 : decode cX7_factor 1 = .ok (.invokevirtual 62, 3) := by decide +kernel
theorem dX7_factor_4 : decode cX7_factor 4 = .ok (.ifCond .ne 4, 3) := by decide +kernel
theorem dX7_factor_7 : decode cX7_factor 7 = .ok (.return_, 1) := by decide +kernel
theorem dX7_factor_8 : decode cX7_factor 8 = .ok (.aload_n 0, 1) := by decide +kernel
theorem dX7_factor_9 : decode cX7_factor 9 = .ok (.invokevirtual 66, 3) := by decide +kernel
theorem dX7_factor_12 : decode cX7_factor 12 = .ok (.istore_n 1, 1) := by decide +kernel
theorem dX7_factor_13 : decode cX7_factor 13 = .ok (.iload_n 1, 1) := by decide +kernel
theorem dX7_factor_14 : decode cX7_factor 14 = .ok (.bipush 40, 2) := by decide +kernel
theorem dX7_factor_16 : decode cX7_factor 16 = .ok (.if_icmp .ne 62, 3) := by decide +kernel
theorem dX7_factor_19 : decode cX7_factor 19 = .ok (.aload_n 0, 1) := by decide +kernel
theorem dX7_factor_20 : decode cX7_factor 20 = .ok (.getfield 95, 3) := by decide +kernel
theorem dX7_factor_23 : decode cX7_factor 23 = .ok (.iconst 4, 1) := by decide +kernel
theorem dX7_factor_24 : decode cX7_factor 24 = .ok (.if_icmp .ne 13, 3) := by decide +kernel
theorem dX7_factor_27 : decode cX7_factor 27 = .ok (.aload_n 0, 1) := by decide +kernel
theorem dX7_factor_28 : decode cX7_factor 28 = .ok (.bipush (-5), 2) := by decide +kernel
theorem dX7_factor_30 : decode cX7_factor 30 = .ok (.aload_n 0, 1) := by decide +kernel
theorem dX7_factor_31 : decode cX7_factor 31 = .ok (.getfield 45, 3) := by decide +kernel
theorem dX7_factor_34 : decode cX7_factor 34 = .ok (.invokevirtual 79, 3) := by decide +kernel
theorem dX7_factor_37 : decode cX7_factor 37 = .ok (.aload_n 0, 1) := by decide +kernel
theorem dX7_factor_38 : decode cX7_factor 38 = .ok (.dup, 1) := by decide +kernel
theorem dX7_factor_39 : decode cX7_factor 39 = .ok (.getfield 45, 3) := by decide +kernel
theorem dX7_factor_42 : decode cX7_factor 42 = .ok (.iconst 1, 1) := by decide +kernel
theorem dX7_factor_43 : decode cX7_factor 43 = .ok (.iadd, 1) := by decide +kernel
theorem dX7_factor_44 : decode cX7_factor 44 = .ok (.putfield 45, 3) := by decide +kernel
theorem dX7_factor_47 : decode cX7_factor 47 = .ok (.aload_n 0, 1) := by decide +kernel
theorem dX7_factor_48 : decode cX7_factor 48 = .ok (.dup, 1) := by decide +kernel
theorem dX7_factor_49 : decode cX7_factor 49 = .ok (.getfield 95, 3) := by decide +kernel
theorem dX7_factor_52 : decode cX7_factor 52 = .ok (.iconst 1, 1) := by decide +kernel
theorem dX7_factor_53 : decode cX7_factor 53 = .ok (.iadd, 1) := by decide +kernel
theorem dX7_factor_54 : decode cX7_factor 54 = .ok (.putfield 95, 3) := by decide +kernel
theorem dX7_factor_57 : decode cX7_factor 57 = .ok (.aload_n 0, 1) := by decide +kernel
theorem dX7_factor_58 : decode cX7_factor 58 = .ok (.invokevirtual 98, 3) := by decide +kernel
theorem dX7_factor_61 : decode cX7_factor 61 = .ok (.aload_n 0, 1) := by decide +kernel
theorem dX7_factor_62 : decode cX7_factor 62 = .ok (.bipush 41, 2) := by decide +kernel
theorem dX7_factor_64 : decode cX7_factor 64 = .ok (.invokevirtual 101, 3) := by decide +kernel
theorem dX7_factor_67 : decode cX7_factor 67 = .ok (.aload_n 0, 1) := by decide +kernel
theorem dX7_factor_68 : decode cX7_factor 68 = .ok (.dup, 1) := by decide +kernel
theorem dX7_factor_69 : decode cX7_factor 69 = .ok (.getfield 95, 3) := by decide +kernel
theorem dX7_factor_72 : decode cX7_factor 72 = .ok (.iconst 1, 1) := by decide +kernel
theorem dX7_factor_73 : decode cX7_factor 73 = .ok (.isub, 1) := by decide +kernel
theorem dX7_factor_74 : decode cX7_factor 74 = .ok (.putfield 95, 3) := by decide +kernel
theorem dX7_factor_77 : decode cX7_factor 77 = .ok (.return_, 1) := by decide +kernel
theorem dX7_factor_78 : decode cX7_factor 78 = .ok (.iload_n 1, 1) := by decide +kernel
theorem dX7_factor_79 : decode cX7_factor 79 = .ok (.invokestatic 83, 3) := by decide +kernel
theorem dX7_factor_82 : decode cX7_factor 82 = .ok (.ifCond .eq 7, 3) := by decide +kernel
theorem dX7_factor_85 : decode cX7_factor 85 = .ok (.iconst (-1), 1) := by decide +kernel
theorem dX7_factor_86 : decode cX7_factor 86 = .ok (.goto 30, 3) := by decide +kernel
theorem dX7_factor_89 : decode cX7_factor 89 = .ok (.aload_n 0, 1) := by decide +kernel
theorem dX7_factor_90 : decode cX7_factor 90 = .ok (.ldc 105, 2) := by decide +kernel
theorem dX7_factor_92 : decode cX7_factor 92 = .ok (.invokevirtual 107, 3) := by decide +kernel
theorem dX7_factor_95 : decode cX7_factor 95 = .ok (.ifCond .eq 7, 3) := by decide +kernel
theorem dX7_factor_98 : decode cX7_factor 98 = .ok (.iconst 0, 1) := by decide +kernel
theorem dX7_factor_99 : decode cX7_factor 99 = .ok (.goto 17, 3) := by decide +kernel
theorem dX7_factor_102 : decode cX7_factor 102 = .ok (.aload_n 0, 1) := by decide +kernel
theorem dX7_factor_103 : decode cX7_factor 103 = .ok (.ldc 111, 2) := by decide +kernel
theorem dX7_factor_105 : decode cX7_factor 105 = .ok (.invokevirtual 107, 3) := by decide +kernel
theorem dX7_factor_108 : decode cX7_factor 108 = .ok (.ifCond .eq 7, 3) := by decide +kernel
theorem dX7_factor_111 : decode cX7_factor 111 = .ok (.iconst 1, 1) := by decide +kernel
theorem dX7_factor_112 : decode cX7_factor 112 = .ok (.goto 4, 3) := by decide +kernel
theorem dX7_factor_115 : decode cX7_factor 115 = .ok (.iconst (-1), 1) := by decide +kernel
theorem dX7_factor_116 : decode cX7_factor 116 = .ok (.istore_n 2, 1) := by decide +kernel
theorem dX7_factor_117 : decode cX7_factor 117 = .ok (.iload_n 2, 1) := by decide +kernel
theorem dX7_factor_118 : decode cX7_factor 118 = .ok (.ifCond .ge 14, 3) := by decide +kernel
theorem dX7_factor_121 : decode cX7_factor 121 = .ok (.aload_n 0, 1) := by decide +kernel
theorem dX7_factor_122 : decode cX7_factor 122 = .ok (.iconst 0, 1) := by decide +kernel
theorem dX7_factor_123 : decode cX7_factor 123 = .ok (.sipush 9999, 3) := by decide +kernel
theorem dX7_factor_126 : decode cX7_factor 126 = .ok (.invokevirtual 113, 3) := by decide +kernel
theorem dX7_factor_129 : decode cX7_factor 129 = .ok (.goto 4, 3) := by decide +kernel
theorem dX7_factor_132 : decode cX7_factor 132 = .ok (.iload_n 2, 1) := by decide +kernel
theorem dX7_factor_133 : decode cX7_factor 133 = .ok (.istore_n 3, 1) := by decide +kernel
theorem dX7_factor_134 : decode cX7_factor 134 = .ok (.aload_n 0, 1) := by decide +kernel
theorem dX7_factor_135 : decode cX7_factor 135 = .ok (.iload_n 2, 1) := by decide +kernel
theorem dX7_factor_136 : decode cX7_factor 136 = .ok (.ifCond .ge 7, 3) := by decide +kernel
theorem dX7_factor_139 : decode cX7_factor 139 = .ok (.iconst 0, 1) := by decide +kernel
theorem dX7_factor_140 : decode cX7_factor 140 = .ok (.goto 4, 3) := by decide +kernel
theorem dX7_factor_143 : decode cX7_factor 143 = .ok (.iconst 1, 1) := by decide +kernel
theorem dX7_factor_144 : decode cX7_factor 144 = .ok (.invokevirtual 116, 3) := by decide +kernel
theorem dX7_factor_147 : decode cX7_factor 147 = .ok (.aload_n 0, 1) := by decide +kernel
theorem dX7_factor_148 : decode cX7_factor 148 = .ok (.iload_n 3, 1) := by decide +kernel
theorem dX7_factor_149 : decode cX7_factor 149 = .ok (.invokevirtual 116, 3) := by decide +kernel
theorem dX7_factor_152 : decode cX7_factor 152 = .ok (.return_, 1) := by decide +kernel
theorem dX7_term_0 : decode cX7_term 0 = .ok (.aload_n 0, 1) := by decide +kernel
theorem dX7_term_1 : decode cX7_term 1 = .ok (.invokevirtual 119, 3) := by decide +kernel
theorem dX7_term_4 : decode cX7_term 4 = .ok (.aload_n 0, 1) := by decide +kernel
theorem dX7_term_5 : decode cX7_term 5 = .ok (.invokevirtual 62, 3) := by decide +kernel
theorem dX7_term_8 : decode cX7_term 8 = .ok (.ifCond .eq 66, 3) := by decide +kernel
theorem dX7_term_11 : decode cX7_term 11 = .ok (.aload_n 0, 1) := by decide +kernel
theorem dX7_term_12 : decode cX7_term 12 = .ok (.invokevirtual 66, 3) := by decide +kernel
theorem dX7_term_15 : decode cX7_term 15 = .ok (.bipush 42, 2) := by decide +kernel
theorem dX7_term_17 : decode cX7_term 17 = .ok (.if_icmp .eq 12, 3) := by decide +kernel
theorem dX7_term_20 : decode cX7_term 20 = .ok (.aload_n 0, 1) := by decide +kernel
theorem dX7_term_21 : decode cX7_term 21 = .ok (.invokevirtual 66, 3) := by decide +kernel
theorem dX7_term_24 : decode cX7_term 24 = .ok (.bipush 47, 2) := by decide +kernel
theorem dX7_term_26 : decode cX7_term 26 = .ok (.if_icmp .ne 48, 3) := by decide +kernel
theorem dX7_term_29 : decode cX7_term 29 = .ok (.aload_n 0, 1) := by decide +kernel
theorem dX7_term_30 : decode cX7_term 30 = .ok (.invokevirtual 66, 3) := by decide +kernel
theorem dX7_term_33 : decode cX7_term 33 = .ok (.bipush 42, 2) := by decide +kernel
theorem dX7_term_35 : decode cX7_term 35 = .ok (.if_icmp .ne 7, 3) := by decide +kernel
theorem dX7_term_38 : decode cX7_term 38 = .ok (.iconst 1, 1) := by decide +kernel
theorem dX7_term_39 : decode cX7_term 39 = .ok (.goto 4, 3) := by decide +kernel
theorem dX7_term_42 : decode cX7_term 42 = .ok (.iconst 0, 1) := by decide +kernel
theorem dX7_term_43 : decode cX7_term 43 = .ok (.istore_n 1, 1) := by decide +kernel
theorem dX7_term_44 : decode cX7_term 44 = .ok (.aload_n 0, 1) := by decide +kernel
theorem dX7_term_45 : decode cX7_term 45 = .ok (.dup, 1) := by decide +kernel
theorem dX7_term_46 : decode cX7_term 46 = .ok (.getfield 45, 3) := by decide +kernel
theorem dX7_term_49 : decode cX7_term 49 = .ok (.iconst 1, 1) := by decide +kernel
theorem dX7_term_50 : decode cX7_term 50 = .ok (.iadd, 1) := by decide +kernel
theorem dX7_term_51 : decode cX7_term 51 = .ok (.putfield 45, 3) := by decide +kernel
theorem dX7_term_54 : decode cX7_term 54 = .ok (.aload_n 0, 1) := by decide +kernel
theorem dX7_term_55 : decode cX7_term 55 = .ok (.invokevirtual 119, 3) := by decide +kernel
theorem dX7_term_58 : decode cX7_term 58 = .ok (.aload_n 0, 1) := by decide +kernel
theorem dX7_term_59 : decode cX7_term 59 = .ok (.iload_n 1, 1) := by decide +kernel
theorem dX7_term_60 : decode cX7_term 60 = .ok (.ifCond .eq 7, 3) := by decide +kernel
theorem dX7_term_63 : decode cX7_term 63 = .ok (.iconst 4, 1) := by decide +kernel
theorem dX7_term_64 : decode cX7_term 64 = .ok (.goto 4, 3) := by decide +kernel
theorem dX7_term_67 : decode cX7_term 67 = .ok (.iconst 5, 1) := by decide +kernel
theorem dX7_term_68 : decode cX7_term 68 = .ok (.invokevirtual 116, 3) := by decide +kernel
theorem dX7_term_71 : decode cX7_term 71 = .ok (.goto (-67), 3) := by decide +kernel
theorem dX7_term_74 : decode cX7_term 74 = .ok (.return_, 1) := by decide +kernel
theorem dX7_sum_0 : decode cX7_sum 0 = .ok (.aload_n 0, 1) := by decide +kernel
theorem dX7_sum_1 : decode cX7_sum 1 = .ok (.invokevirtual 122, 3) := by decide +kernel
theorem dX7_sum_4 : decode cX7_sum 4 = .ok (.aload_n 0, 1) := by decide +kernel
theorem dX7_sum_5 : decode cX7_sum 5 = .ok (.invokevirtual 62, 3) := by decide +kernel
theorem dX7_sum_8 : decode cX7_sum 8 = .ok (.ifCond .eq 66, 3) := by decide +kernel
theorem dX7_sum_11 : decode cX7_sum 11 = .ok (.aload_n 0, 1) := by decide +kernel
theorem dX7_sum_12 : decode cX7_sum 12 = .ok (.invokevirtual 66, 3) := by decide +kernel
theorem dX7_sum_15 : decode cX7_sum 15 = .ok (.bipush 43, 2) := by decide +kernel
theorem dX7_sum_17 : decode cX7_sum 17 = .ok (.if_icmp .eq 12, 3) := by decide +kernel
theorem dX7_sum_20 : decode cX7_sum 20 = .ok (.aload_n 0, 1) := by decide +kernel
theorem dX7_sum_21 : decode cX7_sum 21 = .ok (.invokevirtual 66, 3) := by decide +kernel
theorem dX7_sum_24 : decode cX7_sum 24 = .ok (.bipush 45, 2) := by decide +kernel
theorem dX7_sum_26 : decode cX7_sum 26 = .ok (.if_icmp .ne 48, 3) := by decide +kernel
theorem dX7_sum_29 : decode cX7_sum 29 = .ok (.aload_n 0, 1) := by decide +kernel
theorem dX7_sum_30 : decode cX7_sum 30 = .ok (.invokevirtual 66, 3) := by decide +kernel
theorem dX7_sum_33 : decode cX7_sum 33 = .ok (.bipush 43, 2) := by decide +kernel
theorem dX7_sum_35 : decode cX7_sum 35 = .ok (.if_icmp .ne 7, 3) := by decide +kernel
theorem dX7_sum_38 : decode cX7_sum 38 = .ok (.iconst 1, 1) := by decide +kernel
theorem dX7_sum_39 : decode cX7_sum 39 = .ok (.goto 4, 3) := by decide +kernel
theorem dX7_sum_42 : decode cX7_sum 42 = .ok (.iconst 0, 1) := by decide +kernel
theorem dX7_sum_43 : decode cX7_sum 43 = .ok (.istore_n 1, 1) := by decide +kernel
theorem dX7_sum_44 : decode cX7_sum 44 = .ok (.aload_n 0, 1) := by decide +kernel
theorem dX7_sum_45 : decode cX7_sum 45 = .ok (.dup, 1) := by decide +kernel
theorem dX7_sum_46 : decode cX7_sum 46 = .ok (.getfield 45, 3) := by decide +kernel
theorem dX7_sum_49 : decode cX7_sum 49 = .ok (.iconst 1, 1) := by decide +kernel
theorem dX7_sum_50 : decode cX7_sum 50 = .ok (.iadd, 1) := by decide +kernel
theorem dX7_sum_51 : decode cX7_sum 51 = .ok (.putfield 45, 3) := by decide +kernel
theorem dX7_sum_54 : decode cX7_sum 54 = .ok (.aload_n 0, 1) := by decide +kernel
theorem dX7_sum_55 : decode cX7_sum 55 = .ok (.invokevirtual 122, 3) := by decide +kernel
theorem dX7_sum_58 : decode cX7_sum 58 = .ok (.aload_n 0, 1) := by decide +kernel
theorem dX7_sum_59 : decode cX7_sum 59 = .ok (.iload_n 1, 1) := by decide +kernel
theorem dX7_sum_60 : decode cX7_sum 60 = .ok (.ifCond .eq 7, 3) := by decide +kernel
theorem dX7_sum_63 : decode cX7_sum 63 = .ok (.iconst 2, 1) := by decide +kernel
theorem dX7_sum_64 : decode cX7_sum 64 = .ok (.goto 4, 3) := by decide +kernel
theorem dX7_sum_67 : decode cX7_sum 67 = .ok (.iconst 3, 1) := by decide +kernel
theorem dX7_sum_68 : decode cX7_sum 68 = .ok (.invokevirtual 116, 3) := by decide +kernel
theorem dX7_sum_71 : decode cX7_sum 71 = .ok (.goto (-67), 3) := by decide +kernel
theorem dX7_sum_74 : decode cX7_sum 74 = .ok (.return_, 1) := by decide +kernel
theorem dX7_once_0 : decode cX7_once 0 = .ok (.aload_n 0, 1) := by decide +kernel
theorem dX7_once_1 : decode cX7_once 1 = .ok (.getfield 125, 3) := by decide +kernel
theorem dX7_once_4 : decode cX7_once 4 = .ok (.iload_n 1, 1) := by decide +kernel
theorem dX7_once_5 : decode cX7_once 5 = .ok (.ishr, 1) := by decide +kernel
theorem dX7_once_6 : decode cX7_once 6 = .ok (.iconst 1, 1) := by decide +kernel
theorem dX7_once_7 : decode cX7_once 7 = .ok (.iand, 1) := by decide +kernel
theorem dX7_once_8 : decode cX7_once 8 = .ok (.iconst 1, 1) := by decide +kernel
theorem dX7_once_9 : decode cX7_once 9 = .ok (.if_icmp .ne 10, 3) := by decide +kernel
theorem dX7_once_12 : decode cX7_once 12 = .ok (.aload_n 0, 1) := by decide +kernel
theorem dX7_once_13 : decode cX7_once 13 = .ok (.bipush (-2), 2) := by decide +kernel
theorem dX7_once_15 : decode cX7_once 15 = .ok (.iload_n 2, 1) := by decide +kernel
theorem dX7_once_16 : decode cX7_once 16 = .ok (.invokevirtual 79, 3) := by decide +kernel
theorem dX7_once_19 : decode cX7_once 19 = .ok (.aload_n 0, 1) := by decide +kernel
theorem dX7_once_20 : decode cX7_once 20 = .ok (.dup, 1) := by decide +kernel
theorem dX7_once_21 : decode cX7_once 21 = .ok (.getfield 125, 3) := by decide +kernel
theorem dX7_once_24 : decode cX7_once 24 = .ok (.iconst 1, 1) := by decide +kernel
theorem dX7_once_25 : decode cX7_once 25 = .ok (.iload_n 1, 1) := by decide +kernel
theorem dX7_once_26 : decode cX7_once 26 = .ok (.ishl, 1) := by decide +kernel
theorem dX7_once_27 : decode cX7_once 27 = .ok (.ior, 1) := by decide +kernel
theorem dX7_once_28 : decode cX7_once 28 = .ok (.putfield 125, 3) := by decide +kernel
theorem dX7_once_31 : decode cX7_once 31 = .ok (.return_, 1) := by decide +kernel
theorem dX7_readRole_0 : decode cX7_readRole 0 = .ok (.aload_n 0, 1) := by decide +kernel
theorem dX7_readRole_1 : decode cX7_readRole 1 = .ok (.getfield 20, 3) := by decide +kernel
theorem dX7_readRole_4 : decode cX7_readRole 4 = .ok (.iconst 0, 1) := by decide +kernel
theorem dX7_readRole_5 : decode cX7_readRole 5 = .ok (.iaload, 1) := by decide +kernel
theorem dX7_readRole_6 : decode cX7_readRole 6 = .ok (.bipush 10, 2) := by decide +kernel
theorem dX7_readRole_8 : decode cX7_readRole 8 = .ok (.if_icmp .ne 10, 3) := by decide +kernel
theorem dX7_readRole_11 : decode cX7_readRole 11 = .ok (.aload_n 0, 1) := by decide +kernel
theorem dX7_readRole_12 : decode cX7_readRole 12 = .ok (.bipush (-4), 2) := by decide +kernel
theorem dX7_readRole_14 : decode cX7_readRole 14 = .ok (.iload_n 1, 1) := by decide +kernel
theorem dX7_readRole_15 : decode cX7_readRole 15 = .ok (.invokevirtual 79, 3) := by decide +kernel
theorem dX7_readRole_18 : decode cX7_readRole 18 = .ok (.aload_n 0, 1) := by decide +kernel
theorem dX7_readRole_19 : decode cX7_readRole 19 = .ok (.iconst 0, 1) := by decide +kernel
theorem dX7_readRole_20 : decode cX7_readRole 20 = .ok (.sipush 255, 3) := by decide +kernel
theorem dX7_readRole_23 : decode cX7_readRole 23 = .ok (.invokevirtual 113, 3) := by decide +kernel
theorem dX7_readRole_26 : decode cX7_readRole 26 = .ok (.istore_n 2, 1) := by decide +kernel
theorem dX7_readRole_27 : decode cX7_readRole 27 = .ok (.aload_n 0, 1) := by decide +kernel
theorem dX7_readRole_28 : decode cX7_readRole 28 = .ok (.iconst 0, 1) := by decide +kernel
theorem dX7_readRole_29 : decode cX7_readRole 29 = .ok (.sipush 255, 3) := by decide +kernel
theorem dX7_readRole_32 : decode cX7_readRole 32 = .ok (.invokevirtual 113, 3) := by decide +kernel
theorem dX7_readRole_35 : decode cX7_readRole 35 = .ok (.istore_n 3, 1) := by decide +kernel
theorem dX7_readRole_36 : decode cX7_readRole 36 = .ok (.aload_n 0, 1) := by decide +kernel
theorem dX7_readRole_37 : decode cX7_readRole 37 = .ok (.iconst 0, 1) := by decide +kernel
theorem dX7_readRole_38 : decode cX7_readRole 38 = .ok (.sipush 255, 3) := by decide +kernel
theorem dX7_readRole_41 : decode cX7_readRole 41 = .ok (.invokevirtual 113, 3) := by decide +kernel
theorem dX7_readRole_44 : decode cX7_readRole 44 = .ok (.istore 4, 2) := by decide +kernel
theorem dX7_readRole_46 : decode cX7_readRole 46 = .ok (.sipush 255, 3) := by decide +kernel
theorem dX7_readRole_49 : decode cX7_readRole 49 = .ok (.iload_n 2, 1) := by decide +kernel
theorem dX7_readRole_50 : decode cX7_readRole 50 = .ok (.isub, 1) := by decide +kernel
theorem dX7_readRole_51 : decode cX7_readRole 51 = .ok (.sipush 255, 3) := by decide +kernel
theorem dX7_readRole_54 : decode cX7_readRole 54 = .ok (.iload_n 3, 1) := by decide +kernel
theorem dX7_readRole_55 : decode cX7_readRole 55 = .ok (.isub, 1) := by decide +kernel
theorem dX7_readRole_56 : decode cX7_readRole 56 = .ok (.sipush 255, 3) := by decide +kernel
theorem dX7_readRole_59 : decode cX7_readRole 59 = .ok (.iload 4, 2) := by decide +kernel
theorem dX7_readRole_61 : decode cX7_readRole 61 = .ok (.isub, 1) := by decide +kernel
theorem dX7_readRole_62 : decode cX7_readRole 62 = .ok (.invokestatic 128, 3) := by decide +kernel
theorem dX7_readRole_65 : decode cX7_readRole 65 = .ok (.istore 5, 2) := by decide +kernel
theorem dX7_readRole_67 : decode cX7_readRole 67 = .ok (.aload_n 0, 1) := by decide +kernel
theorem dX7_readRole_68 : decode cX7_readRole 68 = .ok (.ldc 132, 2) := by decide +kernel
theorem dX7_readRole_70 : decode cX7_readRole 70 = .ok (.invokevirtual 107, 3) := by decide +kernel
theorem dX7_readRole_73 : decode cX7_readRole 73 = .ok (.ifCond .eq 40, 3) := by decide +kernel
theorem dX7_readRole_76 : decode cX7_readRole 76 = .ok (.aload_n 0, 1) := by decide +kernel
theorem dX7_readRole_77 : decode cX7_readRole 77 = .ok (.iconst 0, 1) := by decide +kernel
theorem dX7_readRole_78 : decode cX7_readRole 78 = .ok (.sipush 255, 3) := by decide +kernel
theorem dX7_readRole_81 : decode cX7_readRole 81 = .ok (.invokevirtual 113, 3) := by decide +kernel
theorem dX7_readRole_84 : decode cX7_readRole 84 = .ok (.istore 6, 2) := by decide +kernel
theorem dX7_readRole_86 : decode cX7_readRole 86 = .ok (.aload_n 0, 1) := by decide +kernel
theorem dX7_readRole_87 : decode cX7_readRole 87 = .ok (.iconst 0, 1) := by decide +kernel
theorem dX7_readRole_88 : decode cX7_readRole 88 = .ok (.sipush 255, 3) := by decide +kernel
theorem dX7_readRole_91 : decode cX7_readRole 91 = .ok (.invokevirtual 113, 3) := by decide +kernel
theorem dX7_readRole_94 : decode cX7_readRole 94 = .ok (.istore 7, 2) := by decide +kernel
theorem dX7_readRole_96 : decode cX7_readRole 96 = .ok (.iload 6, 2) := by decide +kernel
theorem dX7_readRole_98 : decode cX7_readRole 98 = .ok (.iload 7, 2) := by decide +kernel
theorem dX7_readRole_100 : decode cX7_readRole 100 = .ok (.aload_n 0, 1) := by decide +kernel
theorem dX7_readRole_101 : decode cX7_readRole 101 = .ok (.iconst 0, 1) := by decide +kernel
theorem dX7_readRole_102 : decode cX7_readRole 102 = .ok (.sipush 255, 3) := by decide +kernel
theorem dX7_readRole_105 : decode cX7_readRole 105 = .ok (.invokevirtual 113, 3) := by decide +kernel
theorem dX7_readRole_108 : decode cX7_readRole 108 = .ok (.invokestatic 128, 3) := by decide +kernel
theorem dX7_readRole_111 : decode cX7_readRole 111 = .ok (.istore 5, 2) := by decide +kernel
theorem dX7_readRole_113 : decode cX7_readRole 113 = .ok (.aload_n 0, 1) := by decide +kernel
theorem dX7_readRole_114 : decode cX7_readRole 114 = .ok (.ldc 134, 2) := by decide +kernel
theorem dX7_readRole_116 : decode cX7_readRole 116 = .ok (.invokevirtual 107, 3) := by decide +kernel
theorem dX7_readRole_119 : decode cX7_readRole 119 = .ok (.istore 6, 2) := by decide +kernel
theorem dX7_readRole_121 : decode cX7_readRole 121 = .ok (.aload_n 0, 1) := by decide +kernel
theorem dX7_readRole_122 : decode cX7_readRole 122 = .ok (.invokevirtual 62, 3) := by decide +kernel
theorem dX7_readRole_125 : decode cX7_readRole 125 = .ok (.ifCond .ne 4, 3) := by decide +kernel
theorem dX7_readRole_128 : decode cX7_readRole 128 = .ok (.return_, 1) := by decide +kernel
theorem dX7_readRole_129 : decode cX7_readRole 129 = .ok (.aload_n 0, 1) := by decide +kernel
theorem dX7_readRole_130 : decode cX7_readRole 130 = .ok (.getfield 20, 3) := by decide +kernel
theorem dX7_readRole_133 : decode cX7_readRole 133 = .ok (.iconst 0, 1) := by decide +kernel
theorem dX7_readRole_134 : decode cX7_readRole 134 = .ok (.iaload, 1) := by decide +kernel
theorem dX7_readRole_135 : decode cX7_readRole 135 = .ok (.invokestatic 136, 3) := by decide +kernel
theorem dX7_readRole_138 : decode cX7_readRole 138 = .ok (.istore 7, 2) := by decide +kernel
theorem dX7_readRole_140 : decode cX7_readRole 140 = .ok (.aload_n 0, 1) := by decide +kernel
theorem dX7_readRole_141 : decode cX7_readRole 141 = .ok (.getfield 20, 3) := by decide +kernel
theorem dX7_readRole_144 : decode cX7_readRole 144 = .ok (.iload 7, 2) := by decide +kernel
theorem dX7_readRole_146 : decode cX7_readRole 146 = .ok (.iload_n 2, 1) := by decide +kernel
theorem dX7_readRole_147 : decode cX7_readRole 147 = .ok (.iload_n 3, 1) := by decide +kernel
theorem dX7_readRole_148 : decode cX7_readRole 148 = .ok (.iload 4, 2) := by decide +kernel
theorem dX7_readRole_150 : decode cX7_readRole 150 = .ok (.invokestatic 128, 3) := by decide +kernel
theorem dX7_readRole_153 : decode cX7_readRole 153 = .ok (.iastore, 1) := by decide +kernel
theorem dX7_readRole_154 : decode cX7_readRole 154 = .ok (.aload_n 0, 1) := by decide +kernel
theorem dX7_readRole_155 : decode cX7_readRole 155 = .ok (.getfield 20, 3) := by decide +kernel
theorem dX7_readRole_158 : decode cX7_readRole 158 = .ok (.iload 7, 2) := by decide +kernel
theorem dX7_readRole_160 : decode cX7_readRole 160 = .ok (.iconst 1, 1) := by decide +kernel
theorem dX7_readRole_161 : decode cX7_readRole 161 = .ok (.iadd, 1) := by decide +kernel
theorem dX7_readRole_162 : decode cX7_readRole 162 = .ok (.iload 5, 2) := by decide +kernel
theorem dX7_readRole_164 : decode cX7_readRole 164 = .ok (.iastore, 1) := by decide +kernel
theorem dX7_readRole_165 : decode cX7_readRole 165 = .ok (.aload_n 0, 1) := by decide +kernel
theorem dX7_readRole_166 : decode cX7_readRole 166 = .ok (.getfield 20, 3) := by decide +kernel
theorem dX7_readRole_169 : decode cX7_readRole 169 = .ok (.iload 7, 2) := by decide +kernel
theorem dX7_readRole_171 : decode cX7_readRole 171 = .ok (.iconst 2, 1) := by decide +kernel
theorem dX7_readRole_172 : decode cX7_readRole 172 = .ok (.iadd, 1) := by decide +kernel
theorem dX7_readRole_173 : decode cX7_readRole 173 = .ok (.iload 6, 2) := by decide +kernel
theorem dX7_readRole_175 : decode cX7_readRole 175 = .ok (.ifCond .eq 7, 3) := by decide +kernel
theorem dX7_readRole_178 : decode cX7_readRole 178 = .ok (.iconst 1, 1) := by decide +kernel
theorem dX7_readRole_179 : decode cX7_readRole 179 = .ok (.goto 4, 3) := by decide +kernel
theorem dX7_readRole_182 : decode cX7_readRole 182 = .ok (.iconst 0, 1) := by decide +kernel
theorem dX7_readRole_183 : decode cX7_readRole 183 = .ok (.iastore, 1) := by decide +kernel
theorem dX7_readRole_184 : decode cX7_readRole 184 = .ok (.aload_n 0, 1) := by decide +kernel
theorem dX7_readRole_185 : decode cX7_readRole 185 = .ok (.getfield 20, 3) := by decide +kernel
theorem dX7_readRole_188 : decode cX7_readRole 188 = .ok (.iconst 0, 1) := by decide +kernel
theorem dX7_readRole_189 : decode cX7_readRole 189 = .ok (.dup2, 1) := by decide +kernel
theorem dX7_readRole_190 : decode cX7_readRole 190 = .ok (.iaload, 1) := by decide +kernel
theorem dX7_readRole_191 : decode cX7_readRole 191 = .ok (.iconst 1, 1) := by decide +kernel
theorem dX7_readRole_192 : decode cX7_readRole 192 = .ok (.iadd, 1) := by decide +kernel
theorem dX7_readRole_193 : decode cX7_readRole 193 = .ok (.iastore, 1) := by decide +kernel
theorem dX7_readRole_194 : decode cX7_readRole 194 = .ok (.return_, 1) := by decide +kernel
theorem dX7_readRule_0 : decode cX7_readRule 0 = .ok (.aload_n 0, 1) := by decide +kernel
theorem dX7_readRule_1 : decode cX7_readRule 1 = .ok (.getfield 20, 3) := by decide +kernel
theorem dX7_readRule_4 : decode cX7_readRule 4 = .ok (.iconst 1, 1) := by decide +kernel
theorem dX7_readRule_5 : decode cX7_readRule 5 = .ok (.iaload, 1) := by decide +kernel
theorem dX7_readRule_6 : decode cX7_readRule 6 = .ok (.bipush 12, 2) := by decide +kernel
theorem dX7_readRule_8 : decode cX7_readRule 8 = .ok (.if_icmp .ne 10, 3) := by decide +kernel
theorem dX7_readRule_11 : decode cX7_readRule 11 = .ok (.aload_n 0, 1) := by decide +kernel
theorem dX7_readRule_12 : decode cX7_readRule 12 = .ok (.bipush (-4), 2) := by decide +kernel
theorem dX7_readRule_14 : decode cX7_readRule 14 = .ok (.iload_n 1, 1) := by decide +kernel
theorem dX7_readRule_15 : decode cX7_readRule 15 = .ok (.invokevirtual 79, 3) := by decide +kernel
theorem dX7_readRule_18 : decode cX7_readRule 18 = .ok (.aload_n 0, 1) := by decide +kernel
theorem dX7_readRule_19 : decode cX7_readRule 19 = .ok (.iconst 0, 1) := by decide +kernel
theorem dX7_readRule_20 : decode cX7_readRule 20 = .ok (.aload_n 0, 1) := by decide +kernel
theorem dX7_readRule_21 : decode cX7_readRule 21 = .ok (.getfield 20, 3) := by decide +kernel
theorem dX7_readRule_24 : decode cX7_readRule 24 = .ok (.iconst 0, 1) := by decide +kernel
theorem dX7_readRule_25 : decode cX7_readRule 25 = .ok (.iaload, 1) := by decide +kernel
theorem dX7_readRule_26 : decode cX7_readRule 26 = .ok (.iconst 1, 1) := by decide +kernel
theorem dX7_readRule_27 : decode cX7_readRule 27 = .ok (.isub, 1) := by decide +kernel
theorem dX7_readRule_28 : decode cX7_readRule 28 = .ok (.invokevirtual 113, 3) := by decide +kernel
theorem dX7_readRule_31 : decode cX7_readRule 31 = .ok (.istore_n 3, 1) := by decide +kernel
theorem dX7_readRule_32 : decode cX7_readRule 32 = .ok (.aload_n 0, 1) := by decide +kernel
theorem dX7_readRule_33 : decode cX7_readRule 33 = .ok (.iconst 0, 1) := by decide +kernel
theorem dX7_readRule_34 : decode cX7_readRule 34 = .ok (.aload_n 0, 1) := by decide +kernel
theorem dX7_readRule_35 : decode cX7_readRule 35 = .ok (.getfield 20, 3) := by decide +kernel
theorem dX7_readRule_38 : decode cX7_readRule 38 = .ok (.iconst 0, 1) := by decide +kernel
theorem dX7_readRule_39 : decode cX7_readRule 39 = .ok (.iaload, 1) := by decide +kernel
theorem dX7_readRule_40 : decode cX7_readRule 40 = .ok (.iconst 1, 1) := by decide +kernel
theorem dX7_readRule_41 : decode cX7_readRule 41 = .ok (.isub, 1) := by decide +kernel
theorem dX7_readRule_42 : decode cX7_readRule 42 = .ok (.invokevirtual 113, 3) := by decide +kernel
theorem dX7_readRule_45 : decode cX7_readRule 45 = .ok (.istore 4, 2) := by decide +kernel
theorem dX7_readRule_47 : decode cX7_readRule 47 = .ok (.iload_n 3, 1) := by decide +kernel
theorem dX7_readRule_48 : decode cX7_readRule 48 = .ok (.iload 4, 2) := by decide +kernel
theorem dX7_readRule_50 : decode cX7_readRule 50 = .ok (.if_icmp .ne 13, 3) := by decide +kernel
theorem dX7_readRule_53 : decode cX7_readRule 53 = .ok (.aload_n 0, 1) := by decide +kernel
theorem dX7_readRule_54 : decode cX7_readRule 54 = .ok (.bipush (-3), 2) := by decide +kernel
theorem dX7_readRule_56 : decode cX7_readRule 56 = .ok (.aload_n 0, 1) := by decide +kernel
theorem dX7_readRule_57 : decode cX7_readRule 57 = .ok (.getfield 87, 3) := by decide +kernel
theorem dX7_readRule_60 : decode cX7_readRule 60 = .ok (.invokevirtual 79, 3) := by decide +kernel
theorem dX7_readRule_63 : decode cX7_readRule 63 = .ok (.iload_n 2, 1) := by decide +kernel
theorem dX7_readRule_64 : decode cX7_readRule 64 = .ok (.ifCond .eq 7, 3) := by decide +kernel
theorem dX7_readRule_67 : decode cX7_readRule 67 = .ok (.iconst (-1), 1) := by decide +kernel
theorem dX7_readRule_68 : decode cX7_readRule 68 = .ok (.goto 9, 3) := by decide +kernel
theorem dX7_readRule_71 : decode cX7_readRule 71 = .ok (.aload_n 0, 1) := by decide +kernel
theorem dX7_readRule_72 : decode cX7_readRule 72 = .ok (.iconst 0, 1) := by decide +kernel
theorem dX7_readRule_73 : decode cX7_readRule 73 = .ok (.iconst 4, 1) := by decide +kernel
theorem dX7_readRule_74 : decode cX7_readRule 74 = .ok (.invokevirtual 113, 3) := by decide +kernel
theorem dX7_readRule_77 : decode cX7_readRule 77 = .ok (.istore 5, 2) := by decide +kernel
theorem dX7_readRule_79 : decode cX7_readRule 79 = .ok (.iload_n 2, 1) := by decide +kernel
theorem dX7_readRule_80 : decode cX7_readRule 80 = .ok (.ifCond .eq 13, 3) := by decide +kernel
theorem dX7_readRule_83 : decode cX7_readRule 83 = .ok (.aload_n 0, 1) := by decide +kernel
theorem dX7_readRule_84 : decode cX7_readRule 84 = .ok (.iconst 1, 1) := by decide +kernel
theorem dX7_readRule_85 : decode cX7_readRule 85 = .ok (.bipush 9, 2) := by decide +kernel
theorem dX7_readRule_87 : decode cX7_readRule 87 = .ok (.invokevirtual 113, 3) := by decide +kernel
theorem dX7_readRule_90 : decode cX7_readRule 90 = .ok (.goto 11, 3) := by decide +kernel
theorem dX7_readRule_93 : decode cX7_readRule 93 = .ok (.aload_n 0, 1) := by decide +kernel
theorem dX7_readRule_94 : decode cX7_readRule 94 = .ok (.iconst 1, 1) := by decide +kernel
theorem dX7_readRule_95 : decode cX7_readRule 95 = .ok (.sipush 2295, 3) := by decide +kernel
theorem dX7_readRule_98 : decode cX7_readRule 98 = .ok (.invokevirtual 113, 3) := by decide +kernel
theorem dX7_readRule_101 : decode cX7_readRule 101 = .ok (.istore 6, 2) := by decide +kernel
theorem dX7_readRule_103 : decode cX7_readRule 103 = .ok (.aload_n 0, 1) := by decide +kernel
theorem dX7_readRule_104 : decode cX7_readRule 104 = .ok (.invokevirtual 62, 3) := by decide +kernel
theorem dX7_readRule_107 : decode cX7_readRule 107 = .ok (.ifCond .ne 4, 3) := by decide +kernel
theorem dX7_readRule_110 : decode cX7_readRule 110 = .ok (.return_, 1) := by decide +kernel
theorem dX7_readRule_111 : decode cX7_readRule 111 = .ok (.aload_n 0, 1) := by decide +kernel
theorem dX7_readRule_112 : decode cX7_readRule 112 = .ok (.getfield 20, 3) := by decide +kernel
theorem dX7_readRule_115 : decode cX7_readRule 115 = .ok (.iconst 1, 1) := by decide +kernel
theorem dX7_readRule_116 : decode cX7_readRule 116 = .ok (.iaload, 1) := by decide +kernel
theorem dX7_readRule_117 : decode cX7_readRule 117 = .ok (.invokestatic 139, 3) := by decide +kernel
theorem dX7_readRule_120 : decode cX7_readRule 120 = .ok (.istore 7, 2) := by decide +kernel
theorem dX7_readRule_122 : decode cX7_readRule 122 = .ok (.aload_n 0, 1) := by decide +kernel
theorem dX7_readRule_123 : decode cX7_readRule 123 = .ok (.getfield 20, 3) := by decide +kernel
theorem dX7_readRule_126 : decode cX7_readRule 126 = .ok (.iload 7, 2) := by decide +kernel
theorem dX7_readRule_128 : decode cX7_readRule 128 = .ok (.iload 5, 2) := by decide +kernel
theorem dX7_readRule_130 : decode cX7_readRule 130 = .ok (.iconst 1, 1) := by decide +kernel
theorem dX7_readRule_131 : decode cX7_readRule 131 = .ok (.iadd, 1) := by decide +kernel
theorem dX7_readRule_132 : decode cX7_readRule 132 = .ok (.iastore, 1) := by decide +kernel
theorem dX7_readRule_133 : decode cX7_readRule 133 = .ok (.aload_n 0, 1) := by decide +kernel
theorem dX7_readRule_134 : decode cX7_readRule 134 = .ok (.getfield 20, 3) := by decide +kernel
theorem dX7_readRule_137 : decode cX7_readRule 137 = .ok (.iload 7, 2) := by decide +kernel
theorem dX7_readRule_139 : decode cX7_readRule 139 = .ok (.iconst 1, 1) := by decide +kernel
theorem dX7_readRule_140 : decode cX7_readRule 140 = .ok (.iadd, 1) := by decide +kernel
theorem dX7_readRule_141 : decode cX7_readRule 141 = .ok (.iload_n 3, 1) := by decide +kernel
theorem dX7_readRule_142 : decode cX7_readRule 142 = .ok (.iastore, 1) := by decide +kernel
theorem dX7_readRule_143 : decode cX7_readRule 143 = .ok (.aload_n 0, 1) := by decide +kernel
theorem dX7_readRule_144 : decode cX7_readRule 144 = .ok (.getfield 20, 3) := by decide +kernel
theorem dX7_readRule_147 : decode cX7_readRule 147 = .ok (.iload 7, 2) := by decide +kernel
theorem dX7_readRule_149 : decode cX7_readRule 149 = .ok (.iconst 2, 1) := by decide +kernel
theorem dX7_readRule_150 : decode cX7_readRule 150 = .ok (.iadd, 1) := by decide +kernel
theorem dX7_readRule_151 : decode cX7_readRule 151 = .ok (.iload 4, 2) := by decide +kernel
theorem dX7_readRule_153 : decode cX7_readRule 153 = .ok (.iastore, 1) := by decide +kernel
theorem dX7_readRule_154 : decode cX7_readRule 154 = .ok (.aload_n 0, 1) := by decide +kernel
theorem dX7_readRule_155 : decode cX7_readRule 155 = .ok (.getfield 20, 3) := by decide +kernel
theorem dX7_readRule_158 : decode cX7_readRule 158 = .ok (.iload 7, 2) := by decide +kernel
theorem dX7_readRule_160 : decode cX7_readRule 160 = .ok (.iconst 3, 1) := by decide +kernel
theorem dX7_readRule_161 : decode cX7_readRule 161 = .ok (.iadd, 1) := by decide +kernel
theorem dX7_readRule_162 : decode cX7_readRule 162 = .ok (.iload 6, 2) := by decide +kernel
theorem dX7_readRule_164 : decode cX7_readRule 164 = .ok (.iastore, 1) := by decide +kernel
theorem dX7_readRule_165 : decode cX7_readRule 165 = .ok (.aload_n 0, 1) := by decide +kernel
theorem dX7_readRule_166 : decode cX7_readRule 166 = .ok (.getfield 20, 3) := by decide +kernel
theorem dX7_readRule_169 : decode cX7_readRule 169 = .ok (.iconst 1, 1) := by decide +kernel
theorem dX7_readRule_170 : decode cX7_readRule 170 = .ok (.dup2, 1) := by decide +kernel
theorem dX7_readRule_171 : decode cX7_readRule 171 = .ok (.iaload, 1) := by decide +kernel
theorem dX7_readRule_172 : decode cX7_readRule 172 = .ok (.iconst 1, 1) := by decide +kernel
theorem dX7_readRule_173 : decode cX7_readRule 173 = .ok (.iadd, 1) := by decide +kernel
theorem dX7_readRule_174 : decode cX7_readRule 174 = .ok (.iastore, 1) := by decide +kernel
theorem dX7_readRule_175 : decode cX7_readRule 175 = .ok (.return_, 1) := by decide +kernel
theorem dX7_statement_0 : decode cX7_statement 0 = .ok (.aload_n 0, 1) := by decide +kernel
theorem dX7_statement_1 : decode cX7_statement 1 = .ok (.invokevirtual 66, 3) := by decide +kernel
theorem dX7_statement_4 : decode cX7_statement 4 = .ok (.pop, 1) := by decide +kernel
theorem dX7_statement_5 : decode cX7_statement 5 = .ok (.aload_n 0, 1) := by decide +kernel
theorem dX7_statement_6 : decode cX7_statement 6 = .ok (.getfield 45, 3) := by decide +kernel
theorem dX7_statement_9 : decode cX7_statement 9 = .ok (.istore_n 1, 1) := by decide +kernel
theorem dX7_statement_10 : decode cX7_statement 10 = .ok (.aload_n 0, 1) := by decide +kernel
theorem dX7_statement_11 : decode cX7_statement 11 = .ok (.ldc 142, 2) := by decide +kernel
theorem dX7_statement_13 : decode cX7_statement 13 = .ok (.invokevirtual 107, 3) := by decide +kernel
theorem dX7_statement_16 : decode cX7_statement 16 = .ok (.ifCond .eq 11, 3) := by decide +kernel
theorem dX7_statement_19 : decode cX7_statement 19 = .ok (.aload_n 0, 1) := by decide +kernel
theorem dX7_statement_20 : decode cX7_statement 20 = .ok (.iload_n 1, 1) := by decide +kernel
theorem dX7_statement_21 : decode cX7_statement 21 = .ok (.invokevirtual 143, 3) := by decide +kernel
theorem dX7_statement_24 : decode cX7_statement 24 = .ok (.goto 75, 3) := by decide +kernel
theorem dX7_statement_27 : decode cX7_statement 27 = .ok (.aload_n 0, 1) := by decide +kernel
theorem dX7_statement_28 : decode cX7_statement 28 = .ok (.ldc 146, 2) := by decide +kernel
theorem dX7_statement_30 : decode cX7_statement 30 = .ok (.invokevirtual 107, 3) := by decide +kernel
theorem dX7_statement_33 : decode cX7_statement 33 = .ok (.ifCond .eq 12, 3) := by decide +kernel
theorem dX7_statement_36 : decode cX7_statement 36 = .ok (.aload_n 0, 1) := by decide +kernel
theorem dX7_statement_37 : decode cX7_statement 37 = .ok (.iload_n 1, 1) := by decide +kernel
theorem dX7_statement_38 : decode cX7_statement 38 = .ok (.iconst 1, 1) := by decide +kernel
theorem dX7_statement_39 : decode cX7_statement 39 = .ok (.invokevirtual 148, 3) := by decide +kernel
theorem dX7_statement_42 : decode cX7_statement 42 = .ok (.goto 57, 3) := by decide +kernel
theorem dX7_statement_45 : decode cX7_statement 45 = .ok (.aload_n 0, 1) := by decide +kernel
theorem dX7_statement_46 : decode cX7_statement 46 = .ok (.ldc 152, 2) := by decide +kernel
theorem dX7_statement_48 : decode cX7_statement 48 = .ok (.invokevirtual 107, 3) := by decide +kernel
theorem dX7_statement_51 : decode cX7_statement 51 = .ok (.ifCond .eq 12, 3) := by decide +kernel
theorem dX7_statement_54 : decode cX7_statement 54 = .ok (.aload_n 0, 1) := by decide +kernel
theorem dX7_statement_55 : decode cX7_statement 55 = .ok (.iload_n 1, 1) := by decide +kernel
theorem dX7_statement_56 : decode cX7_statement 56 = .ok (.iconst 0, 1) := by decide +kernel
theorem dX7_statement_57 : decode cX7_statement 57 = .ok (.invokevirtual 148, 3) := by decide +kernel
theorem dX7_statement_60 : decode cX7_statement 60 = .ok (.goto 39, 3) := by decide +kernel
theorem dX7_statement_63 : decode cX7_statement 63 = .ok (.aload_n 0, 1) := by decide +kernel
theorem dX7_statement_64 : decode cX7_statement 64 = .ok (.ldc 154, 2) := by decide +kernel
theorem dX7_statement_66 : decode cX7_statement 66 = .ok (.invokevirtual 107, 3) := by decide +kernel
theorem dX7_statement_69 : decode cX7_statement 69 = .ok (.ifCond .eq 23, 3) := by decide +kernel
theorem dX7_statement_72 : decode cX7_statement 72 = .ok (.aload_n 0, 1) := by decide +kernel
theorem dX7_statement_73 : decode cX7_statement 73 = .ok (.iconst 0, 1) := by decide +kernel
theorem dX7_statement_74 : decode cX7_statement 74 = .ok (.iload_n 1, 1) := by decide +kernel
theorem dX7_statement_75 : decode cX7_statement 75 = .ok (.invokevirtual 156, 3) := by decide +kernel
theorem dX7_statement_78 : decode cX7_statement 78 = .ok (.aload_n 0, 1) := by decide +kernel
theorem dX7_statement_79 : decode cX7_statement 79 = .ok (.getfield 20, 3) := by decide +kernel
theorem dX7_statement_82 : decode cX7_statement 82 = .ok (.iconst 2, 1) := by decide +kernel
theorem dX7_statement_83 : decode cX7_statement 83 = .ok (.iconst 1, 1) := by decide +kernel
theorem dX7_statement_84 : decode cX7_statement 84 = .ok (.iastore, 1) := by decide +kernel
theorem dX7_statement_85 : decode cX7_statement 85 = .ok (.aload_n 0, 1) := by decide +kernel
theorem dX7_statement_86 : decode cX7_statement 86 = .ok (.invokevirtual 98, 3) := by decide +kernel
theorem dX7_statement_89 : decode cX7_statement 89 = .ok (.goto 10, 3) := by decide +kernel
theorem dX7_statement_92 : decode cX7_statement 92 = .ok (.aload_n 0, 1) := by decide +kernel
theorem dX7_statement_93 : decode cX7_statement 93 = .ok (.bipush (-2), 2) := by decide +kernel
theorem dX7_statement_95 : decode cX7_statement 95 = .ok (.iload_n 1, 1) := by decide +kernel
theorem dX7_statement_96 : decode cX7_statement 96 = .ok (.invokevirtual 79, 3) := by decide +kernel
theorem dX7_statement_99 : decode cX7_statement 99 = .ok (.aload_n 0, 1) := by decide +kernel
theorem dX7_statement_100 : decode cX7_statement 100 = .ok (.bipush 59, 2) := by decide +kernel
theorem dX7_statement_102 : decode cX7_statement 102 = .ok (.invokevirtual 101, 3) := by decide +kernel
theorem dX7_statement_105 : decode cX7_statement 105 = .ok (.return_, 1) := by decide +kernel
theorem dX7_load_0 : decode cX7_load 0 = .ok (.aload_n 0, 1) := by decide +kernel
theorem dX7_load_1 : decode cX7_load 1 = .ok (.iconst 0, 1) := by decide +kernel
theorem dX7_load_2 : decode cX7_load 2 = .ok (.putfield 35, 3) := by decide +kernel
theorem dX7_load_5 : decode cX7_load 5 = .ok (.aload_n 0, 1) := by decide +kernel
theorem dX7_load_6 : decode cX7_load 6 = .ok (.iload_n 1, 1) := by decide +kernel
theorem dX7_load_7 : decode cX7_load 7 = .ok (.iconst 0, 1) := by decide +kernel
theorem dX7_load_8 : decode cX7_load 8 = .ok (.aload_n 0, 1) := by decide +kernel
theorem dX7_load_9 : decode cX7_load 9 = .ok (.getfield 39, 3) := by decide +kernel
theorem dX7_load_12 : decode cX7_load 12 = .ok (.invokestatic 58, 3) := by decide +kernel
theorem dX7_load_15 : decode cX7_load 15 = .ok (.ifCond .ne 7, 3) := by decide +kernel
theorem dX7_load_18 : decode cX7_load 18 = .ok (.iconst 1, 1) := by decide +kernel
theorem dX7_load_19 : decode cX7_load 19 = .ok (.goto 4, 3) := by decide +kernel
theorem dX7_load_22 : decode cX7_load 22 = .ok (.iconst 0, 1) := by decide +kernel
theorem dX7_load_23 : decode cX7_load 23 = .ok (.iconst 1, 1) := by decide +kernel
theorem dX7_load_24 : decode cX7_load 24 = .ok (.invokevirtual 159, 3) := by decide +kernel
theorem dX7_load_27 : decode cX7_load 27 = .ok (.ifCond .eq 5, 3) := by decide +kernel
theorem dX7_load_30 : decode cX7_load 30 = .ok (.iconst 0, 1) := by decide +kernel
theorem dX7_load_31 : decode cX7_load 31 = .ok (.ireturn, 1) := by decide +kernel
theorem dX7_load_32 : decode cX7_load 32 = .ok (.aload_n 0, 1) := by decide +kernel
theorem dX7_load_33 : decode cX7_load 33 = .ok (.iconst 0, 1) := by decide +kernel
theorem dX7_load_34 : decode cX7_load 34 = .ok (.putfield 39, 3) := by decide +kernel
theorem dX7_load_37 : decode cX7_load 37 = .ok (.aload_n 0, 1) := by decide +kernel
theorem dX7_load_38 : decode cX7_load 38 = .ok (.iload_n 1, 1) := by decide +kernel
theorem dX7_load_39 : decode cX7_load 39 = .ok (.putfield 42, 3) := by decide +kernel
theorem dX7_load_42 : decode cX7_load 42 = .ok (.aload_n 0, 1) := by decide +kernel
theorem dX7_load_43 : decode cX7_load 43 = .ok (.iconst 0, 1) := by decide +kernel
theorem dX7_load_44 : decode cX7_load 44 = .ok (.putfield 45, 3) := by decide +kernel
theorem dX7_load_47 : decode cX7_load 47 = .ok (.aload_n 0, 1) := by decide +kernel
theorem dX7_load_48 : decode cX7_load 48 = .ok (.iconst 0, 1) := by decide +kernel
theorem dX7_load_49 : decode cX7_load 49 = .ok (.putfield 52, 3) := by decide +kernel
theorem dX7_load_52 : decode cX7_load 52 = .ok (.aload_n 0, 1) := by decide +kernel
theorem dX7_load_53 : decode cX7_load 53 = .ok (.iconst (-1), 1) := by decide +kernel
theorem dX7_load_54 : decode cX7_load 54 = .ok (.putfield 55, 3) := by decide +kernel
theorem dX7_load_57 : decode cX7_load 57 = .ok (.aload_n 0, 1) := by decide +kernel
theorem dX7_load_58 : decode cX7_load 58 = .ok (.iconst 0, 1) := by decide +kernel
theorem dX7_load_59 : decode cX7_load 59 = .ok (.putfield 95, 3) := by decide +kernel
theorem dX7_load_62 : decode cX7_load 62 = .ok (.aload_n 0, 1) := by decide +kernel
theorem dX7_load_63 : decode cX7_load 63 = .ok (.iconst 0, 1) := by decide +kernel
theorem dX7_load_64 : decode cX7_load 64 = .ok (.putfield 125, 3) := by decide +kernel
theorem dX7_load_67 : decode cX7_load 67 = .ok (.iconst 0, 1) := by decide +kernel
theorem dX7_load_68 : decode cX7_load 68 = .ok (.istore_n 2, 1) := by decide +kernel
theorem dX7_load_69 : decode cX7_load 69 = .ok (.iload_n 2, 1) := by decide +kernel
theorem dX7_load_70 : decode cX7_load 70 = .ok (.sipush 1282, 3) := by decide +kernel
theorem dX7_load_73 : decode cX7_load 73 = .ok (.if_icmp .ge 16, 3) := by decide +kernel
theorem dX7_load_76 : decode cX7_load 76 = .ok (.aload_n 0, 1) := by decide +kernel
theorem dX7_load_77 : decode cX7_load 77 = .ok (.getfield 20, 3) := by decide +kernel
theorem dX7_load_80 : decode cX7_load 80 = .ok (.iload_n 2, 1) := by decide +kernel
theorem dX7_load_81 : decode cX7_load 81 = .ok (.iconst 0, 1) := by decide +kernel
theorem dX7_load_82 : decode cX7_load 82 = .ok (.iastore, 1) := by decide +kernel
theorem dX7_load_83 : decode cX7_load 83 = .ok (.iinc 2 1, 3) := by decide +kernel
theorem dX7_load_86 : decode cX7_load 86 = .ok (.goto (-17), 3) := by decide +kernel
theorem dX7_load_89 : decode cX7_load 89 = .ok (.aload_n 0, 1) := by decide +kernel
theorem dX7_load_90 : decode cX7_load 90 = .ok (.ldc 111, 2) := by decide +kernel
theorem dX7_load_92 : decode cX7_load 92 = .ok (.invokevirtual 107, 3) := by decide +kernel
theorem dX7_load_95 : decode cX7_load 95 = .ok (.ifCond .ne 13, 3) := by decide +kernel
theorem dX7_load_98 : decode cX7_load 98 = .ok (.aload_n 0, 1) := by decide +kernel
theorem dX7_load_99 : decode cX7_load 99 = .ok (.bipush (-2), 2) := by decide +kernel
theorem dX7_load_101 : decode cX7_load 101 = .ok (.aload_n 0, 1) := by decide +kernel
theorem dX7_load_102 : decode cX7_load 102 = .ok (.getfield 45, 3) := by decide +kernel
theorem dX7_load_105 : decode cX7_load 105 = .ok (.invokevirtual 79, 3) := by decide +kernel
theorem dX7_load_108 : decode cX7_load 108 = .ok (.aload_n 0, 1) := by decide +kernel
theorem dX7_load_109 : decode cX7_load 109 = .ok (.bipush 59, 2) := by decide +kernel
theorem dX7_load_111 : decode cX7_load 111 = .ok (.invokevirtual 101, 3) := by decide +kernel
theorem dX7_load_114 : decode cX7_load 114 = .ok (.aload_n 0, 1) := by decide +kernel
theorem dX7_load_115 : decode cX7_load 115 = .ok (.invokevirtual 62, 3) := by decide +kernel
theorem dX7_load_118 : decode cX7_load 118 = .ok (.ifCond .eq 18, 3) := by decide +kernel
theorem dX7_load_121 : decode cX7_load 121 = .ok (.aload_n 0, 1) := by decide +kernel
theorem dX7_load_122 : decode cX7_load 122 = .ok (.invokevirtual 66, 3) := by decide +kernel
theorem dX7_load_125 : decode cX7_load 125 = .ok (.iconst (-1), 1) := by decide +kernel
theorem dX7_load_126 : decode cX7_load 126 = .ok (.if_icmp .eq 10, 3) := by decide +kernel
theorem dX7_load_129 : decode cX7_load 129 = .ok (.aload_n 0, 1) := by decide +kernel
theorem dX7_load_130 : decode cX7_load 130 = .ok (.invokevirtual 163, 3) := by decide +kernel
theorem dX7_load_133 : decode cX7_load 133 = .ok (.goto (-19), 3) := by decide +kernel
theorem dX7_load_136 : decode cX7_load 136 = .ok (.aload_n 0, 1) := by decide +kernel
theorem dX7_load_137 : decode cX7_load 137 = .ok (.aload_n 0, 1) := by decide +kernel
theorem dX7_load_138 : decode cX7_load 138 = .ok (.getfield 55, 3) := by decide +kernel
theorem dX7_load_141 : decode cX7_load 141 = .ok (.putfield 13, 3) := by decide +kernel
theorem dX7_load_144 : decode cX7_load 144 = .ok (.aload_n 0, 1) := by decide +kernel
theorem dX7_load_145 : decode cX7_load 145 = .ok (.invokevirtual 62, 3) := by decide +kernel
theorem dX7_load_148 : decode cX7_load 148 = .ok (.ifCond .ne 8, 3) := by decide +kernel
theorem dX7_load_151 : decode cX7_load 151 = .ok (.aload_n 0, 1) := by decide +kernel
theorem dX7_load_152 : decode cX7_load 152 = .ok (.getfield 52, 3) := by decide +kernel
theorem dX7_load_155 : decode cX7_load 155 = .ok (.ireturn, 1) := by decide +kernel
theorem dX7_load_156 : decode cX7_load 156 = .ok (.aload_n 0, 1) := by decide +kernel
theorem dX7_load_157 : decode cX7_load 157 = .ok (.invokevirtual 166, 3) := by decide +kernel
theorem dX7_load_160 : decode cX7_load 160 = .ok (.aload_n 0, 1) := by decide +kernel
theorem dX7_load_161 : decode cX7_load 161 = .ok (.getfield 20, 3) := by decide +kernel
theorem dX7_load_164 : decode cX7_load 164 = .ok (.aload_n 0, 1) := by decide +kernel
theorem dX7_load_165 : decode cX7_load 165 = .ok (.getfield 17, 3) := by decide +kernel
theorem dX7_load_168 : decode cX7_load 168 = .ok (.invokestatic 169, 3) := by decide +kernel
theorem dX7_load_171 : decode cX7_load 171 = .ok (.aload_n 0, 1) := by decide +kernel
theorem dX7_load_172 : decode cX7_load 172 = .ok (.invokevirtual 173, 3) := by decide +kernel
theorem dX7_load_175 : decode cX7_load 175 = .ok (.aload_n 0, 1) := by decide +kernel
theorem dX7_load_176 : decode cX7_load 176 = .ok (.getfield 17, 3) := by decide +kernel
theorem dX7_load_179 : decode cX7_load 179 = .ok (.iconst 1, 1) := by decide +kernel
theorem dX7_load_180 : decode cX7_load 180 = .ok (.iaload, 1) := by decide +kernel
theorem dX7_load_181 : decode cX7_load 181 = .ok (.ireturn, 1) := by decide +kernel
theorem dX7_errorOffset_0 : decode cX7_errorOffset 0 = .ok (.aload_n 0, 1) := by decide +kernel
theorem dX7_errorOffset_1 : decode cX7_errorOffset 1 = .ok (.iconst 0, 1) := by decide +kernel
theorem dX7_errorOffset_2 : decode cX7_errorOffset 2 = .ok (.putfield 35, 3) := by decide +kernel
theorem dX7_errorOffset_5 : decode cX7_errorOffset 5 = .ok (.aload_n 0, 1) := by decide +kernel
theorem dX7_errorOffset_6 : decode cX7_errorOffset 6 = .ok (.getfield 13, 3) := by decide +kernel
theorem dX7_errorOffset_9 : decode cX7_errorOffset 9 = .ok (.ireturn, 1) := by decide +kernel
theorem dX7_colourOf_0 : decode cX7_colourOf 0 = .ok (.aload_n 0, 1) := by decide +kernel
theorem dX7_colourOf_1 : decode cX7_colourOf 1 = .ok (.getfield 17, 3) := by decide +kernel
theorem dX7_colourOf_4 : decode cX7_colourOf 4 = .ok (.iload_n 1, 1) := by decide +kernel
theorem dX7_colourOf_5 : decode cX7_colourOf 5 = .ok (.invokestatic 136, 3) := by decide +kernel
theorem dX7_colourOf_8 : decode cX7_colourOf 8 = .ok (.iload_n 2, 1) := by decide +kernel
theorem dX7_colourOf_9 : decode cX7_colourOf 9 = .ok (.iadd, 1) := by decide +kernel
theorem dX7_colourOf_10 : decode cX7_colourOf 10 = .ok (.iaload, 1) := by decide +kernel
theorem dX7_colourOf_11 : decode cX7_colourOf 11 = .ok (.ireturn, 1) := by decide +kernel
theorem dX7_red_0 : decode cX7_red 0 = .ok (.iload_n 0, 1) := by decide +kernel
theorem dX7_red_1 : decode cX7_red 1 = .ok (.ldc 38, 2) := by decide +kernel
theorem dX7_red_3 : decode cX7_red 3 = .ok (.idiv, 1) := by decide +kernel
theorem dX7_red_4 : decode cX7_red 4 = .ok (.ireturn, 1) := by decide +kernel
theorem dX7_green_0 : decode cX7_green 0 = .ok (.iload_n 0, 1) := by decide +kernel
theorem dX7_green_1 : decode cX7_green 1 = .ok (.sipush 256, 3) := by decide +kernel
theorem dX7_green_4 : decode cX7_green 4 = .ok (.idiv, 1) := by decide +kernel
theorem dX7_green_5 : decode cX7_green 5 = .ok (.sipush 256, 3) := by decide +kernel
theorem dX7_green_8 : decode cX7_green 8 = .ok (.irem, 1) := by decide +kernel
theorem dX7_green_9 : decode cX7_green 9 = .ok (.ireturn, 1) := by decide +kernel
theorem dX7_blue_0 : decode cX7_blue 0 = .ok (.iload_n 0, 1) := by decide +kernel
theorem dX7_blue_1 : decode cX7_blue 1 = .ok (.sipush 256, 3) := by decide +kernel
theorem dX7_blue_4 : decode cX7_blue 4 = .ok (.irem, 1) := by decide +kernel
theorem dX7_blue_5 : decode cX7_blue 5 = .ok (.ireturn, 1) := by decide +kernel
theorem dX7_bright_0 : decode cX7_bright 0 = .ok (.sipush 2126, 3) := by decide +kernel
theorem dX7_bright_3 : decode cX7_bright 3 = .ok (.iload_n 0, 1) := by decide +kernel
theorem dX7_bright_4 : decode cX7_bright 4 = .ok (.invokestatic 176, 3) := by decide +kernel
theorem dX7_bright_7 : decode cX7_bright 7 = .ok (.imul, 1) := by decide +kernel
theorem dX7_bright_8 : decode cX7_bright 8 = .ok (.iload_n 0, 1) := by decide +kernel
theorem dX7_bright_9 : decode cX7_bright 9 = .ok (.invokestatic 176, 3) := by decide +kernel
theorem dX7_bright_12 : decode cX7_bright 12 = .ok (.imul, 1) := by decide +kernel
theorem dX7_bright_13 : decode cX7_bright 13 = .ok (.sipush 7152, 3) := by decide +kernel
theorem dX7_bright_16 : decode cX7_bright 16 = .ok (.iload_n 0, 1) := by decide +kernel
theorem dX7_bright_17 : decode cX7_bright 17 = .ok (.invokestatic 179, 3) := by decide +kernel
theorem dX7_bright_20 : decode cX7_bright 20 = .ok (.imul, 1) := by decide +kernel
theorem dX7_bright_21 : decode cX7_bright 21 = .ok (.iload_n 0, 1) := by decide +kernel
theorem dX7_bright_22 : decode cX7_bright 22 = .ok (.invokestatic 179, 3) := by decide +kernel
theorem dX7_bright_25 : decode cX7_bright 25 = .ok (.imul, 1) := by decide +kernel
theorem dX7_bright_26 : decode cX7_bright 26 = .ok (.iadd, 1) := by decide +kernel
theorem dX7_bright_27 : decode cX7_bright 27 = .ok (.sipush 722, 3) := by decide +kernel
theorem dX7_bright_30 : decode cX7_bright 30 = .ok (.iload_n 0, 1) := by decide +kernel
theorem dX7_bright_31 : decode cX7_bright 31 = .ok (.invokestatic 182, 3) := by decide +kernel
theorem dX7_bright_34 : decode cX7_bright 34 = .ok (.imul, 1) := by decide +kernel
theorem dX7_bright_35 : decode cX7_bright 35 = .ok (.iload_n 0, 1) := by decide +kernel
theorem dX7_bright_36 : decode cX7_bright 36 = .ok (.invokestatic 182, 3) := by decide +kernel
theorem dX7_bright_39 : decode cX7_bright 39 = .ok (.imul, 1) := by decide +kernel
theorem dX7_bright_40 : decode cX7_bright 40 = .ok (.iadd, 1) := by decide +kernel
theorem dX7_bright_41 : decode cX7_bright 41 = .ok (.sipush 10000, 3) := by decide +kernel
theorem dX7_bright_44 : decode cX7_bright 44 = .ok (.idiv, 1) := by decide +kernel
theorem dX7_bright_45 : decode cX7_bright 45 = .ok (.ireturn, 1) := by decide +kernel
theorem dX7_contrastOf_0 : decode cX7_contrastOf 0 = .ok (.bipush 100, 2) := by decide +kernel
theorem dX7_contrastOf_2 : decode cX7_contrastOf 2 = .ok (.iload_n 0, 1) := by decide +kernel
theorem dX7_contrastOf_3 : decode cX7_contrastOf 3 = .ok (.invokestatic 185, 3) := by decide +kernel
theorem dX7_contrastOf_6 : decode cX7_contrastOf 6 = .ok (.iload_n 1, 1) := by decide +kernel
theorem dX7_contrastOf_7 : decode cX7_contrastOf 7 = .ok (.invokestatic 185, 3) := by decide +kernel
theorem dX7_contrastOf_10 : decode cX7_contrastOf 10 = .ok (.invokestatic 188, 3) := by decide +kernel
theorem dX7_contrastOf_13 : decode cX7_contrastOf 13 = .ok (.sipush 3251, 3) := by decide +kernel
theorem dX7_contrastOf_16 : decode cX7_contrastOf 16 = .ok (.iadd, 1) := by decide +kernel
theorem dX7_contrastOf_17 : decode cX7_contrastOf 17 = .ok (.imul, 1) := by decide +kernel
theorem dX7_contrastOf_18 : decode cX7_contrastOf 18 = .ok (.iload_n 0, 1) := by decide +kernel
theorem dX7_contrastOf_19 : decode cX7_contrastOf 19 = .ok (.invokestatic 185, 3) := by decide +kernel
theorem dX7_contrastOf_22 : decode cX7_contrastOf 22 = .ok (.iload_n 1, 1) := by decide +kernel
theorem dX7_contrastOf_23 : decode cX7_contrastOf 23 = .ok (.invokestatic 185, 3) := by decide +kernel
theorem dX7_contrastOf_26 : decode cX7_contrastOf 26 = .ok (.invokestatic 91, 3) := by decide +kernel
theorem dX7_contrastOf_29 : decode cX7_contrastOf 29 = .ok (.sipush 3251, 3) := by decide +kernel
theorem dX7_contrastOf_32 : decode cX7_contrastOf 32 = .ok (.iadd, 1) := by decide +kernel
theorem dX7_contrastOf_33 : decode cX7_contrastOf 33 = .ok (.idiv, 1) := by decide +kernel
theorem dX7_contrastOf_34 : decode cX7_contrastOf 34 = .ok (.ireturn, 1) := by decide +kernel
theorem dX7_held_0 : decode cX7_held 0 = .ok (.iconst 0, 1) := by decide +kernel
theorem dX7_held_1 : decode cX7_held 1 = .ok (.sipush 255, 3) := by decide +kernel
theorem dX7_held_4 : decode cX7_held 4 = .ok (.iload_n 0, 1) := by decide +kernel
theorem dX7_held_5 : decode cX7_held 5 = .ok (.invokestatic 91, 3) := by decide +kernel
theorem dX7_held_8 : decode cX7_held 8 = .ok (.invokestatic 188, 3) := by decide +kernel
theorem dX7_held_11 : decode cX7_held 11 = .ok (.ireturn, 1) := by decide +kernel
theorem dX7_channel_0 : decode cX7_channel 0 = .ok (.iload_n 0, 1) := by decide +kernel
theorem dX7_channel_1 : decode cX7_channel 1 = .ok (.iload_n 3, 1) := by decide +kernel
theorem dX7_channel_2 : decode cX7_channel 2 = .ok (.invokestatic 176, 3) := by decide +kernel
theorem dX7_channel_5 : decode cX7_channel 5 = .ok (.imul, 1) := by decide +kernel
theorem dX7_channel_6 : decode cX7_channel 6 = .ok (.iload_n 1, 1) := by decide +kernel
theorem dX7_channel_7 : decode cX7_channel 7 = .ok (.iload_n 3, 1) := by decide +kernel
theorem dX7_channel_8 : decode cX7_channel 8 = .ok (.invokestatic 179, 3) := by decide +kernel
theorem dX7_channel_11 : decode cX7_channel 11 = .ok (.imul, 1) := by decide +kernel
theorem dX7_channel_12 : decode cX7_channel 12 = .ok (.iadd, 1) := by decide +kernel
theorem dX7_channel_13 : decode cX7_channel 13 = .ok (.iload_n 2, 1) := by decide +kernel
theorem dX7_channel_14 : decode cX7_channel 14 = .ok (.iload_n 3, 1) := by decide +kernel
theorem dX7_channel_15 : decode cX7_channel 15 = .ok (.invokestatic 182, 3) := by decide +kernel
theorem dX7_channel_18 : decode cX7_channel 18 = .ok (.imul, 1) := by decide +kernel
theorem dX7_channel_19 : decode cX7_channel 19 = .ok (.iadd, 1) := by decide +kernel
theorem dX7_channel_20 : decode cX7_channel 20 = .ok (.sipush 1000, 3) := by decide +kernel
theorem dX7_channel_23 : decode cX7_channel 23 = .ok (.idiv, 1) := by decide +kernel
theorem dX7_channel_24 : decode cX7_channel 24 = .ok (.invokestatic 191, 3) := by decide +kernel
theorem dX7_channel_27 : decode cX7_channel 27 = .ok (.ireturn, 1) := by decide +kernel
theorem dX7_seenAs_0 : decode cX7_seenAs 0 = .ok (.iload_n 1, 1) := by decide +kernel
theorem dX7_seenAs_1 : decode cX7_seenAs 1 = .ok (.tableswitch 189 1 4 #[31, 70, 110, 149], 31) := by decide +kernel
theorem dX7_seenAs_32 : decode cX7_seenAs 32 = .ok (.sipush 152, 3) := by decide +kernel
theorem dX7_seenAs_35 : decode cX7_seenAs 35 = .ok (.sipush 1053, 3) := by decide +kernel
theorem dX7_seenAs_38 : decode cX7_seenAs 38 = .ok (.sipush (-205), 3) := by decide +kernel
theorem dX7_seenAs_41 : decode cX7_seenAs 41 = .ok (.iload_n 0, 1) := by decide +kernel
theorem dX7_seenAs_42 : decode cX7_seenAs 42 = .ok (.invokestatic 194, 3) := by decide +kernel
theorem dX7_seenAs_45 : decode cX7_seenAs 45 = .ok (.bipush 115, 2) := by decide +kernel
theorem dX7_seenAs_47 : decode cX7_seenAs 47 = .ok (.sipush 786, 3) := by decide +kernel
theorem dX7_seenAs_50 : decode cX7_seenAs 50 = .ok (.bipush 99, 2) := by decide +kernel
theorem dX7_seenAs_52 : decode cX7_seenAs 52 = .ok (.iload_n 0, 1) := by decide +kernel
theorem dX7_seenAs_53 : decode cX7_seenAs 53 = .ok (.invokestatic 194, 3) := by decide +kernel
theorem dX7_seenAs_56 : decode cX7_seenAs 56 = .ok (.bipush (-4), 2) := by decide +kernel
theorem dX7_seenAs_58 : decode cX7_seenAs 58 = .ok (.bipush (-48), 2) := by decide +kernel
theorem dX7_seenAs_60 : decode cX7_seenAs 60 = .ok (.sipush 1052, 3) := by decide +kernel
theorem dX7_seenAs_63 : decode cX7_seenAs 63 = .ok (.iload_n 0, 1) := by decide +kernel
theorem dX7_seenAs_64 : decode cX7_seenAs 64 = .ok (.invokestatic 194, 3) := by decide +kernel
theorem dX7_seenAs_67 : decode cX7_seenAs 67 = .ok (.invokestatic 128, 3) := by decide +kernel
theorem dX7_seenAs_70 : decode cX7_seenAs 70 = .ok (.ireturn, 1) := by decide +kernel
theorem dX7_seenAs_71 : decode cX7_seenAs 71 = .ok (.sipush 367, 3) := by decide +kernel
theorem dX7_seenAs_74 : decode cX7_seenAs 74 = .ok (.sipush 861, 3) := by decide +kernel
theorem dX7_seenAs_77 : decode cX7_seenAs 77 = .ok (.sipush (-228), 3) := by decide +kernel
theorem dX7_seenAs_80 : decode cX7_seenAs 80 = .ok (.iload_n 0, 1) := by decide +kernel
theorem dX7_seenAs_81 : decode cX7_seenAs 81 = .ok (.invokestatic 194, 3) := by decide +kernel
theorem dX7_seenAs_84 : decode cX7_seenAs 84 = .ok (.sipush 280, 3) := by decide +kernel
theorem dX7_seenAs_87 : decode cX7_seenAs 87 = .ok (.sipush 673, 3) := by decide +kernel
theorem dX7_seenAs_90 : decode cX7_seenAs 90 = .ok (.bipush 47, 2) := by decide +kernel
theorem dX7_seenAs_92 : decode cX7_seenAs 92 = .ok (.iload_n 0, 1) := by decide +kernel
theorem dX7_seenAs_93 : decode cX7_seenAs 93 = .ok (.invokestatic 194, 3) := by decide +kernel
theorem dX7_seenAs_96 : decode cX7_seenAs 96 = .ok (.bipush (-12), 2) := by decide +kernel
theorem dX7_seenAs_98 : decode cX7_seenAs 98 = .ok (.bipush 43, 2) := by decide +kernel
theorem dX7_seenAs_100 : decode cX7_seenAs 100 = .ok (.sipush 969, 3) := by decide +kernel
theorem dX7_seenAs_103 : decode cX7_seenAs 103 = .ok (.iload_n 0, 1) := by decide +kernel
theorem dX7_seenAs_104 : decode cX7_seenAs 104 = .ok (.invokestatic 194, 3) := by decide +kernel
theorem dX7_seenAs_107 : decode cX7_seenAs 107 = .ok (.invokestatic 128, 3) := by decide +kernel
theorem dX7_seenAs_110 : decode cX7_seenAs 110 = .ok (.ireturn, 1) := by decide +kernel
theorem dX7_seenAs_111 : decode cX7_seenAs 111 = .ok (.sipush 1256, 3) := by decide +kernel
theorem dX7_seenAs_114 : decode cX7_seenAs 114 = .ok (.bipush (-77), 2) := by decide +kernel
theorem dX7_seenAs_116 : decode cX7_seenAs 116 = .ok (.sipush (-179), 3) := by decide +kernel
theorem dX7_seenAs_119 : decode cX7_seenAs 119 = .ok (.iload_n 0, 1) := by decide +kernel
theorem dX7_seenAs_120 : decode cX7_seenAs 120 = .ok (.invokestatic 194, 3) := by decide +kernel
theorem dX7_seenAs_123 : decode cX7_seenAs 123 = .ok (.bipush (-78), 2) := by decide +kernel
theorem dX7_seenAs_125 : decode cX7_seenAs 125 = .ok (.sipush 930, 3) := by decide +kernel
theorem dX7_seenAs_128 : decode cX7_seenAs 128 = .ok (.sipush 148, 3) := by decide +kernel
theorem dX7_seenAs_131 : decode cX7_seenAs 131 = .ok (.iload_n 0, 1) := by decide +kernel
theorem dX7_seenAs_132 : decode cX7_seenAs 132 = .ok (.invokestatic 194, 3) := by decide +kernel
theorem dX7_seenAs_135 : decode cX7_seenAs 135 = .ok (.iconst 5, 1) := by decide +kernel
theorem dX7_seenAs_136 : decode cX7_seenAs 136 = .ok (.sipush 691, 3) := by decide +kernel
theorem dX7_seenAs_139 : decode cX7_seenAs 139 = .ok (.sipush 304, 3) := by decide +kernel
theorem dX7_seenAs_142 : decode cX7_seenAs 142 = .ok (.iload_n 0, 1) := by decide +kernel
theorem dX7_seenAs_143 : decode cX7_seenAs 143 = .ok (.invokestatic 194, 3) := by decide +kernel
theorem dX7_seenAs_146 : decode cX7_seenAs 146 = .ok (.invokestatic 128, 3) := by decide +kernel
theorem dX7_seenAs_149 : decode cX7_seenAs 149 = .ok (.ireturn, 1) := by decide +kernel
theorem dX7_seenAs_150 : decode cX7_seenAs 150 = .ok (.sipush 299, 3) := by decide +kernel
theorem dX7_seenAs_153 : decode cX7_seenAs 153 = .ok (.sipush 587, 3) := by decide +kernel
theorem dX7_seenAs_156 : decode cX7_seenAs 156 = .ok (.bipush 114, 2) := by decide +kernel
theorem dX7_seenAs_158 : decode cX7_seenAs 158 = .ok (.iload_n 0, 1) := by decide +kernel
theorem dX7_seenAs_159 : decode cX7_seenAs 159 = .ok (.invokestatic 194, 3) := by decide +kernel
theorem dX7_seenAs_162 : decode cX7_seenAs 162 = .ok (.sipush 299, 3) := by decide +kernel
theorem dX7_seenAs_165 : decode cX7_seenAs 165 = .ok (.sipush 587, 3) := by decide +kernel
theorem dX7_seenAs_168 : decode cX7_seenAs 168 = .ok (.bipush 114, 2) := by decide +kernel
theorem dX7_seenAs_170 : decode cX7_seenAs 170 = .ok (.iload_n 0, 1) := by decide +kernel
theorem dX7_seenAs_171 : decode cX7_seenAs 171 = .ok (.invokestatic 194, 3) := by decide +kernel
theorem dX7_seenAs_174 : decode cX7_seenAs 174 = .ok (.sipush 299, 3) := by decide +kernel
theorem dX7_seenAs_177 : decode cX7_seenAs 177 = .ok (.sipush 587, 3) := by decide +kernel
theorem dX7_seenAs_180 : decode cX7_seenAs 180 = .ok (.bipush 114, 2) := by decide +kernel
theorem dX7_seenAs_182 : decode cX7_seenAs 182 = .ok (.iload_n 0, 1) := by decide +kernel
theorem dX7_seenAs_183 : decode cX7_seenAs 183 = .ok (.invokestatic 194, 3) := by decide +kernel
theorem dX7_seenAs_186 : decode cX7_seenAs 186 = .ok (.invokestatic 128, 3) := by decide +kernel
theorem dX7_seenAs_189 : decode cX7_seenAs 189 = .ok (.ireturn, 1) := by decide +kernel
theorem dX7_seenAs_190 : decode cX7_seenAs 190 = .ok (.iload_n 0, 1) := by decide +kernel
theorem dX7_seenAs_191 : decode cX7_seenAs 191 = .ok (.ireturn, 1) := by decide +kernel
theorem dX7_apart_0 : decode cX7_apart 0 = .ok (.iload_n 0, 1) := by decide +kernel
theorem dX7_apart_1 : decode cX7_apart 1 = .ok (.iload_n 1, 1) := by decide +kernel
theorem dX7_apart_2 : decode cX7_apart 2 = .ok (.if_icmp .le 9, 3) := by decide +kernel
theorem dX7_apart_5 : decode cX7_apart 5 = .ok (.iload_n 0, 1) := by decide +kernel
theorem dX7_apart_6 : decode cX7_apart 6 = .ok (.iload_n 1, 1) := by decide +kernel
theorem dX7_apart_7 : decode cX7_apart 7 = .ok (.isub, 1) := by decide +kernel
theorem dX7_apart_8 : decode cX7_apart 8 = .ok (.goto 6, 3) := by decide +kernel
theorem dX7_apart_11 : decode cX7_apart 11 = .ok (.iload_n 1, 1) := by decide +kernel
theorem dX7_apart_12 : decode cX7_apart 12 = .ok (.iload_n 0, 1) := by decide +kernel
theorem dX7_apart_13 : decode cX7_apart 13 = .ok (.isub, 1) := by decide +kernel
theorem dX7_apart_14 : decode cX7_apart 14 = .ok (.ireturn, 1) := by decide +kernel
theorem dX7_differenceOf_0 : decode cX7_differenceOf 0 = .ok (.iconst 3, 1) := by decide +kernel
theorem dX7_differenceOf_1 : decode cX7_differenceOf 1 = .ok (.iload_n 0, 1) := by decide +kernel
theorem dX7_differenceOf_2 : decode cX7_differenceOf 2 = .ok (.invokestatic 176, 3) := by decide +kernel
theorem dX7_differenceOf_5 : decode cX7_differenceOf 5 = .ok (.iload_n 1, 1) := by decide +kernel
theorem dX7_differenceOf_6 : decode cX7_differenceOf 6 = .ok (.invokestatic 176, 3) := by decide +kernel
theorem dX7_differenceOf_9 : decode cX7_differenceOf 9 = .ok (.invokestatic 198, 3) := by decide +kernel
theorem dX7_differenceOf_12 : decode cX7_differenceOf 12 = .ok (.imul, 1) := by decide +kernel
theorem dX7_differenceOf_13 : decode cX7_differenceOf 13 = .ok (.iconst 4, 1) := by decide +kernel
theorem dX7_differenceOf_14 : decode cX7_differenceOf 14 = .ok (.iload_n 0, 1) := by decide +kernel
theorem dX7_differenceOf_15 : decode cX7_differenceOf 15 = .ok (.invokestatic 179, 3) := by decide +kernel
theorem dX7_differenceOf_18 : decode cX7_differenceOf 18 = .ok (.iload_n 1, 1) := by decide +kernel
theorem dX7_differenceOf_19 : decode cX7_differenceOf 19 = .ok (.invokestatic 179, 3) := by decide +kernel
theorem dX7_differenceOf_22 : decode cX7_differenceOf 22 = .ok (.invokestatic 198, 3) := by decide +kernel
theorem dX7_differenceOf_25 : decode cX7_differenceOf 25 = .ok (.imul, 1) := by decide +kernel
theorem dX7_differenceOf_26 : decode cX7_differenceOf 26 = .ok (.iadd, 1) := by decide +kernel
theorem dX7_differenceOf_27 : decode cX7_differenceOf 27 = .ok (.iconst 2, 1) := by decide +kernel
theorem dX7_differenceOf_28 : decode cX7_differenceOf 28 = .ok (.iload_n 0, 1) := by decide +kernel
theorem dX7_differenceOf_29 : decode cX7_differenceOf 29 = .ok (.invokestatic 182, 3) := by decide +kernel
theorem dX7_differenceOf_32 : decode cX7_differenceOf 32 = .ok (.iload_n 1, 1) := by decide +kernel
theorem dX7_differenceOf_33 : decode cX7_differenceOf 33 = .ok (.invokestatic 182, 3) := by decide +kernel
theorem dX7_differenceOf_36 : decode cX7_differenceOf 36 = .ok (.invokestatic 198, 3) := by decide +kernel
theorem dX7_differenceOf_39 : decode cX7_differenceOf 39 = .ok (.imul, 1) := by decide +kernel
theorem dX7_differenceOf_40 : decode cX7_differenceOf 40 = .ok (.iadd, 1) := by decide +kernel
theorem dX7_differenceOf_41 : decode cX7_differenceOf 41 = .ok (.ireturn, 1) := by decide +kernel
theorem dX7_shifted_0 : decode cX7_shifted 0 = .ok (.iload_n 0, 1) := by decide +kernel
theorem dX7_shifted_1 : decode cX7_shifted 1 = .ok (.invokestatic 176, 3) := by decide +kernel
theorem dX7_shifted_4 : decode cX7_shifted 4 = .ok (.iload_n 1, 1) := by decide +kernel
theorem dX7_shifted_5 : decode cX7_shifted 5 = .ok (.iadd, 1) := by decide +kernel
theorem dX7_shifted_6 : decode cX7_shifted 6 = .ok (.invokestatic 191, 3) := by decide +kernel
theorem dX7_shifted_9 : decode cX7_shifted 9 = .ok (.iload_n 0, 1) := by decide +kernel
theorem dX7_shifted_10 : decode cX7_shifted 10 = .ok (.invokestatic 179, 3) := by decide +kernel
theorem dX7_shifted_13 : decode cX7_shifted 13 = .ok (.iload_n 1, 1) := by decide +kernel
theorem dX7_shifted_14 : decode cX7_shifted 14 = .ok (.iadd, 1) := by decide +kernel
theorem dX7_shifted_15 : decode cX7_shifted 15 = .ok (.invokestatic 191, 3) := by decide +kernel
theorem dX7_shifted_18 : decode cX7_shifted 18 = .ok (.iload_n 0, 1) := by decide +kernel
theorem dX7_shifted_19 : decode cX7_shifted 19 = .ok (.invokestatic 182, 3) := by decide +kernel
theorem dX7_shifted_22 : decode cX7_shifted 22 = .ok (.iload_n 1, 1) := by decide +kernel
theorem dX7_shifted_23 : decode cX7_shifted 23 = .ok (.iadd, 1) := by decide +kernel
theorem dX7_shifted_24 : decode cX7_shifted 24 = .ok (.invokestatic 191, 3) := by decide +kernel
theorem dX7_shifted_27 : decode cX7_shifted 27 = .ok (.invokestatic 128, 3) := by decide +kernel
theorem dX7_shifted_30 : decode cX7_shifted 30 = .ok (.ireturn, 1) := by decide +kernel
theorem dX7_limited_0 : decode cX7_limited 0 = .ok (.lload_n 0, 1) := by decide +kernel
theorem dX7_limited_1 : decode cX7_limited 1 = .ok (.ldc2_w 201, 3) := by decide +kernel
theorem dX7_limited_4 : decode cX7_limited 4 = .ok (.lcmp, 1) := by decide +kernel
theorem dX7_limited_5 : decode cX7_limited 5 = .ok (.ifCond .le 9, 3) := by decide +kernel
theorem dX7_limited_8 : decode cX7_limited 8 = .ok (.ldc2_w 201, 3) := by decide +kernel
theorem dX7_limited_11 : decode cX7_limited 11 = .ok (.goto 18, 3) := by decide +kernel
theorem dX7_limited_14 : decode cX7_limited 14 = .ok (.lload_n 0, 1) := by decide +kernel
theorem dX7_limited_15 : decode cX7_limited 15 = .ok (.ldc2_w 203, 3) := by decide +kernel
theorem dX7_limited_18 : decode cX7_limited 18 = .ok (.lcmp, 1) := by decide +kernel
theorem dX7_limited_19 : decode cX7_limited 19 = .ok (.ifCond .ge 9, 3) := by decide +kernel
theorem dX7_limited_22 : decode cX7_limited 22 = .ok (.ldc2_w 203, 3) := by decide +kernel
theorem dX7_limited_25 : decode cX7_limited 25 = .ok (.goto 4, 3) := by decide +kernel
theorem dX7_limited_28 : decode cX7_limited 28 = .ok (.lload_n 0, 1) := by decide +kernel
theorem dX7_limited_29 : decode cX7_limited 29 = .ok (.lreturn, 1) := by decide +kernel
theorem dX7_operate_0 : decode cX7_operate 0 = .ok (.iload_n 0, 1) := by decide +kernel
theorem dX7_operate_1 : decode cX7_operate 1 = .ok (.iconst 5, 1) := by decide +kernel
theorem dX7_operate_2 : decode cX7_operate 2 = .ok (.if_icmp .ne 17, 3) := by decide +kernel
theorem dX7_operate_5 : decode cX7_operate 5 = .ok (.lload_n 3, 1) := by decide +kernel
theorem dX7_operate_6 : decode cX7_operate 6 = .ok (.lconst 0, 1) := by decide +kernel
theorem dX7_operate_7 : decode cX7_operate 7 = .ok (.lcmp, 1) := by decide +kernel
theorem dX7_operate_8 : decode cX7_operate 8 = .ok (.ifCond .ne 7, 3) := by decide +kernel
theorem dX7_operate_11 : decode cX7_operate 11 = .ok (.lconst 0, 1) := by decide +kernel
theorem dX7_operate_12 : decode cX7_operate 12 = .ok (.goto 6, 3) := by decide +kernel
theorem dX7_operate_15 : decode cX7_operate 15 = .ok (.lload_n 1, 1) := by decide +kernel
theorem dX7_operate_16 : decode cX7_operate 16 = .ok (.lload_n 3, 1) := by decide +kernel
theorem dX7_operate_17 : decode cX7_operate 17 = .ok (.ldiv, 1) := by decide +kernel
theorem dX7_operate_18 : decode cX7_operate 18 = .ok (.lreturn, 1) := by decide +kernel
theorem dX7_operate_19 : decode cX7_operate 19 = .ok (.iload_n 0, 1) := by decide +kernel
theorem dX7_operate_20 : decode cX7_operate 20 = .ok (.iconst 2, 1) := by decide +kernel
theorem dX7_operate_21 : decode cX7_operate 21 = .ok (.if_icmp .ne 9, 3) := by decide +kernel
theorem dX7_operate_24 : decode cX7_operate 24 = .ok (.lload_n 1, 1) := by decide +kernel
theorem dX7_operate_25 : decode cX7_operate 25 = .ok (.lload_n 3, 1) := by decide +kernel
theorem dX7_operate_26 : decode cX7_operate 26 = .ok (.ladd, 1) := by decide +kernel
theorem dX7_operate_27 : decode cX7_operate 27 = .ok (.goto 17, 3) := by decide +kernel
theorem dX7_operate_30 : decode cX7_operate 30 = .ok (.iload_n 0, 1) := by decide +kernel
theorem dX7_operate_31 : decode cX7_operate 31 = .ok (.iconst 3, 1) := by decide +kernel
theorem dX7_operate_32 : decode cX7_operate 32 = .ok (.if_icmp .ne 9, 3) := by decide +kernel
theorem dX7_operate_35 : decode cX7_operate 35 = .ok (.lload_n 1, 1) := by decide +kernel
theorem dX7_operate_36 : decode cX7_operate 36 = .ok (.lload_n 3, 1) := by decide +kernel
theorem dX7_operate_37 : decode cX7_operate 37 = .ok (.lsub, 1) := by decide +kernel
theorem dX7_operate_38 : decode cX7_operate 38 = .ok (.goto 6, 3) := by decide +kernel
theorem dX7_operate_41 : decode cX7_operate 41 = .ok (.lload_n 1, 1) := by decide +kernel
theorem dX7_operate_42 : decode cX7_operate 42 = .ok (.lload_n 3, 1) := by decide +kernel
theorem dX7_operate_43 : decode cX7_operate 43 = .ok (.lmul, 1) := by decide +kernel
theorem dX7_operate_44 : decode cX7_operate 44 = .ok (.invokestatic 205, 3) := by decide +kernel
theorem dX7_operate_47 : decode cX7_operate 47 = .ok (.lreturn, 1) := by decide +kernel
theorem dX7_reckonNeed_0 : decode cX7_reckonNeed 0 = .ok (.aload_n 0, 1) := by decide +kernel
theorem dX7_reckonNeed_1 : decode cX7_reckonNeed 1 = .ok (.getfield 17, 3) := by decide +kernel
theorem dX7_reckonNeed_4 : decode cX7_reckonNeed 4 = .ok (.iload_n 1, 1) := by decide +kernel
theorem dX7_reckonNeed_5 : decode cX7_reckonNeed 5 = .ok (.invokestatic 139, 3) := by decide +kernel
theorem dX7_reckonNeed_8 : decode cX7_reckonNeed 8 = .ok (.iconst 3, 1) := by decide +kernel
theorem dX7_reckonNeed_9 : decode cX7_reckonNeed 9 = .ok (.iadd, 1) := by decide +kernel
theorem dX7_reckonNeed_10 : decode cX7_reckonNeed 10 = .ok (.iaload, 1) := by decide +kernel
theorem dX7_reckonNeed_11 : decode cX7_reckonNeed 11 = .ok (.istore_n 3, 1) := by decide +kernel
theorem dX7_reckonNeed_12 : decode cX7_reckonNeed 12 = .ok (.iconst 0, 1) := by decide +kernel
theorem dX7_reckonNeed_13 : decode cX7_reckonNeed 13 = .ok (.istore 4, 2) := by decide +kernel
theorem dX7_reckonNeed_15 : decode cX7_reckonNeed 15 = .ok (.aload_n 0, 1) := by decide +kernel
theorem dX7_reckonNeed_16 : decode cX7_reckonNeed 16 = .ok (.getfield 17, 3) := by decide +kernel
theorem dX7_reckonNeed_19 : decode cX7_reckonNeed 19 = .ok (.iload_n 1, 1) := by decide +kernel
theorem dX7_reckonNeed_20 : decode cX7_reckonNeed 20 = .ok (.invokestatic 139, 3) := by decide +kernel
theorem dX7_reckonNeed_23 : decode cX7_reckonNeed 23 = .ok (.iaload, 1) := by decide +kernel
theorem dX7_reckonNeed_24 : decode cX7_reckonNeed 24 = .ok (.ifCond .le 5, 3) := by decide +kernel
theorem dX7_reckonNeed_27 : decode cX7_reckonNeed 27 = .ok (.iload_n 3, 1) := by decide +kernel
theorem dX7_reckonNeed_28 : decode cX7_reckonNeed 28 = .ok (.ireturn, 1) := by decide +kernel
theorem dX7_reckonNeed_29 : decode cX7_reckonNeed 29 = .ok (.aload_n 0, 1) := by decide +kernel
theorem dX7_reckonNeed_30 : decode cX7_reckonNeed 30 = .ok (.getfield 17, 3) := by decide +kernel
theorem dX7_reckonNeed_33 : decode cX7_reckonNeed 33 = .ok (.iconst 2, 1) := by decide +kernel
theorem dX7_reckonNeed_34 : decode cX7_reckonNeed 34 = .ok (.iaload, 1) := by decide +kernel
theorem dX7_reckonNeed_35 : decode cX7_reckonNeed 35 = .ok (.ifCond .ne 7, 3) := by decide +kernel
theorem dX7_reckonNeed_38 : decode cX7_reckonNeed 38 = .ok (.sipush 450, 3) := by decide +kernel
theorem dX7_reckonNeed_41 : decode cX7_reckonNeed 41 = .ok (.ireturn, 1) := by decide +kernel
theorem dX7_reckonNeed_42 : decode cX7_reckonNeed 42 = .ok (.iconst 0, 1) := by decide +kernel
theorem dX7_reckonNeed_43 : decode cX7_reckonNeed 43 = .ok (.istore 5, 2) := by decide +kernel
theorem dX7_reckonNeed_45 : decode cX7_reckonNeed 45 = .ok (.iload 5, 2) := by decide +kernel
theorem dX7_reckonNeed_47 : decode cX7_reckonNeed 47 = .ok (.aload_n 0, 1) := by decide +kernel
theorem dX7_reckonNeed_48 : decode cX7_reckonNeed 48 = .ok (.getfield 17, 3) := by decide +kernel
theorem dX7_reckonNeed_51 : decode cX7_reckonNeed 51 = .ok (.iconst 3, 1) := by decide +kernel
theorem dX7_reckonNeed_52 : decode cX7_reckonNeed 52 = .ok (.iaload, 1) := by decide +kernel
theorem dX7_reckonNeed_53 : decode cX7_reckonNeed 53 = .ok (.if_icmp .ge 111, 3) := by decide +kernel
theorem dX7_reckonNeed_56 : decode cX7_reckonNeed 56 = .ok (.aload_n 0, 1) := by decide +kernel
theorem dX7_reckonNeed_57 : decode cX7_reckonNeed 57 = .ok (.getfield 17, 3) := by decide +kernel
theorem dX7_reckonNeed_60 : decode cX7_reckonNeed 60 = .ok (.bipush 82, 2) := by decide +kernel
theorem dX7_reckonNeed_62 : decode cX7_reckonNeed 62 = .ok (.iload 5, 2) := by decide +kernel
theorem dX7_reckonNeed_64 : decode cX7_reckonNeed 64 = .ok (.iadd, 1) := by decide +kernel
theorem dX7_reckonNeed_65 : decode cX7_reckonNeed 65 = .ok (.iaload, 1) := by decide +kernel
theorem dX7_reckonNeed_66 : decode cX7_reckonNeed 66 = .ok (.istore 6, 2) := by decide +kernel
theorem dX7_reckonNeed_68 : decode cX7_reckonNeed 68 = .ok (.iload 6, 2) := by decide +kernel
theorem dX7_reckonNeed_70 : decode cX7_reckonNeed 70 = .ok (.iconst 1, 1) := by decide +kernel
theorem dX7_reckonNeed_71 : decode cX7_reckonNeed 71 = .ok (.if_icmp .gt 54, 3) := by decide +kernel
theorem dX7_reckonNeed_74 : decode cX7_reckonNeed 74 = .ok (.iinc 5 1, 3) := by decide +kernel
theorem dX7_reckonNeed_77 : decode cX7_reckonNeed 77 = .ok (.aload_n 0, 1) := by decide +kernel
theorem dX7_reckonNeed_78 : decode cX7_reckonNeed 78 = .ok (.getfield 17, 3) := by decide +kernel
theorem dX7_reckonNeed_81 : decode cX7_reckonNeed 81 = .ok (.bipush 82, 2) := by decide +kernel
theorem dX7_reckonNeed_83 : decode cX7_reckonNeed 83 = .ok (.iload 5, 2) := by decide +kernel
theorem dX7_reckonNeed_85 : decode cX7_reckonNeed 85 = .ok (.iadd, 1) := by decide +kernel
theorem dX7_reckonNeed_86 : decode cX7_reckonNeed 86 = .ok (.iaload, 1) := by decide +kernel
theorem dX7_reckonNeed_87 : decode cX7_reckonNeed 87 = .ok (.istore 7, 2) := by decide +kernel
theorem dX7_reckonNeed_89 : decode cX7_reckonNeed 89 = .ok (.aload_n 0, 1) := by decide +kernel
theorem dX7_reckonNeed_90 : decode cX7_reckonNeed 90 = .ok (.getfield 28, 3) := by decide +kernel
theorem dX7_reckonNeed_93 : decode cX7_reckonNeed 93 = .ok (.iload 4, 2) := by decide +kernel
theorem dX7_reckonNeed_95 : decode cX7_reckonNeed 95 = .ok (.iload 6, 2) := by decide +kernel
theorem dX7_reckonNeed_97 : decode cX7_reckonNeed 97 = .ok (.ifCond .ne 9, 3) := by decide +kernel
theorem dX7_reckonNeed_100 : decode cX7_reckonNeed 100 = .ok (.iload 7, 2) := by decide +kernel
theorem dX7_reckonNeed_102 : decode cX7_reckonNeed 102 = .ok (.i2l, 1) := by decide +kernel
theorem dX7_reckonNeed_103 : decode cX7_reckonNeed 103 = .ok (.goto 15, 3) := by decide +kernel
theorem dX7_reckonNeed_106 : decode cX7_reckonNeed 106 = .ok (.iload 7, 2) := by decide +kernel
theorem dX7_reckonNeed_108 : decode cX7_reckonNeed 108 = .ok (.ifCond .ne 8, 3) := by decide +kernel
theorem dX7_reckonNeed_111 : decode cX7_reckonNeed 111 = .ok (.iload_n 3, 1) := by decide +kernel
theorem dX7_reckonNeed_112 : decode cX7_reckonNeed 112 = .ok (.i2l, 1) := by decide +kernel
theorem dX7_reckonNeed_113 : decode cX7_reckonNeed 113 = .ok (.goto 5, 3) := by decide +kernel
theorem dX7_reckonNeed_116 : decode cX7_reckonNeed 116 = .ok (.iload_n 2, 1) := by decide +kernel
theorem dX7_reckonNeed_117 : decode cX7_reckonNeed 117 = .ok (.i2l, 1) := by decide +kernel
theorem dX7_reckonNeed_118 : decode cX7_reckonNeed 118 = .ok (.lastore, 1) := by decide +kernel
theorem dX7_reckonNeed_119 : decode cX7_reckonNeed 119 = .ok (.iinc 4 1, 3) := by decide +kernel
theorem dX7_reckonNeed_122 : decode cX7_reckonNeed 122 = .ok (.goto 36, 3) := by decide +kernel
theorem dX7_reckonNeed_125 : decode cX7_reckonNeed 125 = .ok (.iinc 4 (-1), 3) := by decide +kernel
theorem dX7_reckonNeed_128 : decode cX7_reckonNeed 128 = .ok (.aload_n 0, 1) := by decide +kernel
theorem dX7_reckonNeed_129 : decode cX7_reckonNeed 129 = .ok (.getfield 28, 3) := by decide +kernel
theorem dX7_reckonNeed_132 : decode cX7_reckonNeed 132 = .ok (.iload 4, 2) := by decide +kernel
theorem dX7_reckonNeed_134 : decode cX7_reckonNeed 134 = .ok (.iconst 1, 1) := by decide +kernel
theorem dX7_reckonNeed_135 : decode cX7_reckonNeed 135 = .ok (.isub, 1) := by decide +kernel
theorem dX7_reckonNeed_136 : decode cX7_reckonNeed 136 = .ok (.iload 6, 2) := by decide +kernel
theorem dX7_reckonNeed_138 : decode cX7_reckonNeed 138 = .ok (.aload_n 0, 1) := by decide +kernel
theorem dX7_reckonNeed_139 : decode cX7_reckonNeed 139 = .ok (.getfield 28, 3) := by decide +kernel
theorem dX7_reckonNeed_142 : decode cX7_reckonNeed 142 = .ok (.iload 4, 2) := by decide +kernel
theorem dX7_reckonNeed_144 : decode cX7_reckonNeed 144 = .ok (.iconst 1, 1) := by decide +kernel
theorem dX7_reckonNeed_145 : decode cX7_reckonNeed 145 = .ok (.isub, 1) := by decide +kernel
theorem dX7_reckonNeed_146 : decode cX7_reckonNeed 146 = .ok (.laload, 1) := by decide +kernel
theorem dX7_reckonNeed_147 : decode cX7_reckonNeed 147 = .ok (.aload_n 0, 1) := by decide +kernel
theorem dX7_reckonNeed_148 : decode cX7_reckonNeed 148 = .ok (.getfield 28, 3) := by decide +kernel
theorem dX7_reckonNeed_151 : decode cX7_reckonNeed 151 = .ok (.iload 4, 2) := by decide +kernel
theorem dX7_reckonNeed_153 : decode cX7_reckonNeed 153 = .ok (.laload, 1) := by decide +kernel
theorem dX7_reckonNeed_154 : decode cX7_reckonNeed 154 = .ok (.invokestatic 209, 3) := by decide +kernel
theorem dX7_reckonNeed_157 : decode cX7_reckonNeed 157 = .ok (.lastore, 1) := by decide +kernel
theorem dX7_reckonNeed_158 : decode cX7_reckonNeed 158 = .ok (.iinc 5 1, 3) := by decide +kernel
theorem dX7_reckonNeed_161 : decode cX7_reckonNeed 161 = .ok (.goto (-116), 3) := by decide +kernel
theorem dX7_reckonNeed_164 : decode cX7_reckonNeed 164 = .ok (.aload_n 0, 1) := by decide +kernel
theorem dX7_reckonNeed_165 : decode cX7_reckonNeed 165 = .ok (.getfield 28, 3) := by decide +kernel
theorem dX7_reckonNeed_168 : decode cX7_reckonNeed 168 = .ok (.iconst 0, 1) := by decide +kernel
theorem dX7_reckonNeed_169 : decode cX7_reckonNeed 169 = .ok (.laload, 1) := by decide +kernel
theorem dX7_reckonNeed_170 : decode cX7_reckonNeed 170 = .ok (.ldc2_w 213, 3) := by decide +kernel
theorem dX7_reckonNeed_173 : decode cX7_reckonNeed 173 = .ok (.lcmp, 1) := by decide +kernel
theorem dX7_reckonNeed_174 : decode cX7_reckonNeed 174 = .ok (.ifCond .ge 8, 3) := by decide +kernel
theorem dX7_reckonNeed_177 : decode cX7_reckonNeed 177 = .ok (.bipush 100, 2) := by decide +kernel
theorem dX7_reckonNeed_179 : decode cX7_reckonNeed 179 = .ok (.goto 29, 3) := by decide +kernel
theorem dX7_reckonNeed_182 : decode cX7_reckonNeed 182 = .ok (.aload_n 0, 1) := by decide +kernel
theorem dX7_reckonNeed_183 : decode cX7_reckonNeed 183 = .ok (.getfield 28, 3) := by decide +kernel
theorem dX7_reckonNeed_186 : decode cX7_reckonNeed 186 = .ok (.iconst 0, 1) := by decide +kernel
theorem dX7_reckonNeed_187 : decode cX7_reckonNeed 187 = .ok (.laload, 1) := by decide +kernel
theorem dX7_reckonNeed_188 : decode cX7_reckonNeed 188 = .ok (.ldc2_w 215, 3) := by decide +kernel
theorem dX7_reckonNeed_191 : decode cX7_reckonNeed 191 = .ok (.lcmp, 1) := by decide +kernel
theorem dX7_reckonNeed_192 : decode cX7_reckonNeed 192 = .ok (.ifCond .le 9, 3) := by decide +kernel
theorem dX7_reckonNeed_195 : decode cX7_reckonNeed 195 = .ok (.sipush 2100, 3) := by decide +kernel
theorem dX7_reckonNeed_198 : decode cX7_reckonNeed 198 = .ok (.goto 10, 3) := by decide +kernel
theorem dX7_reckonNeed_201 : decode cX7_reckonNeed 201 = .ok (.aload_n 0, 1) := by decide +kernel
theorem dX7_reckonNeed_202 : decode cX7_reckonNeed 202 = .ok (.getfield 28, 3) := by decide +kernel
theorem dX7_reckonNeed_205 : decode cX7_reckonNeed 205 = .ok (.iconst 0, 1) := by decide +kernel
theorem dX7_reckonNeed_206 : decode cX7_reckonNeed 206 = .ok (.laload, 1) := by decide +kernel
theorem dX7_reckonNeed_207 : decode cX7_reckonNeed 207 = .ok (.l2i, 1) := by decide +kernel
theorem dX7_reckonNeed_208 : decode cX7_reckonNeed 208 = .ok (.ireturn, 1) := by decide +kernel
theorem dX7_layNeeds_0 : decode cX7_layNeeds 0 = .ok (.iconst 0, 1) := by decide +kernel
theorem dX7_layNeeds_1 : decode cX7_layNeeds 1 = .ok (.istore_n 1, 1) := by decide +kernel
theorem dX7_layNeeds_2 : decode cX7_layNeeds 2 = .ok (.iload_n 1, 1) := by decide +kernel
theorem dX7_layNeeds_3 : decode cX7_layNeeds 3 = .ok (.iconst 2, 1) := by decide +kernel
theorem dX7_layNeeds_4 : decode cX7_layNeeds 4 = .ok (.aload_n 0, 1) := by decide +kernel
theorem dX7_layNeeds_5 : decode cX7_layNeeds 5 = .ok (.getfield 17, 3) := by decide +kernel
theorem dX7_layNeeds_8 : decode cX7_layNeeds 8 = .ok (.iconst 1, 1) := by decide +kernel
theorem dX7_layNeeds_9 : decode cX7_layNeeds 9 = .ok (.iaload, 1) := by decide +kernel
theorem dX7_layNeeds_10 : decode cX7_layNeeds 10 = .ok (.imul, 1) := by decide +kernel
theorem dX7_layNeeds_11 : decode cX7_layNeeds 11 = .ok (.if_icmp .ge 25, 3) := by decide +kernel
theorem dX7_layNeeds_14 : decode cX7_layNeeds 14 = .ok (.aload_n 0, 1) := by decide +kernel
theorem dX7_layNeeds_15 : decode cX7_layNeeds 15 = .ok (.getfield 32, 3) := by decide +kernel
theorem dX7_layNeeds_18 : decode cX7_layNeeds 18 = .ok (.iload_n 1, 1) := by decide +kernel
theorem dX7_layNeeds_19 : decode cX7_layNeeds 19 = .ok (.aload_n 0, 1) := by decide +kernel
theorem dX7_layNeeds_20 : decode cX7_layNeeds 20 = .ok (.iload_n 1, 1) := by decide +kernel
theorem dX7_layNeeds_21 : decode cX7_layNeeds 21 = .ok (.iconst 2, 1) := by decide +kernel
theorem dX7_layNeeds_22 : decode cX7_layNeeds 22 = .ok (.idiv, 1) := by decide +kernel
theorem dX7_layNeeds_23 : decode cX7_layNeeds 23 = .ok (.iload_n 1, 1) := by decide +kernel
theorem dX7_layNeeds_24 : decode cX7_layNeeds 24 = .ok (.iconst 2, 1) := by decide +kernel
theorem dX7_layNeeds_25 : decode cX7_layNeeds 25 = .ok (.irem, 1) := by decide +kernel
theorem dX7_layNeeds_26 : decode cX7_layNeeds 26 = .ok (.invokevirtual 217, 3) := by decide +kernel
theorem dX7_layNeeds_29 : decode cX7_layNeeds 29 = .ok (.iastore, 1) := by decide +kernel
theorem dX7_layNeeds_30 : decode cX7_layNeeds 30 = .ok (.iinc 1 1, 3) := by decide +kernel
theorem dX7_layNeeds_33 : decode cX7_layNeeds 33 = .ok (.goto (-31), 3) := by decide +kernel
theorem dX7_layNeeds_36 : decode cX7_layNeeds 36 = .ok (.return_, 1) := by decide +kernel
theorem dX7_needOf_0 : decode cX7_needOf 0 = .ok (.aload_n 0, 1) := by decide +kernel
theorem dX7_needOf_1 : decode cX7_needOf 1 = .ok (.getfield 32, 3) := by decide +kernel
theorem dX7_needOf_4 : decode cX7_needOf 4 = .ok (.iconst 2, 1) := by decide +kernel
theorem dX7_needOf_5 : decode cX7_needOf 5 = .ok (.iload_n 1, 1) := by decide +kernel
theorem dX7_needOf_6 : decode cX7_needOf 6 = .ok (.imul, 1) := by decide +kernel
theorem dX7_needOf_7 : decode cX7_needOf 7 = .ok (.iload_n 2, 1) := by decide +kernel
theorem dX7_needOf_8 : decode cX7_needOf 8 = .ok (.iadd, 1) := by decide +kernel
theorem dX7_needOf_9 : decode cX7_needOf 9 = .ok (.iaload, 1) := by decide +kernel
theorem dX7_needOf_10 : decode cX7_needOf 10 = .ok (.ireturn, 1) := by decide +kernel
theorem dX7_valueOf_0 : decode cX7_valueOf 0 = .ok (.aload_n 0, 1) := by decide +kernel
theorem dX7_valueOf_1 : decode cX7_valueOf 1 = .ok (.aload_n 0, 1) := by decide +kernel
theorem dX7_valueOf_2 : decode cX7_valueOf 2 = .ok (.getfield 17, 3) := by decide +kernel
theorem dX7_valueOf_5 : decode cX7_valueOf 5 = .ok (.iload_n 1, 1) := by decide +kernel
theorem dX7_valueOf_6 : decode cX7_valueOf 6 = .ok (.invokestatic 139, 3) := by decide +kernel
theorem dX7_valueOf_9 : decode cX7_valueOf 9 = .ok (.iconst 1, 1) := by decide +kernel
theorem dX7_valueOf_10 : decode cX7_valueOf 10 = .ok (.iadd, 1) := by decide +kernel
theorem dX7_valueOf_11 : decode cX7_valueOf 11 = .ok (.iaload, 1) := by decide +kernel
theorem dX7_valueOf_12 : decode cX7_valueOf 12 = .ok (.iload_n 2, 1) := by decide +kernel
theorem dX7_valueOf_13 : decode cX7_valueOf 13 = .ok (.invokevirtual 220, 3) := by decide +kernel
theorem dX7_valueOf_16 : decode cX7_valueOf 16 = .ok (.istore_n 3, 1) := by decide +kernel
theorem dX7_valueOf_17 : decode cX7_valueOf 17 = .ok (.aload_n 0, 1) := by decide +kernel
theorem dX7_valueOf_18 : decode cX7_valueOf 18 = .ok (.aload_n 0, 1) := by decide +kernel
theorem dX7_valueOf_19 : decode cX7_valueOf 19 = .ok (.getfield 17, 3) := by decide +kernel
theorem dX7_valueOf_22 : decode cX7_valueOf 22 = .ok (.iload_n 1, 1) := by decide +kernel
theorem dX7_valueOf_23 : decode cX7_valueOf 23 = .ok (.invokestatic 139, 3) := by decide +kernel
theorem dX7_valueOf_26 : decode cX7_valueOf 26 = .ok (.iconst 2, 1) := by decide +kernel
theorem dX7_valueOf_27 : decode cX7_valueOf 27 = .ok (.iadd, 1) := by decide +kernel
theorem dX7_valueOf_28 : decode cX7_valueOf 28 = .ok (.iaload, 1) := by decide +kernel
theorem dX7_valueOf_29 : decode cX7_valueOf 29 = .ok (.iload_n 2, 1) := by decide +kernel
theorem dX7_valueOf_30 : decode cX7_valueOf 30 = .ok (.invokevirtual 220, 3) := by decide +kernel
theorem dX7_valueOf_33 : decode cX7_valueOf 33 = .ok (.istore 4, 2) := by decide +kernel
theorem dX7_valueOf_35 : decode cX7_valueOf 35 = .ok (.aload_n 0, 1) := by decide +kernel
theorem dX7_valueOf_36 : decode cX7_valueOf 36 = .ok (.getfield 17, 3) := by decide +kernel
theorem dX7_valueOf_39 : decode cX7_valueOf 39 = .ok (.iload_n 1, 1) := by decide +kernel
theorem dX7_valueOf_40 : decode cX7_valueOf 40 = .ok (.invokestatic 139, 3) := by decide +kernel
theorem dX7_valueOf_43 : decode cX7_valueOf 43 = .ok (.iaload, 1) := by decide +kernel
theorem dX7_valueOf_44 : decode cX7_valueOf 44 = .ok (.iconst 1, 1) := by decide +kernel
theorem dX7_valueOf_45 : decode cX7_valueOf 45 = .ok (.isub, 1) := by decide +kernel
theorem dX7_valueOf_46 : decode cX7_valueOf 46 = .ok (.istore 5, 2) := by decide +kernel
theorem dX7_valueOf_48 : decode cX7_valueOf 48 = .ok (.iload 5, 2) := by decide +kernel
theorem dX7_valueOf_50 : decode cX7_valueOf 50 = .ok (.iconst (-1), 1) := by decide +kernel
theorem dX7_valueOf_51 : decode cX7_valueOf 51 = .ok (.if_icmp .ne 12, 3) := by decide +kernel
theorem dX7_valueOf_54 : decode cX7_valueOf 54 = .ok (.iload_n 3, 1) := by decide +kernel
theorem dX7_valueOf_55 : decode cX7_valueOf 55 = .ok (.iload 4, 2) := by decide +kernel
theorem dX7_valueOf_57 : decode cX7_valueOf 57 = .ok (.invokestatic 223, 3) := by decide +kernel
theorem dX7_valueOf_60 : decode cX7_valueOf 60 = .ok (.goto 19, 3) := by decide +kernel
theorem dX7_valueOf_63 : decode cX7_valueOf 63 = .ok (.iload_n 3, 1) := by decide +kernel
theorem dX7_valueOf_64 : decode cX7_valueOf 64 = .ok (.iload 5, 2) := by decide +kernel
theorem dX7_valueOf_66 : decode cX7_valueOf 66 = .ok (.invokestatic 226, 3) := by decide +kernel
theorem dX7_valueOf_69 : decode cX7_valueOf 69 = .ok (.iload 4, 2) := by decide +kernel
theorem dX7_valueOf_71 : decode cX7_valueOf 71 = .ok (.iload 5, 2) := by decide +kernel
theorem dX7_valueOf_73 : decode cX7_valueOf 73 = .ok (.invokestatic 226, 3) := by decide +kernel
theorem dX7_valueOf_76 : decode cX7_valueOf 76 = .ok (.invokestatic 229, 3) := by decide +kernel
theorem dX7_valueOf_79 : decode cX7_valueOf 79 = .ok (.ireturn, 1) := by decide +kernel
theorem dX7_isViolated_0 : decode cX7_isViolated 0 = .ok (.aload_n 0, 1) := by decide +kernel
theorem dX7_isViolated_1 : decode cX7_isViolated 1 = .ok (.iload_n 1, 1) := by decide +kernel
theorem dX7_isViolated_2 : decode cX7_isViolated 2 = .ok (.iload_n 2, 1) := by decide +kernel
theorem dX7_isViolated_3 : decode cX7_isViolated 3 = .ok (.invokevirtual 232, 3) := by decide +kernel
theorem dX7_isViolated_6 : decode cX7_isViolated 6 = .ok (.aload_n 0, 1) := by decide +kernel
theorem dX7_isViolated_7 : decode cX7_isViolated 7 = .ok (.iload_n 1, 1) := by decide +kernel
theorem dX7_isViolated_8 : decode cX7_isViolated 8 = .ok (.iload_n 2, 1) := by decide +kernel
theorem dX7_isViolated_9 : decode cX7_isViolated 9 = .ok (.invokevirtual 235, 3) := by decide +kernel
theorem dX7_isViolated_12 : decode cX7_isViolated 12 = .ok (.if_icmp .ge 7, 3) := by decide +kernel
theorem dX7_isViolated_15 : decode cX7_isViolated 15 = .ok (.iconst 1, 1) := by decide +kernel
theorem dX7_isViolated_16 : decode cX7_isViolated 16 = .ok (.goto 4, 3) := by decide +kernel
theorem dX7_isViolated_19 : decode cX7_isViolated 19 = .ok (.iconst 0, 1) := by decide +kernel
theorem dX7_isViolated_20 : decode cX7_isViolated 20 = .ok (.ireturn, 1) := by decide +kernel
theorem dX7_violatedIn_0 : decode cX7_violatedIn 0 = .ok (.iconst 0, 1) := by decide +kernel
theorem dX7_violatedIn_1 : decode cX7_violatedIn 1 = .ok (.istore_n 2, 1) := by decide +kernel
theorem dX7_violatedIn_2 : decode cX7_violatedIn 2 = .ok (.iconst 0, 1) := by decide +kernel
theorem dX7_violatedIn_3 : decode cX7_violatedIn 3 = .ok (.istore_n 3, 1) := by decide +kernel
theorem dX7_violatedIn_4 : decode cX7_violatedIn 4 = .ok (.iload_n 3, 1) := by decide +kernel
theorem dX7_violatedIn_5 : decode cX7_violatedIn 5 = .ok (.aload_n 0, 1) := by decide +kernel
theorem dX7_violatedIn_6 : decode cX7_violatedIn 6 = .ok (.getfield 17, 3) := by decide +kernel
theorem dX7_violatedIn_9 : decode cX7_violatedIn 9 = .ok (.iconst 1, 1) := by decide +kernel
theorem dX7_violatedIn_10 : decode cX7_violatedIn 10 = .ok (.iaload, 1) := by decide +kernel
theorem dX7_violatedIn_11 : decode cX7_violatedIn 11 = .ok (.if_icmp .ge 26, 3) := by decide +kernel
theorem dX7_violatedIn_14 : decode cX7_violatedIn 14 = .ok (.iload_n 2, 1) := by decide +kernel
theorem dX7_violatedIn_15 : decode cX7_violatedIn 15 = .ok (.aload_n 0, 1) := by decide +kernel
theorem dX7_violatedIn_16 : decode cX7_violatedIn 16 = .ok (.iload_n 3, 1) := by decide +kernel
theorem dX7_violatedIn_17 : decode cX7_violatedIn 17 = .ok (.iload_n 1, 1) := by decide +kernel
theorem dX7_violatedIn_18 : decode cX7_violatedIn 18 = .ok (.invokevirtual 238, 3) := by decide +kernel
theorem dX7_violatedIn_21 : decode cX7_violatedIn 21 = .ok (.ifCond .eq 7, 3) := by decide +kernel
theorem dX7_violatedIn_24 : decode cX7_violatedIn 24 = .ok (.iconst 1, 1) := by decide +kernel
theorem dX7_violatedIn_25 : decode cX7_violatedIn 25 = .ok (.goto 4, 3) := by decide +kernel
theorem dX7_violatedIn_28 : decode cX7_violatedIn 28 = .ok (.iconst 0, 1) := by decide +kernel
theorem dX7_violatedIn_29 : decode cX7_violatedIn 29 = .ok (.iadd, 1) := by decide +kernel
theorem dX7_violatedIn_30 : decode cX7_violatedIn 30 = .ok (.istore_n 2, 1) := by decide +kernel
theorem dX7_violatedIn_31 : decode cX7_violatedIn 31 = .ok (.iinc 3 1, 3) := by decide +kernel
theorem dX7_violatedIn_34 : decode cX7_violatedIn 34 = .ok (.goto (-30), 3) := by decide +kernel
theorem dX7_violatedIn_37 : decode cX7_violatedIn 37 = .ok (.iload_n 2, 1) := by decide +kernel
theorem dX7_violatedIn_38 : decode cX7_violatedIn 38 = .ok (.ireturn, 1) := by decide +kernel
theorem dX7_mends_0 : decode cX7_mends 0 = .ok (.aload_n 0, 1) := by decide +kernel
theorem dX7_mends_1 : decode cX7_mends 1 = .ok (.getfield 17, 3) := by decide +kernel
theorem dX7_mends_4 : decode cX7_mends 4 = .ok (.iload_n 3, 1) := by decide +kernel
theorem dX7_mends_5 : decode cX7_mends 5 = .ok (.invokestatic 136, 3) := by decide +kernel
theorem dX7_mends_8 : decode cX7_mends 8 = .ok (.iconst 2, 1) := by decide +kernel
theorem dX7_mends_9 : decode cX7_mends 9 = .ok (.iadd, 1) := by decide +kernel
theorem dX7_mends_10 : decode cX7_mends 10 = .ok (.iaload, 1) := by decide +kernel
theorem dX7_mends_11 : decode cX7_mends 11 = .ok (.iconst 1, 1) := by decide +kernel
theorem dX7_mends_12 : decode cX7_mends 12 = .ok (.if_icmp .ne 5, 3) := by decide +kernel
theorem dX7_mends_15 : decode cX7_mends 15 = .ok (.iconst 0, 1) := by decide +kernel
theorem dX7_mends_16 : decode cX7_mends 16 = .ok (.ireturn, 1) := by decide +kernel
theorem dX7_mends_17 : decode cX7_mends 17 = .ok (.iload_n 3, 1) := by decide +kernel
theorem dX7_mends_18 : decode cX7_mends 18 = .ok (.invokestatic 136, 3) := by decide +kernel
theorem dX7_mends_21 : decode cX7_mends 21 = .ok (.iload_n 2, 1) := by decide +kernel
theorem dX7_mends_22 : decode cX7_mends 22 = .ok (.iadd, 1) := by decide +kernel
theorem dX7_mends_23 : decode cX7_mends 23 = .ok (.istore 6, 2) := by decide +kernel
theorem dX7_mends_25 : decode cX7_mends 25 = .ok (.aload_n 0, 1) := by decide +kernel
theorem dX7_mends_26 : decode cX7_mends 26 = .ok (.getfield 17, 3) := by decide +kernel
theorem dX7_mends_29 : decode cX7_mends 29 = .ok (.iload 6, 2) := by decide +kernel
theorem dX7_mends_31 : decode cX7_mends 31 = .ok (.iaload, 1) := by decide +kernel
theorem dX7_mends_32 : decode cX7_mends 32 = .ok (.istore 7, 2) := by decide +kernel
theorem dX7_mends_34 : decode cX7_mends 34 = .ok (.aload_n 0, 1) := by decide +kernel
theorem dX7_mends_35 : decode cX7_mends 35 = .ok (.getfield 17, 3) := by decide +kernel
theorem dX7_mends_38 : decode cX7_mends 38 = .ok (.iload 6, 2) := by decide +kernel
theorem dX7_mends_40 : decode cX7_mends 40 = .ok (.iload 7, 2) := by decide +kernel
theorem dX7_mends_42 : decode cX7_mends 42 = .ok (.iload 4, 2) := by decide +kernel
theorem dX7_mends_44 : decode cX7_mends 44 = .ok (.invokestatic 242, 3) := by decide +kernel
theorem dX7_mends_47 : decode cX7_mends 47 = .ok (.iastore, 1) := by decide +kernel
theorem dX7_mends_48 : decode cX7_mends 48 = .ok (.aload_n 0, 1) := by decide +kernel
theorem dX7_mends_49 : decode cX7_mends 49 = .ok (.iload_n 1, 1) := by decide +kernel
theorem dX7_mends_50 : decode cX7_mends 50 = .ok (.iload_n 2, 1) := by decide +kernel
theorem dX7_mends_51 : decode cX7_mends 51 = .ok (.invokevirtual 238, 3) := by decide +kernel
theorem dX7_mends_54 : decode cX7_mends 54 = .ok (.ifCond .ne 17, 3) := by decide +kernel
theorem dX7_mends_57 : decode cX7_mends 57 = .ok (.aload_n 0, 1) := by decide +kernel
theorem dX7_mends_58 : decode cX7_mends 58 = .ok (.iload_n 2, 1) := by decide +kernel
theorem dX7_mends_59 : decode cX7_mends 59 = .ok (.invokevirtual 245, 3) := by decide +kernel
theorem dX7_mends_62 : decode cX7_mends 62 = .ok (.iload 5, 2) := by decide +kernel
theorem dX7_mends_64 : decode cX7_mends 64 = .ok (.if_icmp .ge 7, 3) := by decide +kernel
theorem dX7_mends_67 : decode cX7_mends 67 = .ok (.iconst 1, 1) := by decide +kernel
theorem dX7_mends_68 : decode cX7_mends 68 = .ok (.goto 4, 3) := by decide +kernel
theorem dX7_mends_71 : decode cX7_mends 71 = .ok (.iconst 0, 1) := by decide +kernel
theorem dX7_mends_72 : decode cX7_mends 72 = .ok (.istore 8, 2) := by decide +kernel
theorem dX7_mends_74 : decode cX7_mends 74 = .ok (.aload_n 0, 1) := by decide +kernel
theorem dX7_mends_75 : decode cX7_mends 75 = .ok (.getfield 17, 3) := by decide +kernel
theorem dX7_mends_78 : decode cX7_mends 78 = .ok (.iload 6, 2) := by decide +kernel
theorem dX7_mends_80 : decode cX7_mends 80 = .ok (.iload 7, 2) := by decide +kernel
theorem dX7_mends_82 : decode cX7_mends 82 = .ok (.iastore, 1) := by decide +kernel
theorem dX7_mends_83 : decode cX7_mends 83 = .ok (.iload 8, 2) := by decide +kernel
theorem dX7_mends_85 : decode cX7_mends 85 = .ok (.ifCond .eq 14, 3) := by decide +kernel
theorem dX7_mends_88 : decode cX7_mends 88 = .ok (.aload_n 0, 1) := by decide +kernel
theorem dX7_mends_89 : decode cX7_mends 89 = .ok (.iload 4, 2) := by decide +kernel
theorem dX7_mends_91 : decode cX7_mends 91 = .ok (.putfield 248, 3) := by decide +kernel
theorem dX7_mends_94 : decode cX7_mends 94 = .ok (.aload_n 0, 1) := by decide +kernel
theorem dX7_mends_95 : decode cX7_mends 95 = .ok (.iload_n 3, 1) := by decide +kernel
theorem dX7_mends_96 : decode cX7_mends 96 = .ok (.putfield 251, 3) := by decide +kernel
theorem dX7_mends_99 : decode cX7_mends 99 = .ok (.iload 8, 2) := by decide +kernel
theorem dX7_mends_101 : decode cX7_mends 101 = .ok (.ireturn, 1) := by decide +kernel
theorem dX7_findShift_0 : decode cX7_findShift 0 = .ok (.aload_n 0, 1) := by decide +kernel
theorem dX7_findShift_1 : decode cX7_findShift 1 = .ok (.getfield 17, 3) := by decide +kernel
theorem dX7_findShift_4 : decode cX7_findShift 4 = .ok (.iload_n 1, 1) := by decide +kernel
theorem dX7_findShift_5 : decode cX7_findShift 5 = .ok (.invokestatic 139, 3) := by decide +kernel
theorem dX7_findShift_8 : decode cX7_findShift 8 = .ok (.iconst 1, 1) := by decide +kernel
theorem dX7_findShift_9 : decode cX7_findShift 9 = .ok (.iadd, 1) := by decide +kernel
theorem dX7_findShift_10 : decode cX7_findShift 10 = .ok (.iaload, 1) := by decide +kernel
theorem dX7_findShift_11 : decode cX7_findShift 11 = .ok (.istore_n 3, 1) := by decide +kernel
theorem dX7_findShift_12 : decode cX7_findShift 12 = .ok (.aload_n 0, 1) := by decide +kernel
theorem dX7_findShift_13 : decode cX7_findShift 13 = .ok (.getfield 17, 3) := by decide +kernel
theorem dX7_findShift_16 : decode cX7_findShift 16 = .ok (.iload_n 1, 1) := by decide +kernel
theorem dX7_findShift_17 : decode cX7_findShift 17 = .ok (.invokestatic 139, 3) := by decide +kernel
theorem dX7_findShift_20 : decode cX7_findShift 20 = .ok (.iconst 2, 1) := by decide +kernel
theorem dX7_findShift_21 : decode cX7_findShift 21 = .ok (.iadd, 1) := by decide +kernel
theorem dX7_findShift_22 : decode cX7_findShift 22 = .ok (.iaload, 1) := by decide +kernel
theorem dX7_findShift_23 : decode cX7_findShift 23 = .ok (.istore 4, 2) := by decide +kernel
theorem dX7_findShift_25 : decode cX7_findShift 25 = .ok (.aload_n 0, 1) := by decide +kernel
theorem dX7_findShift_26 : decode cX7_findShift 26 = .ok (.iload_n 2, 1) := by decide +kernel
theorem dX7_findShift_27 : decode cX7_findShift 27 = .ok (.invokevirtual 245, 3) := by decide +kernel
theorem dX7_findShift_30 : decode cX7_findShift 30 = .ok (.istore 5, 2) := by decide +kernel
theorem dX7_findShift_32 : decode cX7_findShift 32 = .ok (.iconst 1, 1) := by decide +kernel
theorem dX7_findShift_33 : decode cX7_findShift 33 = .ok (.istore 6, 2) := by decide +kernel
theorem dX7_findShift_35 : decode cX7_findShift 35 = .ok (.iload 6, 2) := by decide +kernel
theorem dX7_findShift_37 : decode cX7_findShift 37 = .ok (.sipush 255, 3) := by decide +kernel
theorem dX7_findShift_40 : decode cX7_findShift 40 = .ok (.if_icmp .gt 73, 3) := by decide +kernel
theorem dX7_findShift_43 : decode cX7_findShift 43 = .ok (.aload_n 0, 1) := by decide +kernel
theorem dX7_findShift_44 : decode cX7_findShift 44 = .ok (.iload_n 1, 1) := by decide +kernel
theorem dX7_findShift_45 : decode cX7_findShift 45 = .ok (.iload_n 2, 1) := by decide +kernel
theorem dX7_findShift_46 : decode cX7_findShift 46 = .ok (.iload_n 3, 1) := by decide +kernel
theorem dX7_findShift_47 : decode cX7_findShift 47 = .ok (.iload 6, 2) := by decide +kernel
theorem dX7_findShift_49 : decode cX7_findShift 49 = .ok (.iload 5, 2) := by decide +kernel
theorem dX7_findShift_51 : decode cX7_findShift 51 = .ok (.invokevirtual 254, 3) := by decide +kernel
theorem dX7_findShift_54 : decode cX7_findShift 54 = .ok (.ifCond .ne 18, 3) := by decide +kernel
theorem dX7_findShift_57 : decode cX7_findShift 57 = .ok (.aload_n 0, 1) := by decide +kernel
theorem dX7_findShift_58 : decode cX7_findShift 58 = .ok (.iload_n 1, 1) := by decide +kernel
theorem dX7_findShift_59 : decode cX7_findShift 59 = .ok (.iload_n 2, 1) := by decide +kernel
theorem dX7_findShift_60 : decode cX7_findShift 60 = .ok (.iload 4, 2) := by decide +kernel
theorem dX7_findShift_62 : decode cX7_findShift 62 = .ok (.iload 6, 2) := by decide +kernel
theorem dX7_findShift_64 : decode cX7_findShift 64 = .ok (.iload 5, 2) := by decide +kernel
theorem dX7_findShift_66 : decode cX7_findShift 66 = .ok (.invokevirtual 254, 3) := by decide +kernel
theorem dX7_findShift_69 : decode cX7_findShift 69 = .ok (.ifCond .eq 5, 3) := by decide +kernel
theorem dX7_findShift_72 : decode cX7_findShift 72 = .ok (.iconst 1, 1) := by decide +kernel
theorem dX7_findShift_73 : decode cX7_findShift 73 = .ok (.ireturn, 1) := by decide +kernel
theorem dX7_findShift_74 : decode cX7_findShift 74 = .ok (.aload_n 0, 1) := by decide +kernel
theorem dX7_findShift_75 : decode cX7_findShift 75 = .ok (.iload_n 1, 1) := by decide +kernel
theorem dX7_findShift_76 : decode cX7_findShift 76 = .ok (.iload_n 2, 1) := by decide +kernel
theorem dX7_findShift_77 : decode cX7_findShift 77 = .ok (.iload_n 3, 1) := by decide +kernel
theorem dX7_findShift_78 : decode cX7_findShift 78 = .ok (.iload 6, 2) := by decide +kernel
theorem dX7_findShift_80 : decode cX7_findShift 80 = .ok (.ineg, 1) := by decide +kernel
theorem dX7_findShift_81 : decode cX7_findShift 81 = .ok (.iload 5, 2) := by decide +kernel
theorem dX7_findShift_83 : decode cX7_findShift 83 = .ok (.invokevirtual 254, 3) := by decide +kernel
theorem dX7_findShift_86 : decode cX7_findShift 86 = .ok (.ifCond .ne 19, 3) := by decide +kernel
theorem dX7_findShift_89 : decode cX7_findShift 89 = .ok (.aload_n 0, 1) := by decide +kernel
theorem dX7_findShift_90 : decode cX7_findShift 90 = .ok (.iload_n 1, 1) := by decide +kernel
theorem dX7_findShift_91 : decode cX7_findShift 91 = .ok (.iload_n 2, 1) := by decide +kernel
theorem dX7_findShift_92 : decode cX7_findShift 92 = .ok (.iload 4, 2) := by decide +kernel
theorem dX7_findShift_94 : decode cX7_findShift 94 = .ok (.iload 6, 2) := by decide +kernel
theorem dX7_findShift_96 : decode cX7_findShift 96 = .ok (.ineg, 1) := by decide +kernel
theorem dX7_findShift_97 : decode cX7_findShift 97 = .ok (.iload 5, 2) := by decide +kernel
theorem dX7_findShift_99 : decode cX7_findShift 99 = .ok (.invokevirtual 254, 3) := by decide +kernel
theorem dX7_findShift_102 : decode cX7_findShift 102 = .ok (.ifCond .eq 5, 3) := by decide +kernel
theorem dX7_findShift_105 : decode cX7_findShift 105 = .ok (.iconst 1, 1) := by decide +kernel
theorem dX7_findShift_106 : decode cX7_findShift 106 = .ok (.ireturn, 1) := by decide +kernel
theorem dX7_findShift_107 : decode cX7_findShift 107 = .ok (.iinc 6 1, 3) := by decide +kernel
theorem dX7_findShift_110 : decode cX7_findShift 110 = .ok (.goto (-75), 3) := by decide +kernel
theorem dX7_findShift_113 : decode cX7_findShift 113 = .ok (.iconst 0, 1) := by decide +kernel
theorem dX7_findShift_114 : decode cX7_findShift 114 = .ok (.ireturn, 1) := by decide +kernel
theorem dX7_findAny_0 : decode cX7_findAny 0 = .ok (.iconst 0, 1) := by decide +kernel
theorem dX7_findAny_1 : decode cX7_findAny 1 = .ok (.istore_n 1, 1) := by decide +kernel
theorem dX7_findAny_2 : decode cX7_findAny 2 = .ok (.iload_n 1, 1) := by decide +kernel
theorem dX7_findAny_3 : decode cX7_findAny 3 = .ok (.iconst 2, 1) := by decide +kernel
theorem dX7_findAny_4 : decode cX7_findAny 4 = .ok (.aload_n 0, 1) := by decide +kernel
theorem dX7_findAny_5 : decode cX7_findAny 5 = .ok (.getfield 17, 3) := by decide +kernel
theorem dX7_findAny_8 : decode cX7_findAny 8 = .ok (.iconst 1, 1) := by decide +kernel
theorem dX7_findAny_9 : decode cX7_findAny 9 = .ok (.iaload, 1) := by decide +kernel
theorem dX7_findAny_10 : decode cX7_findAny 10 = .ok (.imul, 1) := by decide +kernel
theorem dX7_findAny_11 : decode cX7_findAny 11 = .ok (.if_icmp .ge 44, 3) := by decide +kernel
theorem dX7_findAny_14 : decode cX7_findAny 14 = .ok (.aload_n 0, 1) := by decide +kernel
theorem dX7_findAny_15 : decode cX7_findAny 15 = .ok (.iload_n 1, 1) := by decide +kernel
theorem dX7_findAny_16 : decode cX7_findAny 16 = .ok (.iconst 2, 1) := by decide +kernel
theorem dX7_findAny_17 : decode cX7_findAny 17 = .ok (.irem, 1) := by decide +kernel
theorem dX7_findAny_18 : decode cX7_findAny 18 = .ok (.putfield 258, 3) := by decide +kernel
theorem dX7_findAny_21 : decode cX7_findAny 21 = .ok (.aload_n 0, 1) := by decide +kernel
theorem dX7_findAny_22 : decode cX7_findAny 22 = .ok (.iload_n 1, 1) := by decide +kernel
theorem dX7_findAny_23 : decode cX7_findAny 23 = .ok (.iconst 2, 1) := by decide +kernel
theorem dX7_findAny_24 : decode cX7_findAny 24 = .ok (.idiv, 1) := by decide +kernel
theorem dX7_findAny_25 : decode cX7_findAny 25 = .ok (.iload_n 1, 1) := by decide +kernel
theorem dX7_findAny_26 : decode cX7_findAny 26 = .ok (.iconst 2, 1) := by decide +kernel
theorem dX7_findAny_27 : decode cX7_findAny 27 = .ok (.irem, 1) := by decide +kernel
theorem dX7_findAny_28 : decode cX7_findAny 28 = .ok (.invokevirtual 238, 3) := by decide +kernel
theorem dX7_findAny_31 : decode cX7_findAny 31 = .ok (.ifCond .eq 18, 3) := by decide +kernel
theorem dX7_findAny_34 : decode cX7_findAny 34 = .ok (.aload_n 0, 1) := by decide +kernel
theorem dX7_findAny_35 : decode cX7_findAny 35 = .ok (.iload_n 1, 1) := by decide +kernel
theorem dX7_findAny_36 : decode cX7_findAny 36 = .ok (.iconst 2, 1) := by decide +kernel
theorem dX7_findAny_37 : decode cX7_findAny 37 = .ok (.idiv, 1) := by decide +kernel
theorem dX7_findAny_38 : decode cX7_findAny 38 = .ok (.iload_n 1, 1) := by decide +kernel
theorem dX7_findAny_39 : decode cX7_findAny 39 = .ok (.iconst 2, 1) := by decide +kernel
theorem dX7_findAny_40 : decode cX7_findAny 40 = .ok (.irem, 1) := by decide +kernel
theorem dX7_findAny_41 : decode cX7_findAny 41 = .ok (.invokevirtual 261, 3) := by decide +kernel
theorem dX7_findAny_44 : decode cX7_findAny 44 = .ok (.ifCond .eq 5, 3) := by decide +kernel
theorem dX7_findAny_47 : decode cX7_findAny 47 = .ok (.iconst 1, 1) := by decide +kernel
theorem dX7_findAny_48 : decode cX7_findAny 48 = .ok (.ireturn, 1) := by decide +kernel
theorem dX7_findAny_49 : decode cX7_findAny 49 = .ok (.iinc 1 1, 3) := by decide +kernel
theorem dX7_findAny_52 : decode cX7_findAny 52 = .ok (.goto (-50), 3) := by decide +kernel
theorem dX7_findAny_55 : decode cX7_findAny 55 = .ok (.iconst 0, 1) := by decide +kernel
theorem dX7_findAny_56 : decode cX7_findAny 56 = .ok (.ireturn, 1) := by decide +kernel
theorem dX7_noRole_0 : decode cX7_noRole 0 = .ok (.aload_n 0, 1) := by decide +kernel
theorem dX7_noRole_1 : decode cX7_noRole 1 = .ok (.iload_n 1, 1) := by decide +kernel
theorem dX7_noRole_2 : decode cX7_noRole 2 = .ok (.iconst 0, 1) := by decide +kernel
theorem dX7_noRole_3 : decode cX7_noRole 3 = .ok (.aload_n 0, 1) := by decide +kernel
theorem dX7_noRole_4 : decode cX7_noRole 4 = .ok (.getfield 17, 3) := by decide +kernel
theorem dX7_noRole_7 : decode cX7_noRole 7 = .ok (.iconst 0, 1) := by decide +kernel
theorem dX7_noRole_8 : decode cX7_noRole 8 = .ok (.iaload, 1) := by decide +kernel
theorem dX7_noRole_9 : decode cX7_noRole 9 = .ok (.iconst 1, 1) := by decide +kernel
theorem dX7_noRole_10 : decode cX7_noRole 10 = .ok (.isub, 1) := by decide +kernel
theorem dX7_noRole_11 : decode cX7_noRole 11 = .ok (.invokestatic 58, 3) := by decide +kernel
theorem dX7_noRole_14 : decode cX7_noRole 14 = .ok (.ifCond .ne 7, 3) := by decide +kernel
theorem dX7_noRole_17 : decode cX7_noRole 17 = .ok (.iconst 1, 1) := by decide +kernel
theorem dX7_noRole_18 : decode cX7_noRole 18 = .ok (.goto 4, 3) := by decide +kernel
theorem dX7_noRole_21 : decode cX7_noRole 21 = .ok (.iconst 0, 1) := by decide +kernel
theorem dX7_noRole_22 : decode cX7_noRole 22 = .ok (.iconst 1, 1) := by decide +kernel
theorem dX7_noRole_23 : decode cX7_noRole 23 = .ok (.invokevirtual 159, 3) := by decide +kernel
theorem dX7_noRole_26 : decode cX7_noRole 26 = .ok (.ireturn, 1) := by decide +kernel
theorem dX7_noScheme_0 : decode cX7_noScheme 0 = .ok (.aload_n 0, 1) := by decide +kernel
theorem dX7_noScheme_1 : decode cX7_noScheme 1 = .ok (.iload_n 1, 1) := by decide +kernel
theorem dX7_noScheme_2 : decode cX7_noScheme 2 = .ok (.iconst 0, 1) := by decide +kernel
theorem dX7_noScheme_3 : decode cX7_noScheme 3 = .ok (.iconst 1, 1) := by decide +kernel
theorem dX7_noScheme_4 : decode cX7_noScheme 4 = .ok (.invokestatic 58, 3) := by decide +kernel
theorem dX7_noScheme_7 : decode cX7_noScheme 7 = .ok (.ifCond .ne 7, 3) := by decide +kernel
theorem dX7_noScheme_10 : decode cX7_noScheme 10 = .ok (.iconst 1, 1) := by decide +kernel
theorem dX7_noScheme_11 : decode cX7_noScheme 11 = .ok (.goto 4, 3) := by decide +kernel
theorem dX7_noScheme_14 : decode cX7_noScheme 14 = .ok (.iconst 0, 1) := by decide +kernel
theorem dX7_noScheme_15 : decode cX7_noScheme 15 = .ok (.iconst 1, 1) := by decide +kernel
theorem dX7_noScheme_16 : decode cX7_noScheme 16 = .ok (.invokevirtual 159, 3) := by decide +kernel
theorem dX7_noScheme_19 : decode cX7_noScheme 19 = .ok (.ireturn, 1) := by decide +kernel
theorem dX7_noRule_0 : decode cX7_noRule 0 = .ok (.aload_n 0, 1) := by decide +kernel
theorem dX7_noRule_1 : decode cX7_noRule 1 = .ok (.iload_n 1, 1) := by decide +kernel
theorem dX7_noRule_2 : decode cX7_noRule 2 = .ok (.iconst 0, 1) := by decide +kernel
theorem dX7_noRule_3 : decode cX7_noRule 3 = .ok (.aload_n 0, 1) := by decide +kernel
theorem dX7_noRule_4 : decode cX7_noRule 4 = .ok (.getfield 17, 3) := by decide +kernel
theorem dX7_noRule_7 : decode cX7_noRule 7 = .ok (.iconst 1, 1) := by decide +kernel
theorem dX7_noRule_8 : decode cX7_noRule 8 = .ok (.iaload, 1) := by decide +kernel
theorem dX7_noRule_9 : decode cX7_noRule 9 = .ok (.iconst 1, 1) := by decide +kernel
theorem dX7_noRule_10 : decode cX7_noRule 10 = .ok (.isub, 1) := by decide +kernel
theorem dX7_noRule_11 : decode cX7_noRule 11 = .ok (.invokestatic 58, 3) := by decide +kernel
theorem dX7_noRule_14 : decode cX7_noRule 14 = .ok (.ifCond .ne 7, 3) := by decide +kernel
theorem dX7_noRule_17 : decode cX7_noRule 17 = .ok (.iconst 1, 1) := by decide +kernel
theorem dX7_noRule_18 : decode cX7_noRule 18 = .ok (.goto 4, 3) := by decide +kernel
theorem dX7_noRule_21 : decode cX7_noRule 21 = .ok (.iconst 0, 1) := by decide +kernel
theorem dX7_noRule_22 : decode cX7_noRule 22 = .ok (.iconst 1, 1) := by decide +kernel
theorem dX7_noRule_23 : decode cX7_noRule 23 = .ok (.invokevirtual 159, 3) := by decide +kernel
theorem dX7_noRule_26 : decode cX7_noRule 26 = .ok (.ifCond .ne 11, 3) := by decide +kernel
theorem dX7_noRule_29 : decode cX7_noRule 29 = .ok (.aload_n 0, 1) := by decide +kernel
theorem dX7_noRule_30 : decode cX7_noRule 30 = .ok (.iload_n 2, 1) := by decide +kernel
theorem dX7_noRule_31 : decode cX7_noRule 31 = .ok (.invokevirtual 264, 3) := by decide +kernel
theorem dX7_noRule_34 : decode cX7_noRule 34 = .ok (.ifCond .eq 7, 3) := by decide +kernel
theorem dX7_noRule_37 : decode cX7_noRule 37 = .ok (.iconst 1, 1) := by decide +kernel
theorem dX7_noRule_38 : decode cX7_noRule 38 = .ok (.goto 4, 3) := by decide +kernel
theorem dX7_noRule_41 : decode cX7_noRule 41 = .ok (.iconst 0, 1) := by decide +kernel
theorem dX7_noRule_42 : decode cX7_noRule 42 = .ok (.ireturn, 1) := by decide +kernel
theorem dX7_roleCount_0 : decode cX7_roleCount 0 = .ok (.aload_n 0, 1) := by decide +kernel
theorem dX7_roleCount_1 : decode cX7_roleCount 1 = .ok (.iconst 0, 1) := by decide +kernel
theorem dX7_roleCount_2 : decode cX7_roleCount 2 = .ok (.putfield 35, 3) := by decide +kernel
theorem dX7_roleCount_5 : decode cX7_roleCount 5 = .ok (.aload_n 0, 1) := by decide +kernel
theorem dX7_roleCount_6 : decode cX7_roleCount 6 = .ok (.getfield 17, 3) := by decide +kernel
theorem dX7_roleCount_9 : decode cX7_roleCount 9 = .ok (.iconst 0, 1) := by decide +kernel
theorem dX7_roleCount_10 : decode cX7_roleCount 10 = .ok (.iaload, 1) := by decide +kernel
theorem dX7_roleCount_11 : decode cX7_roleCount 11 = .ok (.ireturn, 1) := by decide +kernel
theorem dX7_ruleCount_0 : decode cX7_ruleCount 0 = .ok (.aload_n 0, 1) := by decide +kernel
theorem dX7_ruleCount_1 : decode cX7_ruleCount 1 = .ok (.iconst 0, 1) := by decide +kernel
theorem dX7_ruleCount_2 : decode cX7_ruleCount 2 = .ok (.putfield 35, 3) := by decide +kernel
theorem dX7_ruleCount_5 : decode cX7_ruleCount 5 = .ok (.aload_n 0, 1) := by decide +kernel
theorem dX7_ruleCount_6 : decode cX7_ruleCount 6 = .ok (.getfield 17, 3) := by decide +kernel
theorem dX7_ruleCount_9 : decode cX7_ruleCount 9 = .ok (.iconst 1, 1) := by decide +kernel
theorem dX7_ruleCount_10 : decode cX7_ruleCount 10 = .ok (.iaload, 1) := by decide +kernel
theorem dX7_ruleCount_11 : decode cX7_ruleCount 11 = .ok (.ireturn, 1) := by decide +kernel
theorem dX7_colour_0 : decode cX7_colour 0 = .ok (.aload_n 0, 1) := by decide +kernel
theorem dX7_colour_1 : decode cX7_colour 1 = .ok (.iconst 0, 1) := by decide +kernel
theorem dX7_colour_2 : decode cX7_colour 2 = .ok (.putfield 35, 3) := by decide +kernel
theorem dX7_colour_5 : decode cX7_colour 5 = .ok (.aload_n 0, 1) := by decide +kernel
theorem dX7_colour_6 : decode cX7_colour 6 = .ok (.iload_n 1, 1) := by decide +kernel
theorem dX7_colour_7 : decode cX7_colour 7 = .ok (.invokevirtual 267, 3) := by decide +kernel
theorem dX7_colour_10 : decode cX7_colour 10 = .ok (.ifCond .ne 11, 3) := by decide +kernel
theorem dX7_colour_13 : decode cX7_colour 13 = .ok (.aload_n 0, 1) := by decide +kernel
theorem dX7_colour_14 : decode cX7_colour 14 = .ok (.iload_n 2, 1) := by decide +kernel
theorem dX7_colour_15 : decode cX7_colour 15 = .ok (.invokevirtual 264, 3) := by decide +kernel
theorem dX7_colour_18 : decode cX7_colour 18 = .ok (.ifCond .eq 7, 3) := by decide +kernel
theorem dX7_colour_21 : decode cX7_colour 21 = .ok (.iconst 0, 1) := by decide +kernel
theorem dX7_colour_22 : decode cX7_colour 22 = .ok (.goto 9, 3) := by decide +kernel
theorem dX7_colour_25 : decode cX7_colour 25 = .ok (.aload_n 0, 1) := by decide +kernel
theorem dX7_colour_26 : decode cX7_colour 26 = .ok (.iload_n 1, 1) := by decide +kernel
theorem dX7_colour_27 : decode cX7_colour 27 = .ok (.iload_n 2, 1) := by decide +kernel
theorem dX7_colour_28 : decode cX7_colour 28 = .ok (.invokevirtual 220, 3) := by decide +kernel
theorem dX7_colour_31 : decode cX7_colour 31 = .ok (.ireturn, 1) := by decide +kernel
theorem dX7_isFixed_0 : decode cX7_isFixed 0 = .ok (.aload_n 0, 1) := by decide +kernel
theorem dX7_isFixed_1 : decode cX7_isFixed 1 = .ok (.iconst 0, 1) := by decide +kernel
theorem dX7_isFixed_2 : decode cX7_isFixed 2 = .ok (.putfield 35, 3) := by decide +kernel
theorem dX7_isFixed_5 : decode cX7_isFixed 5 = .ok (.aload_n 0, 1) := by decide +kernel
theorem dX7_isFixed_6 : decode cX7_isFixed 6 = .ok (.iload_n 1, 1) := by decide +kernel
theorem dX7_isFixed_7 : decode cX7_isFixed 7 = .ok (.invokevirtual 267, 3) := by decide +kernel
theorem dX7_isFixed_10 : decode cX7_isFixed 10 = .ok (.ifCond .ne 22, 3) := by decide +kernel
theorem dX7_isFixed_13 : decode cX7_isFixed 13 = .ok (.aload_n 0, 1) := by decide +kernel
theorem dX7_isFixed_14 : decode cX7_isFixed 14 = .ok (.getfield 17, 3) := by decide +kernel
theorem dX7_isFixed_17 : decode cX7_isFixed 17 = .ok (.iload_n 1, 1) := by decide +kernel
theorem dX7_isFixed_18 : decode cX7_isFixed 18 = .ok (.invokestatic 136, 3) := by decide +kernel
theorem dX7_isFixed_21 : decode cX7_isFixed 21 = .ok (.iconst 2, 1) := by decide +kernel
theorem dX7_isFixed_22 : decode cX7_isFixed 22 = .ok (.iadd, 1) := by decide +kernel
theorem dX7_isFixed_23 : decode cX7_isFixed 23 = .ok (.iaload, 1) := by decide +kernel
theorem dX7_isFixed_24 : decode cX7_isFixed 24 = .ok (.iconst 1, 1) := by decide +kernel
theorem dX7_isFixed_25 : decode cX7_isFixed 25 = .ok (.if_icmp .ne 7, 3) := by decide +kernel
theorem dX7_isFixed_28 : decode cX7_isFixed 28 = .ok (.iconst 1, 1) := by decide +kernel
theorem dX7_isFixed_29 : decode cX7_isFixed 29 = .ok (.goto 4, 3) := by decide +kernel
theorem dX7_isFixed_32 : decode cX7_isFixed 32 = .ok (.iconst 0, 1) := by decide +kernel
theorem dX7_isFixed_33 : decode cX7_isFixed 33 = .ok (.ireturn, 1) := by decide +kernel
theorem dX7_luminance_0 : decode cX7_luminance 0 = .ok (.aload_n 0, 1) := by decide +kernel
theorem dX7_luminance_1 : decode cX7_luminance 1 = .ok (.iconst 0, 1) := by decide +kernel
theorem dX7_luminance_2 : decode cX7_luminance 2 = .ok (.putfield 35, 3) := by decide +kernel
theorem dX7_luminance_5 : decode cX7_luminance 5 = .ok (.aload_n 0, 1) := by decide +kernel
theorem dX7_luminance_6 : decode cX7_luminance 6 = .ok (.iload_n 1, 1) := by decide +kernel
theorem dX7_luminance_7 : decode cX7_luminance 7 = .ok (.invokevirtual 267, 3) := by decide +kernel
theorem dX7_luminance_10 : decode cX7_luminance 10 = .ok (.ifCond .ne 11, 3) := by decide +kernel
theorem dX7_luminance_13 : decode cX7_luminance 13 = .ok (.aload_n 0, 1) := by decide +kernel
theorem dX7_luminance_14 : decode cX7_luminance 14 = .ok (.iload_n 2, 1) := by decide +kernel
theorem dX7_luminance_15 : decode cX7_luminance 15 = .ok (.invokevirtual 264, 3) := by decide +kernel
theorem dX7_luminance_18 : decode cX7_luminance 18 = .ok (.ifCond .eq 7, 3) := by decide +kernel
theorem dX7_luminance_21 : decode cX7_luminance 21 = .ok (.iconst 0, 1) := by decide +kernel
theorem dX7_luminance_22 : decode cX7_luminance 22 = .ok (.goto 12, 3) := by decide +kernel
theorem dX7_luminance_25 : decode cX7_luminance 25 = .ok (.aload_n 0, 1) := by decide +kernel
theorem dX7_luminance_26 : decode cX7_luminance 26 = .ok (.iload_n 1, 1) := by decide +kernel
theorem dX7_luminance_27 : decode cX7_luminance 27 = .ok (.iload_n 2, 1) := by decide +kernel
theorem dX7_luminance_28 : decode cX7_luminance 28 = .ok (.invokevirtual 220, 3) := by decide +kernel
theorem dX7_luminance_31 : decode cX7_luminance 31 = .ok (.invokestatic 185, 3) := by decide +kernel
theorem dX7_luminance_34 : decode cX7_luminance 34 = .ok (.ireturn, 1) := by decide +kernel
theorem dX7_contrast_0 : decode cX7_contrast 0 = .ok (.aload_n 0, 1) := by decide +kernel
theorem dX7_contrast_1 : decode cX7_contrast 1 = .ok (.iconst 0, 1) := by decide +kernel
theorem dX7_contrast_2 : decode cX7_contrast 2 = .ok (.putfield 35, 3) := by decide +kernel
theorem dX7_contrast_5 : decode cX7_contrast 5 = .ok (.aload_n 0, 1) := by decide +kernel
theorem dX7_contrast_6 : decode cX7_contrast 6 = .ok (.iload_n 1, 1) := by decide +kernel
theorem dX7_contrast_7 : decode cX7_contrast 7 = .ok (.invokevirtual 267, 3) := by decide +kernel
theorem dX7_contrast_10 : decode cX7_contrast 10 = .ok (.ifCond .ne 19, 3) := by decide +kernel
theorem dX7_contrast_13 : decode cX7_contrast 13 = .ok (.aload_n 0, 1) := by decide +kernel
theorem dX7_contrast_14 : decode cX7_contrast 14 = .ok (.iload_n 2, 1) := by decide +kernel
theorem dX7_contrast_15 : decode cX7_contrast 15 = .ok (.invokevirtual 267, 3) := by decide +kernel
theorem dX7_contrast_18 : decode cX7_contrast 18 = .ok (.ifCond .ne 11, 3) := by decide +kernel
theorem dX7_contrast_21 : decode cX7_contrast 21 = .ok (.aload_n 0, 1) := by decide +kernel
theorem dX7_contrast_22 : decode cX7_contrast 22 = .ok (.iload_n 3, 1) := by decide +kernel
theorem dX7_contrast_23 : decode cX7_contrast 23 = .ok (.invokevirtual 264, 3) := by decide +kernel
theorem dX7_contrast_26 : decode cX7_contrast 26 = .ok (.ifCond .eq 7, 3) := by decide +kernel
theorem dX7_contrast_29 : decode cX7_contrast 29 = .ok (.iconst 0, 1) := by decide +kernel
theorem dX7_contrast_30 : decode cX7_contrast 30 = .ok (.goto 18, 3) := by decide +kernel
theorem dX7_contrast_33 : decode cX7_contrast 33 = .ok (.aload_n 0, 1) := by decide +kernel
theorem dX7_contrast_34 : decode cX7_contrast 34 = .ok (.iload_n 1, 1) := by decide +kernel
