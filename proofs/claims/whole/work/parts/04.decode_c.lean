theorem dX7_contrast_35 : decode cX7_contrast 35 = .ok (.iload_n 3, 1) := by decide +kernel
theorem dX7_contrast_36 : decode cX7_contrast 36 = .ok (.invokevirtual 220, 3) := by decide +kernel
theorem dX7_contrast_39 : decode cX7_contrast 39 = .ok (.aload_n 0, 1) := by decide +kernel
theorem dX7_contrast_40 : decode cX7_contrast 40 = .ok (.iload_n 2, 1) := by decide +kernel
theorem dX7_contrast_41 : decode cX7_contrast 41 = .ok (.iload_n 3, 1) := by decide +kernel
theorem dX7_contrast_42 : decode cX7_contrast 42 = .ok (.invokevirtual 220, 3) := by decide +kernel
theorem dX7_contrast_45 : decode cX7_contrast 45 = .ok (.invokestatic 223, 3) := by decide +kernel
theorem dX7_contrast_48 : decode cX7_contrast 48 = .ok (.ireturn, 1) := by decide +kernel
theorem dX7_noSight_0 : decode cX7_noSight 0 = .ok (.aload_n 0, 1) := by decide +kernel
theorem dX7_noSight_1 : decode cX7_noSight 1 = .ok (.iload_n 1, 1) := by decide +kernel
theorem dX7_noSight_2 : decode cX7_noSight 2 = .ok (.iconst 0, 1) := by decide +kernel
theorem dX7_noSight_3 : decode cX7_noSight 3 = .ok (.iconst 4, 1) := by decide +kernel
theorem dX7_noSight_4 : decode cX7_noSight 4 = .ok (.invokestatic 58, 3) := by decide +kernel
theorem dX7_noSight_7 : decode cX7_noSight 7 = .ok (.ifCond .ne 7, 3) := by decide +kernel
theorem dX7_noSight_10 : decode cX7_noSight 10 = .ok (.iconst 1, 1) := by decide +kernel
theorem dX7_noSight_11 : decode cX7_noSight 11 = .ok (.goto 4, 3) := by decide +kernel
theorem dX7_noSight_14 : decode cX7_noSight 14 = .ok (.iconst 0, 1) := by decide +kernel
theorem dX7_noSight_15 : decode cX7_noSight 15 = .ok (.iconst 2, 1) := by decide +kernel
theorem dX7_noSight_16 : decode cX7_noSight 16 = .ok (.invokevirtual 159, 3) := by decide +kernel
theorem dX7_noSight_19 : decode cX7_noSight 19 = .ok (.ireturn, 1) := by decide +kernel
theorem dX7_seen_0 : decode cX7_seen 0 = .ok (.aload_n 0, 1) := by decide +kernel
theorem dX7_seen_1 : decode cX7_seen 1 = .ok (.iconst 0, 1) := by decide +kernel
theorem dX7_seen_2 : decode cX7_seen 2 = .ok (.putfield 35, 3) := by decide +kernel
theorem dX7_seen_5 : decode cX7_seen 5 = .ok (.aload_n 0, 1) := by decide +kernel
theorem dX7_seen_6 : decode cX7_seen 6 = .ok (.iload_n 1, 1) := by decide +kernel
theorem dX7_seen_7 : decode cX7_seen 7 = .ok (.invokevirtual 267, 3) := by decide +kernel
theorem dX7_seen_10 : decode cX7_seen 10 = .ok (.ifCond .ne 19, 3) := by decide +kernel
theorem dX7_seen_13 : decode cX7_seen 13 = .ok (.aload_n 0, 1) := by decide +kernel
theorem dX7_seen_14 : decode cX7_seen 14 = .ok (.iload_n 2, 1) := by decide +kernel
theorem dX7_seen_15 : decode cX7_seen 15 = .ok (.invokevirtual 264, 3) := by decide +kernel
theorem dX7_seen_18 : decode cX7_seen 18 = .ok (.ifCond .ne 11, 3) := by decide +kernel
theorem dX7_seen_21 : decode cX7_seen 21 = .ok (.aload_n 0, 1) := by decide +kernel
theorem dX7_seen_22 : decode cX7_seen 22 = .ok (.iload_n 3, 1) := by decide +kernel
theorem dX7_seen_23 : decode cX7_seen 23 = .ok (.invokevirtual 270, 3) := by decide +kernel
theorem dX7_seen_26 : decode cX7_seen 26 = .ok (.ifCond .eq 7, 3) := by decide +kernel
theorem dX7_seen_29 : decode cX7_seen 29 = .ok (.iconst 0, 1) := by decide +kernel
theorem dX7_seen_30 : decode cX7_seen 30 = .ok (.goto 13, 3) := by decide +kernel
theorem dX7_seen_33 : decode cX7_seen 33 = .ok (.aload_n 0, 1) := by decide +kernel
theorem dX7_seen_34 : decode cX7_seen 34 = .ok (.iload_n 1, 1) := by decide +kernel
theorem dX7_seen_35 : decode cX7_seen 35 = .ok (.iload_n 2, 1) := by decide +kernel
theorem dX7_seen_36 : decode cX7_seen 36 = .ok (.invokevirtual 220, 3) := by decide +kernel
theorem dX7_seen_39 : decode cX7_seen 39 = .ok (.iload_n 3, 1) := by decide +kernel
theorem dX7_seen_40 : decode cX7_seen 40 = .ok (.invokestatic 226, 3) := by decide +kernel
theorem dX7_seen_43 : decode cX7_seen 43 = .ok (.ireturn, 1) := by decide +kernel
theorem dX7_difference_0 : decode cX7_difference 0 = .ok (.aload_n 0, 1) := by decide +kernel
theorem dX7_difference_1 : decode cX7_difference 1 = .ok (.iconst 0, 1) := by decide +kernel
theorem dX7_difference_2 : decode cX7_difference 2 = .ok (.putfield 35, 3) := by decide +kernel
theorem dX7_difference_5 : decode cX7_difference 5 = .ok (.aload_n 0, 1) := by decide +kernel
theorem dX7_difference_6 : decode cX7_difference 6 = .ok (.iload_n 1, 1) := by decide +kernel
theorem dX7_difference_7 : decode cX7_difference 7 = .ok (.invokevirtual 267, 3) := by decide +kernel
theorem dX7_difference_10 : decode cX7_difference 10 = .ok (.ifCond .ne 28, 3) := by decide +kernel
theorem dX7_difference_13 : decode cX7_difference 13 = .ok (.aload_n 0, 1) := by decide +kernel
theorem dX7_difference_14 : decode cX7_difference 14 = .ok (.iload_n 2, 1) := by decide +kernel
theorem dX7_difference_15 : decode cX7_difference 15 = .ok (.invokevirtual 267, 3) := by decide +kernel
theorem dX7_difference_18 : decode cX7_difference 18 = .ok (.ifCond .ne 20, 3) := by decide +kernel
theorem dX7_difference_21 : decode cX7_difference 21 = .ok (.aload_n 0, 1) := by decide +kernel
theorem dX7_difference_22 : decode cX7_difference 22 = .ok (.iload_n 3, 1) := by decide +kernel
theorem dX7_difference_23 : decode cX7_difference 23 = .ok (.invokevirtual 264, 3) := by decide +kernel
theorem dX7_difference_26 : decode cX7_difference 26 = .ok (.ifCond .ne 12, 3) := by decide +kernel
theorem dX7_difference_29 : decode cX7_difference 29 = .ok (.aload_n 0, 1) := by decide +kernel
theorem dX7_difference_30 : decode cX7_difference 30 = .ok (.iload 4, 2) := by decide +kernel
theorem dX7_difference_32 : decode cX7_difference 32 = .ok (.invokevirtual 270, 3) := by decide +kernel
theorem dX7_difference_35 : decode cX7_difference 35 = .ok (.ifCond .eq 5, 3) := by decide +kernel
theorem dX7_difference_38 : decode cX7_difference 38 = .ok (.iconst 0, 1) := by decide +kernel
theorem dX7_difference_39 : decode cX7_difference 39 = .ok (.ireturn, 1) := by decide +kernel
theorem dX7_difference_40 : decode cX7_difference 40 = .ok (.aload_n 0, 1) := by decide +kernel
theorem dX7_difference_41 : decode cX7_difference 41 = .ok (.iload_n 1, 1) := by decide +kernel
theorem dX7_difference_42 : decode cX7_difference 42 = .ok (.iload_n 3, 1) := by decide +kernel
theorem dX7_difference_43 : decode cX7_difference 43 = .ok (.invokevirtual 220, 3) := by decide +kernel
theorem dX7_difference_46 : decode cX7_difference 46 = .ok (.iload 4, 2) := by decide +kernel
theorem dX7_difference_48 : decode cX7_difference 48 = .ok (.invokestatic 226, 3) := by decide +kernel
theorem dX7_difference_51 : decode cX7_difference 51 = .ok (.aload_n 0, 1) := by decide +kernel
theorem dX7_difference_52 : decode cX7_difference 52 = .ok (.iload_n 2, 1) := by decide +kernel
theorem dX7_difference_53 : decode cX7_difference 53 = .ok (.iload_n 3, 1) := by decide +kernel
theorem dX7_difference_54 : decode cX7_difference 54 = .ok (.invokevirtual 220, 3) := by decide +kernel
theorem dX7_difference_57 : decode cX7_difference 57 = .ok (.iload 4, 2) := by decide +kernel
theorem dX7_difference_59 : decode cX7_difference 59 = .ok (.invokestatic 226, 3) := by decide +kernel
theorem dX7_difference_62 : decode cX7_difference 62 = .ok (.invokestatic 229, 3) := by decide +kernel
theorem dX7_difference_65 : decode cX7_difference 65 = .ok (.ireturn, 1) := by decide +kernel
theorem dX7_noColour_0 : decode cX7_noColour 0 = .ok (.aload_n 0, 1) := by decide +kernel
theorem dX7_noColour_1 : decode cX7_noColour 1 = .ok (.iload_n 1, 1) := by decide +kernel
theorem dX7_noColour_2 : decode cX7_noColour 2 = .ok (.iconst 0, 1) := by decide +kernel
theorem dX7_noColour_3 : decode cX7_noColour 3 = .ok (.ldc_w 273, 3) := by decide +kernel
theorem dX7_noColour_6 : decode cX7_noColour 6 = .ok (.invokestatic 58, 3) := by decide +kernel
theorem dX7_noColour_9 : decode cX7_noColour 9 = .ok (.ifCond .ne 7, 3) := by decide +kernel
theorem dX7_noColour_12 : decode cX7_noColour 12 = .ok (.iconst 1, 1) := by decide +kernel
theorem dX7_noColour_13 : decode cX7_noColour 13 = .ok (.goto 4, 3) := by decide +kernel
theorem dX7_noColour_16 : decode cX7_noColour 16 = .ok (.iconst 0, 1) := by decide +kernel
theorem dX7_noColour_17 : decode cX7_noColour 17 = .ok (.iconst 2, 1) := by decide +kernel
theorem dX7_noColour_18 : decode cX7_noColour 18 = .ok (.invokevirtual 159, 3) := by decide +kernel
theorem dX7_noColour_21 : decode cX7_noColour 21 = .ok (.ireturn, 1) := by decide +kernel
theorem dX7_nearest_0 : decode cX7_nearest 0 = .ok (.aload_n 0, 1) := by decide +kernel
theorem dX7_nearest_1 : decode cX7_nearest 1 = .ok (.iconst 0, 1) := by decide +kernel
theorem dX7_nearest_2 : decode cX7_nearest 2 = .ok (.putfield 35, 3) := by decide +kernel
theorem dX7_nearest_5 : decode cX7_nearest 5 = .ok (.aload_n 0, 1) := by decide +kernel
theorem dX7_nearest_6 : decode cX7_nearest 6 = .ok (.iload_n 2, 1) := by decide +kernel
theorem dX7_nearest_7 : decode cX7_nearest 7 = .ok (.invokevirtual 264, 3) := by decide +kernel
theorem dX7_nearest_10 : decode cX7_nearest 10 = .ok (.ifCond .ne 11, 3) := by decide +kernel
theorem dX7_nearest_13 : decode cX7_nearest 13 = .ok (.aload_n 0, 1) := by decide +kernel
theorem dX7_nearest_14 : decode cX7_nearest 14 = .ok (.iload_n 1, 1) := by decide +kernel
theorem dX7_nearest_15 : decode cX7_nearest 15 = .ok (.invokevirtual 274, 3) := by decide +kernel
theorem dX7_nearest_18 : decode cX7_nearest 18 = .ok (.ifCond .eq 5, 3) := by decide +kernel
theorem dX7_nearest_21 : decode cX7_nearest 21 = .ok (.iconst 0, 1) := by decide +kernel
theorem dX7_nearest_22 : decode cX7_nearest 22 = .ok (.ireturn, 1) := by decide +kernel
theorem dX7_nearest_23 : decode cX7_nearest 23 = .ok (.iconst (-1), 1) := by decide +kernel
theorem dX7_nearest_24 : decode cX7_nearest 24 = .ok (.istore_n 3, 1) := by decide +kernel
theorem dX7_nearest_25 : decode cX7_nearest 25 = .ok (.iconst 0, 1) := by decide +kernel
theorem dX7_nearest_26 : decode cX7_nearest 26 = .ok (.istore 4, 2) := by decide +kernel
theorem dX7_nearest_28 : decode cX7_nearest 28 = .ok (.iconst 0, 1) := by decide +kernel
theorem dX7_nearest_29 : decode cX7_nearest 29 = .ok (.istore 5, 2) := by decide +kernel
theorem dX7_nearest_31 : decode cX7_nearest 31 = .ok (.iload 5, 2) := by decide +kernel
theorem dX7_nearest_33 : decode cX7_nearest 33 = .ok (.aload_n 0, 1) := by decide +kernel
theorem dX7_nearest_34 : decode cX7_nearest 34 = .ok (.getfield 17, 3) := by decide +kernel
theorem dX7_nearest_37 : decode cX7_nearest 37 = .ok (.iconst 0, 1) := by decide +kernel
theorem dX7_nearest_38 : decode cX7_nearest 38 = .ok (.iaload, 1) := by decide +kernel
theorem dX7_nearest_39 : decode cX7_nearest 39 = .ok (.if_icmp .ge 44, 3) := by decide +kernel
theorem dX7_nearest_42 : decode cX7_nearest 42 = .ok (.aload_n 0, 1) := by decide +kernel
theorem dX7_nearest_43 : decode cX7_nearest 43 = .ok (.iload 5, 2) := by decide +kernel
theorem dX7_nearest_45 : decode cX7_nearest 45 = .ok (.iload_n 2, 1) := by decide +kernel
theorem dX7_nearest_46 : decode cX7_nearest 46 = .ok (.invokevirtual 220, 3) := by decide +kernel
theorem dX7_nearest_49 : decode cX7_nearest 49 = .ok (.iload_n 1, 1) := by decide +kernel
theorem dX7_nearest_50 : decode cX7_nearest 50 = .ok (.invokestatic 229, 3) := by decide +kernel
theorem dX7_nearest_53 : decode cX7_nearest 53 = .ok (.istore 6, 2) := by decide +kernel
theorem dX7_nearest_55 : decode cX7_nearest 55 = .ok (.iload_n 3, 1) := by decide +kernel
theorem dX7_nearest_56 : decode cX7_nearest 56 = .ok (.iconst (-1), 1) := by decide +kernel
theorem dX7_nearest_57 : decode cX7_nearest 57 = .ok (.if_icmp .eq 13, 3) := by decide +kernel
theorem dX7_nearest_60 : decode cX7_nearest 60 = .ok (.iload 6, 2) := by decide +kernel
theorem dX7_nearest_62 : decode cX7_nearest 62 = .ok (.iload 4, 2) := by decide +kernel
theorem dX7_nearest_64 : decode cX7_nearest 64 = .ok (.if_icmp .lt 6, 3) := by decide +kernel
theorem dX7_nearest_67 : decode cX7_nearest 67 = .ok (.goto 10, 3) := by decide +kernel
theorem dX7_nearest_70 : decode cX7_nearest 70 = .ok (.iload 5, 2) := by decide +kernel
theorem dX7_nearest_72 : decode cX7_nearest 72 = .ok (.istore_n 3, 1) := by decide +kernel
theorem dX7_nearest_73 : decode cX7_nearest 73 = .ok (.iload 6, 2) := by decide +kernel
theorem dX7_nearest_75 : decode cX7_nearest 75 = .ok (.istore 4, 2) := by decide +kernel
theorem dX7_nearest_77 : decode cX7_nearest 77 = .ok (.iinc 5 1, 3) := by decide +kernel
theorem dX7_nearest_80 : decode cX7_nearest 80 = .ok (.goto (-49), 3) := by decide +kernel
theorem dX7_nearest_83 : decode cX7_nearest 83 = .ok (.iload_n 3, 1) := by decide +kernel
theorem dX7_nearest_84 : decode cX7_nearest 84 = .ok (.ireturn, 1) := by decide +kernel
theorem dX7_need_0 : decode cX7_need 0 = .ok (.aload_n 0, 1) := by decide +kernel
theorem dX7_need_1 : decode cX7_need 1 = .ok (.iconst 0, 1) := by decide +kernel
theorem dX7_need_2 : decode cX7_need 2 = .ok (.putfield 35, 3) := by decide +kernel
theorem dX7_need_5 : decode cX7_need 5 = .ok (.aload_n 0, 1) := by decide +kernel
theorem dX7_need_6 : decode cX7_need 6 = .ok (.iload_n 1, 1) := by decide +kernel
theorem dX7_need_7 : decode cX7_need 7 = .ok (.iload_n 2, 1) := by decide +kernel
theorem dX7_need_8 : decode cX7_need 8 = .ok (.invokevirtual 277, 3) := by decide +kernel
theorem dX7_need_11 : decode cX7_need 11 = .ok (.ifCond .eq 7, 3) := by decide +kernel
theorem dX7_need_14 : decode cX7_need 14 = .ok (.iconst 0, 1) := by decide +kernel
theorem dX7_need_15 : decode cX7_need 15 = .ok (.goto 9, 3) := by decide +kernel
theorem dX7_need_18 : decode cX7_need 18 = .ok (.aload_n 0, 1) := by decide +kernel
theorem dX7_need_19 : decode cX7_need 19 = .ok (.iload_n 1, 1) := by decide +kernel
theorem dX7_need_20 : decode cX7_need 20 = .ok (.iload_n 2, 1) := by decide +kernel
theorem dX7_need_21 : decode cX7_need 21 = .ok (.invokevirtual 235, 3) := by decide +kernel
theorem dX7_need_24 : decode cX7_need 24 = .ok (.ireturn, 1) := by decide +kernel
theorem dX7_value_0 : decode cX7_value 0 = .ok (.aload_n 0, 1) := by decide +kernel
theorem dX7_value_1 : decode cX7_value 1 = .ok (.iconst 0, 1) := by decide +kernel
theorem dX7_value_2 : decode cX7_value 2 = .ok (.putfield 35, 3) := by decide +kernel
theorem dX7_value_5 : decode cX7_value 5 = .ok (.aload_n 0, 1) := by decide +kernel
theorem dX7_value_6 : decode cX7_value 6 = .ok (.iload_n 1, 1) := by decide +kernel
theorem dX7_value_7 : decode cX7_value 7 = .ok (.iload_n 2, 1) := by decide +kernel
theorem dX7_value_8 : decode cX7_value 8 = .ok (.invokevirtual 277, 3) := by decide +kernel
theorem dX7_value_11 : decode cX7_value 11 = .ok (.ifCond .eq 7, 3) := by decide +kernel
theorem dX7_value_14 : decode cX7_value 14 = .ok (.iconst 0, 1) := by decide +kernel
theorem dX7_value_15 : decode cX7_value 15 = .ok (.goto 9, 3) := by decide +kernel
theorem dX7_value_18 : decode cX7_value 18 = .ok (.aload_n 0, 1) := by decide +kernel
theorem dX7_value_19 : decode cX7_value 19 = .ok (.iload_n 1, 1) := by decide +kernel
theorem dX7_value_20 : decode cX7_value 20 = .ok (.iload_n 2, 1) := by decide +kernel
theorem dX7_value_21 : decode cX7_value 21 = .ok (.invokevirtual 232, 3) := by decide +kernel
theorem dX7_value_24 : decode cX7_value 24 = .ok (.ireturn, 1) := by decide +kernel
theorem dX7_allViolated_0 : decode cX7_allViolated 0 = .ok (.aload_n 0, 1) := by decide +kernel
theorem dX7_allViolated_1 : decode cX7_allViolated 1 = .ok (.iconst 0, 1) := by decide +kernel
theorem dX7_allViolated_2 : decode cX7_allViolated 2 = .ok (.invokevirtual 245, 3) := by decide +kernel
theorem dX7_allViolated_5 : decode cX7_allViolated 5 = .ok (.aload_n 0, 1) := by decide +kernel
theorem dX7_allViolated_6 : decode cX7_allViolated 6 = .ok (.iconst 1, 1) := by decide +kernel
theorem dX7_allViolated_7 : decode cX7_allViolated 7 = .ok (.invokevirtual 245, 3) := by decide +kernel
theorem dX7_allViolated_10 : decode cX7_allViolated 10 = .ok (.iadd, 1) := by decide +kernel
theorem dX7_allViolated_11 : decode cX7_allViolated 11 = .ok (.ireturn, 1) := by decide +kernel
theorem dX7_violations_0 : decode cX7_violations 0 = .ok (.aload_n 0, 1) := by decide +kernel
theorem dX7_violations_1 : decode cX7_violations 1 = .ok (.iconst 0, 1) := by decide +kernel
theorem dX7_violations_2 : decode cX7_violations 2 = .ok (.putfield 35, 3) := by decide +kernel
theorem dX7_violations_5 : decode cX7_violations 5 = .ok (.aload_n 0, 1) := by decide +kernel
theorem dX7_violations_6 : decode cX7_violations 6 = .ok (.invokevirtual 280, 3) := by decide +kernel
theorem dX7_violations_9 : decode cX7_violations 9 = .ok (.ireturn, 1) := by decide +kernel
theorem dX7_violation_0 : decode cX7_violation 0 = .ok (.aload_n 0, 1) := by decide +kernel
theorem dX7_violation_1 : decode cX7_violation 1 = .ok (.iconst 0, 1) := by decide +kernel
theorem dX7_violation_2 : decode cX7_violation 2 = .ok (.putfield 35, 3) := by decide +kernel
theorem dX7_violation_5 : decode cX7_violation 5 = .ok (.aload_n 0, 1) := by decide +kernel
theorem dX7_violation_6 : decode cX7_violation 6 = .ok (.iload_n 1, 1) := by decide +kernel
theorem dX7_violation_7 : decode cX7_violation 7 = .ok (.iconst 0, 1) := by decide +kernel
theorem dX7_violation_8 : decode cX7_violation 8 = .ok (.aload_n 0, 1) := by decide +kernel
theorem dX7_violation_9 : decode cX7_violation 9 = .ok (.invokevirtual 280, 3) := by decide +kernel
theorem dX7_violation_12 : decode cX7_violation 12 = .ok (.iconst 1, 1) := by decide +kernel
theorem dX7_violation_13 : decode cX7_violation 13 = .ok (.isub, 1) := by decide +kernel
theorem dX7_violation_14 : decode cX7_violation 14 = .ok (.invokestatic 58, 3) := by decide +kernel
theorem dX7_violation_17 : decode cX7_violation 17 = .ok (.ifCond .ne 7, 3) := by decide +kernel
theorem dX7_violation_20 : decode cX7_violation 20 = .ok (.iconst 1, 1) := by decide +kernel
theorem dX7_violation_21 : decode cX7_violation 21 = .ok (.goto 4, 3) := by decide +kernel
theorem dX7_violation_24 : decode cX7_violation 24 = .ok (.iconst 0, 1) := by decide +kernel
theorem dX7_violation_25 : decode cX7_violation 25 = .ok (.iconst 1, 1) := by decide +kernel
theorem dX7_violation_26 : decode cX7_violation 26 = .ok (.invokevirtual 159, 3) := by decide +kernel
theorem dX7_violation_29 : decode cX7_violation 29 = .ok (.ifCond .eq 5, 3) := by decide +kernel
theorem dX7_violation_32 : decode cX7_violation 32 = .ok (.iconst 0, 1) := by decide +kernel
theorem dX7_violation_33 : decode cX7_violation 33 = .ok (.ireturn, 1) := by decide +kernel
theorem dX7_violation_34 : decode cX7_violation 34 = .ok (.iconst 0, 1) := by decide +kernel
theorem dX7_violation_35 : decode cX7_violation 35 = .ok (.istore_n 2, 1) := by decide +kernel
theorem dX7_violation_36 : decode cX7_violation 36 = .ok (.iload_n 1, 1) := by decide +kernel
theorem dX7_violation_37 : decode cX7_violation 37 = .ok (.istore_n 3, 1) := by decide +kernel
theorem dX7_violation_38 : decode cX7_violation 38 = .ok (.aload_n 0, 1) := by decide +kernel
theorem dX7_violation_39 : decode cX7_violation 39 = .ok (.iload_n 2, 1) := by decide +kernel
theorem dX7_violation_40 : decode cX7_violation 40 = .ok (.iconst 2, 1) := by decide +kernel
theorem dX7_violation_41 : decode cX7_violation 41 = .ok (.idiv, 1) := by decide +kernel
theorem dX7_violation_42 : decode cX7_violation 42 = .ok (.iload_n 2, 1) := by decide +kernel
theorem dX7_violation_43 : decode cX7_violation 43 = .ok (.iconst 2, 1) := by decide +kernel
theorem dX7_violation_44 : decode cX7_violation 44 = .ok (.irem, 1) := by decide +kernel
theorem dX7_violation_45 : decode cX7_violation 45 = .ok (.invokevirtual 238, 3) := by decide +kernel
theorem dX7_violation_48 : decode cX7_violation 48 = .ok (.ifCond .eq 7, 3) := by decide +kernel
theorem dX7_violation_51 : decode cX7_violation 51 = .ok (.iload_n 3, 1) := by decide +kernel
theorem dX7_violation_52 : decode cX7_violation 52 = .ok (.ifCond .le 30, 3) := by decide +kernel
theorem dX7_violation_55 : decode cX7_violation 55 = .ok (.iload_n 3, 1) := by decide +kernel
theorem dX7_violation_56 : decode cX7_violation 56 = .ok (.aload_n 0, 1) := by decide +kernel
theorem dX7_violation_57 : decode cX7_violation 57 = .ok (.iload_n 2, 1) := by decide +kernel
theorem dX7_violation_58 : decode cX7_violation 58 = .ok (.iconst 2, 1) := by decide +kernel
theorem dX7_violation_59 : decode cX7_violation 59 = .ok (.idiv, 1) := by decide +kernel
theorem dX7_violation_60 : decode cX7_violation 60 = .ok (.iload_n 2, 1) := by decide +kernel
theorem dX7_violation_61 : decode cX7_violation 61 = .ok (.iconst 2, 1) := by decide +kernel
theorem dX7_violation_62 : decode cX7_violation 62 = .ok (.irem, 1) := by decide +kernel
theorem dX7_violation_63 : decode cX7_violation 63 = .ok (.invokevirtual 238, 3) := by decide +kernel
theorem dX7_violation_66 : decode cX7_violation 66 = .ok (.ifCond .eq 7, 3) := by decide +kernel
theorem dX7_violation_69 : decode cX7_violation 69 = .ok (.iconst 1, 1) := by decide +kernel
theorem dX7_violation_70 : decode cX7_violation 70 = .ok (.goto 4, 3) := by decide +kernel
theorem dX7_violation_73 : decode cX7_violation 73 = .ok (.iconst 0, 1) := by decide +kernel
theorem dX7_violation_74 : decode cX7_violation 74 = .ok (.isub, 1) := by decide +kernel
theorem dX7_violation_75 : decode cX7_violation 75 = .ok (.istore_n 3, 1) := by decide +kernel
theorem dX7_violation_76 : decode cX7_violation 76 = .ok (.iinc 2 1, 3) := by decide +kernel
theorem dX7_violation_79 : decode cX7_violation 79 = .ok (.goto (-41), 3) := by decide +kernel
theorem dX7_violation_82 : decode cX7_violation 82 = .ok (.bipush 10, 2) := by decide +kernel
theorem dX7_violation_84 : decode cX7_violation 84 = .ok (.iload_n 2, 1) := by decide +kernel
theorem dX7_violation_85 : decode cX7_violation 85 = .ok (.iconst 2, 1) := by decide +kernel
theorem dX7_violation_86 : decode cX7_violation 86 = .ok (.idiv, 1) := by decide +kernel
theorem dX7_violation_87 : decode cX7_violation 87 = .ok (.imul, 1) := by decide +kernel
theorem dX7_violation_88 : decode cX7_violation 88 = .ok (.iload_n 2, 1) := by decide +kernel
theorem dX7_violation_89 : decode cX7_violation 89 = .ok (.iconst 2, 1) := by decide +kernel
theorem dX7_violation_90 : decode cX7_violation 90 = .ok (.irem, 1) := by decide +kernel
theorem dX7_violation_91 : decode cX7_violation 91 = .ok (.iadd, 1) := by decide +kernel
theorem dX7_violation_92 : decode cX7_violation 92 = .ok (.ireturn, 1) := by decide +kernel
theorem dX7_smallestMargin_0 : decode cX7_smallestMargin 0 = .ok (.aload_n 0, 1) := by decide +kernel
theorem dX7_smallestMargin_1 : decode cX7_smallestMargin 1 = .ok (.iconst 0, 1) := by decide +kernel
theorem dX7_smallestMargin_2 : decode cX7_smallestMargin 2 = .ok (.putfield 35, 3) := by decide +kernel
theorem dX7_smallestMargin_5 : decode cX7_smallestMargin 5 = .ok (.aload_n 0, 1) := by decide +kernel
theorem dX7_smallestMargin_6 : decode cX7_smallestMargin 6 = .ok (.iload_n 1, 1) := by decide +kernel
theorem dX7_smallestMargin_7 : decode cX7_smallestMargin 7 = .ok (.invokevirtual 264, 3) := by decide +kernel
theorem dX7_smallestMargin_10 : decode cX7_smallestMargin 10 = .ok (.ifCond .eq 5, 3) := by decide +kernel
theorem dX7_smallestMargin_13 : decode cX7_smallestMargin 13 = .ok (.iconst 0, 1) := by decide +kernel
theorem dX7_smallestMargin_14 : decode cX7_smallestMargin 14 = .ok (.ireturn, 1) := by decide +kernel
theorem dX7_smallestMargin_15 : decode cX7_smallestMargin 15 = .ok (.sipush 9999, 3) := by decide +kernel
theorem dX7_smallestMargin_18 : decode cX7_smallestMargin 18 = .ok (.istore_n 2, 1) := by decide +kernel
theorem dX7_smallestMargin_19 : decode cX7_smallestMargin 19 = .ok (.iconst 0, 1) := by decide +kernel
theorem dX7_smallestMargin_20 : decode cX7_smallestMargin 20 = .ok (.istore_n 3, 1) := by decide +kernel
theorem dX7_smallestMargin_21 : decode cX7_smallestMargin 21 = .ok (.iload_n 3, 1) := by decide +kernel
theorem dX7_smallestMargin_22 : decode cX7_smallestMargin 22 = .ok (.aload_n 0, 1) := by decide +kernel
theorem dX7_smallestMargin_23 : decode cX7_smallestMargin 23 = .ok (.getfield 17, 3) := by decide +kernel
theorem dX7_smallestMargin_26 : decode cX7_smallestMargin 26 = .ok (.iconst 1, 1) := by decide +kernel
theorem dX7_smallestMargin_27 : decode cX7_smallestMargin 27 = .ok (.iaload, 1) := by decide +kernel
theorem dX7_smallestMargin_28 : decode cX7_smallestMargin 28 = .ok (.if_icmp .ge 27, 3) := by decide +kernel
theorem dX7_smallestMargin_31 : decode cX7_smallestMargin 31 = .ok (.iload_n 2, 1) := by decide +kernel
theorem dX7_smallestMargin_32 : decode cX7_smallestMargin 32 = .ok (.aload_n 0, 1) := by decide +kernel
theorem dX7_smallestMargin_33 : decode cX7_smallestMargin 33 = .ok (.iload_n 3, 1) := by decide +kernel
theorem dX7_smallestMargin_34 : decode cX7_smallestMargin 34 = .ok (.iload_n 1, 1) := by decide +kernel
theorem dX7_smallestMargin_35 : decode cX7_smallestMargin 35 = .ok (.invokevirtual 232, 3) := by decide +kernel
theorem dX7_smallestMargin_38 : decode cX7_smallestMargin 38 = .ok (.aload_n 0, 1) := by decide +kernel
theorem dX7_smallestMargin_39 : decode cX7_smallestMargin 39 = .ok (.iload_n 3, 1) := by decide +kernel
theorem dX7_smallestMargin_40 : decode cX7_smallestMargin 40 = .ok (.iload_n 1, 1) := by decide +kernel
theorem dX7_smallestMargin_41 : decode cX7_smallestMargin 41 = .ok (.invokevirtual 235, 3) := by decide +kernel
theorem dX7_smallestMargin_44 : decode cX7_smallestMargin 44 = .ok (.isub, 1) := by decide +kernel
theorem dX7_smallestMargin_45 : decode cX7_smallestMargin 45 = .ok (.invokestatic 91, 3) := by decide +kernel
theorem dX7_smallestMargin_48 : decode cX7_smallestMargin 48 = .ok (.istore_n 2, 1) := by decide +kernel
theorem dX7_smallestMargin_49 : decode cX7_smallestMargin 49 = .ok (.iinc 3 1, 3) := by decide +kernel
theorem dX7_smallestMargin_52 : decode cX7_smallestMargin 52 = .ok (.goto (-31), 3) := by decide +kernel
theorem dX7_smallestMargin_55 : decode cX7_smallestMargin 55 = .ok (.iload_n 2, 1) := by decide +kernel
theorem dX7_smallestMargin_56 : decode cX7_smallestMargin 56 = .ok (.ireturn, 1) := by decide +kernel
theorem dX7_bestShift_0 : decode cX7_bestShift 0 = .ok (.aload_n 0, 1) := by decide +kernel
theorem dX7_bestShift_1 : decode cX7_bestShift 1 = .ok (.iconst 0, 1) := by decide +kernel
theorem dX7_bestShift_2 : decode cX7_bestShift 2 = .ok (.putfield 35, 3) := by decide +kernel
theorem dX7_bestShift_5 : decode cX7_bestShift 5 = .ok (.aload_n 0, 1) := by decide +kernel
theorem dX7_bestShift_6 : decode cX7_bestShift 6 = .ok (.iload_n 1, 1) := by decide +kernel
theorem dX7_bestShift_7 : decode cX7_bestShift 7 = .ok (.iload_n 2, 1) := by decide +kernel
theorem dX7_bestShift_8 : decode cX7_bestShift 8 = .ok (.invokevirtual 277, 3) := by decide +kernel
theorem dX7_bestShift_11 : decode cX7_bestShift 11 = .ok (.ifCond .ne 12, 3) := by decide +kernel
theorem dX7_bestShift_14 : decode cX7_bestShift 14 = .ok (.aload_n 0, 1) := by decide +kernel
theorem dX7_bestShift_15 : decode cX7_bestShift 15 = .ok (.iload_n 1, 1) := by decide +kernel
theorem dX7_bestShift_16 : decode cX7_bestShift 16 = .ok (.iload_n 2, 1) := by decide +kernel
theorem dX7_bestShift_17 : decode cX7_bestShift 17 = .ok (.invokevirtual 238, 3) := by decide +kernel
theorem dX7_bestShift_20 : decode cX7_bestShift 20 = .ok (.ifCond .ne 5, 3) := by decide +kernel
theorem dX7_bestShift_23 : decode cX7_bestShift 23 = .ok (.iconst 0, 1) := by decide +kernel
theorem dX7_bestShift_24 : decode cX7_bestShift 24 = .ok (.ireturn, 1) := by decide +kernel
theorem dX7_bestShift_25 : decode cX7_bestShift 25 = .ok (.aload_n 0, 1) := by decide +kernel
theorem dX7_bestShift_26 : decode cX7_bestShift 26 = .ok (.iload_n 1, 1) := by decide +kernel
theorem dX7_bestShift_27 : decode cX7_bestShift 27 = .ok (.iload_n 2, 1) := by decide +kernel
theorem dX7_bestShift_28 : decode cX7_bestShift 28 = .ok (.invokevirtual 261, 3) := by decide +kernel
theorem dX7_bestShift_31 : decode cX7_bestShift 31 = .ok (.ifCond .eq 10, 3) := by decide +kernel
theorem dX7_bestShift_34 : decode cX7_bestShift 34 = .ok (.aload_n 0, 1) := by decide +kernel
theorem dX7_bestShift_35 : decode cX7_bestShift 35 = .ok (.getfield 248, 3) := by decide +kernel
theorem dX7_bestShift_38 : decode cX7_bestShift 38 = .ok (.goto 6, 3) := by decide +kernel
theorem dX7_bestShift_41 : decode cX7_bestShift 41 = .ok (.sipush 9999, 3) := by decide +kernel
theorem dX7_bestShift_44 : decode cX7_bestShift 44 = .ok (.ireturn, 1) := by decide +kernel
theorem dX7_shiftRole_0 : decode cX7_shiftRole 0 = .ok (.aload_n 0, 1) := by decide +kernel
theorem dX7_shiftRole_1 : decode cX7_shiftRole 1 = .ok (.iconst 0, 1) := by decide +kernel
theorem dX7_shiftRole_2 : decode cX7_shiftRole 2 = .ok (.putfield 35, 3) := by decide +kernel
theorem dX7_shiftRole_5 : decode cX7_shiftRole 5 = .ok (.aload_n 0, 1) := by decide +kernel
theorem dX7_shiftRole_6 : decode cX7_shiftRole 6 = .ok (.iload_n 1, 1) := by decide +kernel
theorem dX7_shiftRole_7 : decode cX7_shiftRole 7 = .ok (.iload_n 2, 1) := by decide +kernel
theorem dX7_shiftRole_8 : decode cX7_shiftRole 8 = .ok (.invokevirtual 277, 3) := by decide +kernel
theorem dX7_shiftRole_11 : decode cX7_shiftRole 11 = .ok (.ifCond .eq 5, 3) := by decide +kernel
theorem dX7_shiftRole_14 : decode cX7_shiftRole 14 = .ok (.iconst 0, 1) := by decide +kernel
theorem dX7_shiftRole_15 : decode cX7_shiftRole 15 = .ok (.ireturn, 1) := by decide +kernel
theorem dX7_shiftRole_16 : decode cX7_shiftRole 16 = .ok (.aload_n 0, 1) := by decide +kernel
theorem dX7_shiftRole_17 : decode cX7_shiftRole 17 = .ok (.iload_n 1, 1) := by decide +kernel
theorem dX7_shiftRole_18 : decode cX7_shiftRole 18 = .ok (.iload_n 2, 1) := by decide +kernel
theorem dX7_shiftRole_19 : decode cX7_shiftRole 19 = .ok (.invokevirtual 238, 3) := by decide +kernel
theorem dX7_shiftRole_22 : decode cX7_shiftRole 22 = .ok (.ifCond .eq 19, 3) := by decide +kernel
theorem dX7_shiftRole_25 : decode cX7_shiftRole 25 = .ok (.aload_n 0, 1) := by decide +kernel
theorem dX7_shiftRole_26 : decode cX7_shiftRole 26 = .ok (.iload_n 1, 1) := by decide +kernel
theorem dX7_shiftRole_27 : decode cX7_shiftRole 27 = .ok (.iload_n 2, 1) := by decide +kernel
theorem dX7_shiftRole_28 : decode cX7_shiftRole 28 = .ok (.invokevirtual 261, 3) := by decide +kernel
theorem dX7_shiftRole_31 : decode cX7_shiftRole 31 = .ok (.ifCond .eq 10, 3) := by decide +kernel
theorem dX7_shiftRole_34 : decode cX7_shiftRole 34 = .ok (.aload_n 0, 1) := by decide +kernel
theorem dX7_shiftRole_35 : decode cX7_shiftRole 35 = .ok (.getfield 251, 3) := by decide +kernel
theorem dX7_shiftRole_38 : decode cX7_shiftRole 38 = .ok (.goto 4, 3) := by decide +kernel
theorem dX7_shiftRole_41 : decode cX7_shiftRole 41 = .ok (.iconst (-1), 1) := by decide +kernel
theorem dX7_shiftRole_42 : decode cX7_shiftRole 42 = .ok (.ireturn, 1) := by decide +kernel
theorem dX7_remember_0 : decode cX7_remember 0 = .ok (.aload_n 0, 1) := by decide +kernel
theorem dX7_remember_1 : decode cX7_remember 1 = .ok (.getfield 283, 3) := by decide +kernel
theorem dX7_remember_4 : decode cX7_remember 4 = .ok (.bipush 8, 2) := by decide +kernel
theorem dX7_remember_6 : decode cX7_remember 6 = .ok (.if_icmp .ne 44, 3) := by decide +kernel
theorem dX7_remember_9 : decode cX7_remember 9 = .ok (.iconst 1, 1) := by decide +kernel
theorem dX7_remember_10 : decode cX7_remember 10 = .ok (.istore_n 1, 1) := by decide +kernel
theorem dX7_remember_11 : decode cX7_remember 11 = .ok (.iload_n 1, 1) := by decide +kernel
theorem dX7_remember_12 : decode cX7_remember 12 = .ok (.bipush 8, 2) := by decide +kernel
theorem dX7_remember_14 : decode cX7_remember 14 = .ok (.if_icmp .ge 26, 3) := by decide +kernel
theorem dX7_remember_17 : decode cX7_remember 17 = .ok (.aload_n 0, 1) := by decide +kernel
theorem dX7_remember_18 : decode cX7_remember 18 = .ok (.getfield 25, 3) := by decide +kernel
theorem dX7_remember_21 : decode cX7_remember 21 = .ok (.iload_n 1, 1) := by decide +kernel
theorem dX7_remember_22 : decode cX7_remember 22 = .ok (.aaload, 1) := by decide +kernel
theorem dX7_remember_23 : decode cX7_remember 23 = .ok (.aload_n 0, 1) := by decide +kernel
theorem dX7_remember_24 : decode cX7_remember 24 = .ok (.getfield 25, 3) := by decide +kernel
theorem dX7_remember_27 : decode cX7_remember 27 = .ok (.iload_n 1, 1) := by decide +kernel
theorem dX7_remember_28 : decode cX7_remember 28 = .ok (.iconst 1, 1) := by decide +kernel
theorem dX7_remember_29 : decode cX7_remember 29 = .ok (.isub, 1) := by decide +kernel
theorem dX7_remember_30 : decode cX7_remember 30 = .ok (.aaload, 1) := by decide +kernel
theorem dX7_remember_31 : decode cX7_remember 31 = .ok (.invokestatic 169, 3) := by decide +kernel
theorem dX7_remember_34 : decode cX7_remember 34 = .ok (.iinc 1 1, 3) := by decide +kernel
theorem dX7_remember_37 : decode cX7_remember 37 = .ok (.goto (-26), 3) := by decide +kernel
theorem dX7_remember_40 : decode cX7_remember 40 = .ok (.aload_n 0, 1) := by decide +kernel
theorem dX7_remember_41 : decode cX7_remember 41 = .ok (.dup, 1) := by decide +kernel
theorem dX7_remember_42 : decode cX7_remember 42 = .ok (.getfield 283, 3) := by decide +kernel
theorem dX7_remember_45 : decode cX7_remember 45 = .ok (.iconst 1, 1) := by decide +kernel
theorem dX7_remember_46 : decode cX7_remember 46 = .ok (.isub, 1) := by decide +kernel
theorem dX7_remember_47 : decode cX7_remember 47 = .ok (.putfield 283, 3) := by decide +kernel
theorem dX7_remember_50 : decode cX7_remember 50 = .ok (.aload_n 0, 1) := by decide +kernel
theorem dX7_remember_51 : decode cX7_remember 51 = .ok (.getfield 17, 3) := by decide +kernel
theorem dX7_remember_54 : decode cX7_remember 54 = .ok (.aload_n 0, 1) := by decide +kernel
theorem dX7_remember_55 : decode cX7_remember 55 = .ok (.getfield 25, 3) := by decide +kernel
theorem dX7_remember_58 : decode cX7_remember 58 = .ok (.aload_n 0, 1) := by decide +kernel
theorem dX7_remember_59 : decode cX7_remember 59 = .ok (.getfield 283, 3) := by decide +kernel
theorem dX7_remember_62 : decode cX7_remember 62 = .ok (.aaload, 1) := by decide +kernel
theorem dX7_remember_63 : decode cX7_remember 63 = .ok (.invokestatic 169, 3) := by decide +kernel
theorem dX7_remember_66 : decode cX7_remember 66 = .ok (.aload_n 0, 1) := by decide +kernel
theorem dX7_remember_67 : decode cX7_remember 67 = .ok (.dup, 1) := by decide +kernel
theorem dX7_remember_68 : decode cX7_remember 68 = .ok (.getfield 283, 3) := by decide +kernel
theorem dX7_remember_71 : decode cX7_remember 71 = .ok (.iconst 1, 1) := by decide +kernel
theorem dX7_remember_72 : decode cX7_remember 72 = .ok (.iadd, 1) := by decide +kernel
theorem dX7_remember_73 : decode cX7_remember 73 = .ok (.putfield 283, 3) := by decide +kernel
theorem dX7_remember_76 : decode cX7_remember 76 = .ok (.return_, 1) := by decide +kernel
theorem dX7_setColour_0 : decode cX7_setColour 0 = .ok (.aload_n 0, 1) := by decide +kernel
theorem dX7_setColour_1 : decode cX7_setColour 1 = .ok (.iconst 0, 1) := by decide +kernel
theorem dX7_setColour_2 : decode cX7_setColour 2 = .ok (.putfield 35, 3) := by decide +kernel
theorem dX7_setColour_5 : decode cX7_setColour 5 = .ok (.aload_n 0, 1) := by decide +kernel
theorem dX7_setColour_6 : decode cX7_setColour 6 = .ok (.iload_n 1, 1) := by decide +kernel
theorem dX7_setColour_7 : decode cX7_setColour 7 = .ok (.invokevirtual 267, 3) := by decide +kernel
theorem dX7_setColour_10 : decode cX7_setColour 10 = .ok (.ifCond .ne 19, 3) := by decide +kernel
theorem dX7_setColour_13 : decode cX7_setColour 13 = .ok (.aload_n 0, 1) := by decide +kernel
theorem dX7_setColour_14 : decode cX7_setColour 14 = .ok (.iload_n 2, 1) := by decide +kernel
theorem dX7_setColour_15 : decode cX7_setColour 15 = .ok (.invokevirtual 264, 3) := by decide +kernel
theorem dX7_setColour_18 : decode cX7_setColour 18 = .ok (.ifCond .ne 11, 3) := by decide +kernel
theorem dX7_setColour_21 : decode cX7_setColour 21 = .ok (.aload_n 0, 1) := by decide +kernel
theorem dX7_setColour_22 : decode cX7_setColour 22 = .ok (.iload_n 3, 1) := by decide +kernel
theorem dX7_setColour_23 : decode cX7_setColour 23 = .ok (.invokevirtual 274, 3) := by decide +kernel
theorem dX7_setColour_26 : decode cX7_setColour 26 = .ok (.ifCond .eq 5, 3) := by decide +kernel
theorem dX7_setColour_29 : decode cX7_setColour 29 = .ok (.iconst 0, 1) := by decide +kernel
theorem dX7_setColour_30 : decode cX7_setColour 30 = .ok (.ireturn, 1) := by decide +kernel
theorem dX7_setColour_31 : decode cX7_setColour 31 = .ok (.aload_n 0, 1) := by decide +kernel
theorem dX7_setColour_32 : decode cX7_setColour 32 = .ok (.invokevirtual 166, 3) := by decide +kernel
theorem dX7_setColour_35 : decode cX7_setColour 35 = .ok (.aload_n 0, 1) := by decide +kernel
theorem dX7_setColour_36 : decode cX7_setColour 36 = .ok (.iload_n 1, 1) := by decide +kernel
theorem dX7_setColour_37 : decode cX7_setColour 37 = .ok (.iload_n 2, 1) := by decide +kernel
theorem dX7_setColour_38 : decode cX7_setColour 38 = .ok (.invokevirtual 220, 3) := by decide +kernel
theorem dX7_setColour_41 : decode cX7_setColour 41 = .ok (.istore 4, 2) := by decide +kernel
theorem dX7_setColour_43 : decode cX7_setColour 43 = .ok (.aload_n 0, 1) := by decide +kernel
theorem dX7_setColour_44 : decode cX7_setColour 44 = .ok (.getfield 17, 3) := by decide +kernel
theorem dX7_setColour_47 : decode cX7_setColour 47 = .ok (.iload_n 1, 1) := by decide +kernel
theorem dX7_setColour_48 : decode cX7_setColour 48 = .ok (.invokestatic 136, 3) := by decide +kernel
theorem dX7_setColour_51 : decode cX7_setColour 51 = .ok (.iload_n 2, 1) := by decide +kernel
theorem dX7_setColour_52 : decode cX7_setColour 52 = .ok (.iadd, 1) := by decide +kernel
theorem dX7_setColour_53 : decode cX7_setColour 53 = .ok (.iload_n 3, 1) := by decide +kernel
theorem dX7_setColour_54 : decode cX7_setColour 54 = .ok (.iastore, 1) := by decide +kernel
theorem dX7_setColour_55 : decode cX7_setColour 55 = .ok (.iload 4, 2) := by decide +kernel
theorem dX7_setColour_57 : decode cX7_setColour 57 = .ok (.ireturn, 1) := by decide +kernel
theorem dX7_setFixed_0 : decode cX7_setFixed 0 = .ok (.aload_n 0, 1) := by decide +kernel
theorem dX7_setFixed_1 : decode cX7_setFixed 1 = .ok (.iconst 0, 1) := by decide +kernel
theorem dX7_setFixed_2 : decode cX7_setFixed 2 = .ok (.putfield 35, 3) := by decide +kernel
theorem dX7_setFixed_5 : decode cX7_setFixed 5 = .ok (.aload_n 0, 1) := by decide +kernel
theorem dX7_setFixed_6 : decode cX7_setFixed 6 = .ok (.iload_n 1, 1) := by decide +kernel
theorem dX7_setFixed_7 : decode cX7_setFixed 7 = .ok (.invokevirtual 267, 3) := by decide +kernel
theorem dX7_setFixed_10 : decode cX7_setFixed 10 = .ok (.ifCond .eq 5, 3) := by decide +kernel
theorem dX7_setFixed_13 : decode cX7_setFixed 13 = .ok (.iconst 0, 1) := by decide +kernel
theorem dX7_setFixed_14 : decode cX7_setFixed 14 = .ok (.ireturn, 1) := by decide +kernel
theorem dX7_setFixed_15 : decode cX7_setFixed 15 = .ok (.aload_n 0, 1) := by decide +kernel
theorem dX7_setFixed_16 : decode cX7_setFixed 16 = .ok (.invokevirtual 166, 3) := by decide +kernel
theorem dX7_setFixed_19 : decode cX7_setFixed 19 = .ok (.aload_n 0, 1) := by decide +kernel
theorem dX7_setFixed_20 : decode cX7_setFixed 20 = .ok (.getfield 17, 3) := by decide +kernel
theorem dX7_setFixed_23 : decode cX7_setFixed 23 = .ok (.iload_n 1, 1) := by decide +kernel
theorem dX7_setFixed_24 : decode cX7_setFixed 24 = .ok (.invokestatic 136, 3) := by decide +kernel
theorem dX7_setFixed_27 : decode cX7_setFixed 27 = .ok (.iconst 2, 1) := by decide +kernel
theorem dX7_setFixed_28 : decode cX7_setFixed 28 = .ok (.iadd, 1) := by decide +kernel
theorem dX7_setFixed_29 : decode cX7_setFixed 29 = .ok (.iaload, 1) := by decide +kernel
theorem dX7_setFixed_30 : decode cX7_setFixed 30 = .ok (.iconst 1, 1) := by decide +kernel
theorem dX7_setFixed_31 : decode cX7_setFixed 31 = .ok (.if_icmp .ne 7, 3) := by decide +kernel
theorem dX7_setFixed_34 : decode cX7_setFixed 34 = .ok (.iconst 1, 1) := by decide +kernel
theorem dX7_setFixed_35 : decode cX7_setFixed 35 = .ok (.goto 4, 3) := by decide +kernel
theorem dX7_setFixed_38 : decode cX7_setFixed 38 = .ok (.iconst 0, 1) := by decide +kernel
theorem dX7_setFixed_39 : decode cX7_setFixed 39 = .ok (.istore_n 3, 1) := by decide +kernel
theorem dX7_setFixed_40 : decode cX7_setFixed 40 = .ok (.aload_n 0, 1) := by decide +kernel
theorem dX7_setFixed_41 : decode cX7_setFixed 41 = .ok (.getfield 17, 3) := by decide +kernel
theorem dX7_setFixed_44 : decode cX7_setFixed 44 = .ok (.iload_n 1, 1) := by decide +kernel
theorem dX7_setFixed_45 : decode cX7_setFixed 45 = .ok (.invokestatic 136, 3) := by decide +kernel
theorem dX7_setFixed_48 : decode cX7_setFixed 48 = .ok (.iconst 2, 1) := by decide +kernel
theorem dX7_setFixed_49 : decode cX7_setFixed 49 = .ok (.iadd, 1) := by decide +kernel
theorem dX7_setFixed_50 : decode cX7_setFixed 50 = .ok (.iload_n 2, 1) := by decide +kernel
theorem dX7_setFixed_51 : decode cX7_setFixed 51 = .ok (.ifCond .eq 7, 3) := by decide +kernel
theorem dX7_setFixed_54 : decode cX7_setFixed 54 = .ok (.iconst 1, 1) := by decide +kernel
theorem dX7_setFixed_55 : decode cX7_setFixed 55 = .ok (.goto 4, 3) := by decide +kernel
theorem dX7_setFixed_58 : decode cX7_setFixed 58 = .ok (.iconst 0, 1) := by decide +kernel
theorem dX7_setFixed_59 : decode cX7_setFixed 59 = .ok (.iastore, 1) := by decide +kernel
theorem dX7_setFixed_60 : decode cX7_setFixed 60 = .ok (.iload_n 3, 1) := by decide +kernel
theorem dX7_setFixed_61 : decode cX7_setFixed 61 = .ok (.ireturn, 1) := by decide +kernel
theorem dX7_makeShift_0 : decode cX7_makeShift 0 = .ok (.iload_n 1, 1) := by decide +kernel
theorem dX7_makeShift_1 : decode cX7_makeShift 1 = .ok (.invokestatic 136, 3) := by decide +kernel
theorem dX7_makeShift_4 : decode cX7_makeShift 4 = .ok (.iload_n 2, 1) := by decide +kernel
theorem dX7_makeShift_5 : decode cX7_makeShift 5 = .ok (.iadd, 1) := by decide +kernel
theorem dX7_makeShift_6 : decode cX7_makeShift 6 = .ok (.istore 4, 2) := by decide +kernel
theorem dX7_makeShift_8 : decode cX7_makeShift 8 = .ok (.aload_n 0, 1) := by decide +kernel
theorem dX7_makeShift_9 : decode cX7_makeShift 9 = .ok (.getfield 17, 3) := by decide +kernel
theorem dX7_makeShift_12 : decode cX7_makeShift 12 = .ok (.iload 4, 2) := by decide +kernel
theorem dX7_makeShift_14 : decode cX7_makeShift 14 = .ok (.aload_n 0, 1) := by decide +kernel
theorem dX7_makeShift_15 : decode cX7_makeShift 15 = .ok (.getfield 17, 3) := by decide +kernel
theorem dX7_makeShift_18 : decode cX7_makeShift 18 = .ok (.iload 4, 2) := by decide +kernel
theorem dX7_makeShift_20 : decode cX7_makeShift 20 = .ok (.iaload, 1) := by decide +kernel
theorem dX7_makeShift_21 : decode cX7_makeShift 21 = .ok (.iload_n 3, 1) := by decide +kernel
theorem dX7_makeShift_22 : decode cX7_makeShift 22 = .ok (.invokestatic 242, 3) := by decide +kernel
theorem dX7_makeShift_25 : decode cX7_makeShift 25 = .ok (.iastore, 1) := by decide +kernel
theorem dX7_makeShift_26 : decode cX7_makeShift 26 = .ok (.aload_n 0, 1) := by decide +kernel
theorem dX7_makeShift_27 : decode cX7_makeShift 27 = .ok (.getfield 17, 3) := by decide +kernel
theorem dX7_makeShift_30 : decode cX7_makeShift 30 = .ok (.iload 4, 2) := by decide +kernel
theorem dX7_makeShift_32 : decode cX7_makeShift 32 = .ok (.iaload, 1) := by decide +kernel
theorem dX7_makeShift_33 : decode cX7_makeShift 33 = .ok (.ireturn, 1) := by decide +kernel
theorem dX7_shift_0 : decode cX7_shift 0 = .ok (.aload_n 0, 1) := by decide +kernel
theorem dX7_shift_1 : decode cX7_shift 1 = .ok (.iconst 0, 1) := by decide +kernel
theorem dX7_shift_2 : decode cX7_shift 2 = .ok (.putfield 35, 3) := by decide +kernel
theorem dX7_shift_5 : decode cX7_shift 5 = .ok (.aload_n 0, 1) := by decide +kernel
theorem dX7_shift_6 : decode cX7_shift 6 = .ok (.iload_n 1, 1) := by decide +kernel
theorem dX7_shift_7 : decode cX7_shift 7 = .ok (.invokevirtual 267, 3) := by decide +kernel
theorem dX7_shift_10 : decode cX7_shift 10 = .ok (.ifCond .ne 65, 3) := by decide +kernel
theorem dX7_shift_13 : decode cX7_shift 13 = .ok (.aload_n 0, 1) := by decide +kernel
theorem dX7_shift_14 : decode cX7_shift 14 = .ok (.iload_n 2, 1) := by decide +kernel
theorem dX7_shift_15 : decode cX7_shift 15 = .ok (.invokevirtual 264, 3) := by decide +kernel
theorem dX7_shift_18 : decode cX7_shift 18 = .ok (.ifCond .ne 57, 3) := by decide +kernel
theorem dX7_shift_21 : decode cX7_shift 21 = .ok (.aload_n 0, 1) := by decide +kernel
theorem dX7_shift_22 : decode cX7_shift 22 = .ok (.iload_n 3, 1) := by decide +kernel
theorem dX7_shift_23 : decode cX7_shift 23 = .ok (.sipush (-255), 3) := by decide +kernel
theorem dX7_shift_26 : decode cX7_shift 26 = .ok (.sipush 255, 3) := by decide +kernel
theorem dX7_shift_29 : decode cX7_shift 29 = .ok (.invokestatic 58, 3) := by decide +kernel
theorem dX7_shift_32 : decode cX7_shift 32 = .ok (.ifCond .ne 7, 3) := by decide +kernel
theorem dX7_shift_35 : decode cX7_shift 35 = .ok (.iconst 1, 1) := by decide +kernel
theorem dX7_shift_36 : decode cX7_shift 36 = .ok (.goto 4, 3) := by decide +kernel
theorem dX7_shift_39 : decode cX7_shift 39 = .ok (.iconst 0, 1) := by decide +kernel
theorem dX7_shift_40 : decode cX7_shift 40 = .ok (.iconst 2, 1) := by decide +kernel
theorem dX7_shift_41 : decode cX7_shift 41 = .ok (.invokevirtual 159, 3) := by decide +kernel
theorem dX7_shift_44 : decode cX7_shift 44 = .ok (.ifCond .ne 31, 3) := by decide +kernel
theorem dX7_shift_47 : decode cX7_shift 47 = .ok (.aload_n 0, 1) := by decide +kernel
theorem dX7_shift_48 : decode cX7_shift 48 = .ok (.aload_n 0, 1) := by decide +kernel
theorem dX7_shift_49 : decode cX7_shift 49 = .ok (.getfield 17, 3) := by decide +kernel
theorem dX7_shift_52 : decode cX7_shift 52 = .ok (.iload_n 1, 1) := by decide +kernel
theorem dX7_shift_53 : decode cX7_shift 53 = .ok (.invokestatic 136, 3) := by decide +kernel
theorem dX7_shift_56 : decode cX7_shift 56 = .ok (.iconst 2, 1) := by decide +kernel
theorem dX7_shift_57 : decode cX7_shift 57 = .ok (.iadd, 1) := by decide +kernel
theorem dX7_shift_58 : decode cX7_shift 58 = .ok (.iaload, 1) := by decide +kernel
theorem dX7_shift_59 : decode cX7_shift 59 = .ok (.iconst 1, 1) := by decide +kernel
theorem dX7_shift_60 : decode cX7_shift 60 = .ok (.if_icmp .ne 7, 3) := by decide +kernel
theorem dX7_shift_63 : decode cX7_shift 63 = .ok (.iconst 1, 1) := by decide +kernel
theorem dX7_shift_64 : decode cX7_shift 64 = .ok (.goto 4, 3) := by decide +kernel
theorem dX7_shift_67 : decode cX7_shift 67 = .ok (.iconst 0, 1) := by decide +kernel
theorem dX7_shift_68 : decode cX7_shift 68 = .ok (.iconst 3, 1) := by decide +kernel
theorem dX7_shift_69 : decode cX7_shift 69 = .ok (.invokevirtual 159, 3) := by decide +kernel
theorem dX7_shift_72 : decode cX7_shift 72 = .ok (.ifCond .eq 5, 3) := by decide +kernel
theorem dX7_shift_75 : decode cX7_shift 75 = .ok (.iconst 0, 1) := by decide +kernel
theorem dX7_shift_76 : decode cX7_shift 76 = .ok (.ireturn, 1) := by decide +kernel
theorem dX7_shift_77 : decode cX7_shift 77 = .ok (.aload_n 0, 1) := by decide +kernel
theorem dX7_shift_78 : decode cX7_shift 78 = .ok (.invokevirtual 166, 3) := by decide +kernel
theorem dX7_shift_81 : decode cX7_shift 81 = .ok (.aload_n 0, 1) := by decide +kernel
theorem dX7_shift_82 : decode cX7_shift 82 = .ok (.iload_n 1, 1) := by decide +kernel
theorem dX7_shift_83 : decode cX7_shift 83 = .ok (.iload_n 2, 1) := by decide +kernel
theorem dX7_shift_84 : decode cX7_shift 84 = .ok (.iload_n 3, 1) := by decide +kernel
theorem dX7_shift_85 : decode cX7_shift 85 = .ok (.invokevirtual 286, 3) := by decide +kernel
theorem dX7_shift_88 : decode cX7_shift 88 = .ok (.ireturn, 1) := by decide +kernel
theorem dX7_repair_0 : decode cX7_repair 0 = .ok (.aload_n 0, 1) := by decide +kernel
theorem dX7_repair_1 : decode cX7_repair 1 = .ok (.iconst 0, 1) := by decide +kernel
theorem dX7_repair_2 : decode cX7_repair 2 = .ok (.putfield 35, 3) := by decide +kernel
theorem dX7_repair_5 : decode cX7_repair 5 = .ok (.aload_n 0, 1) := by decide +kernel
theorem dX7_repair_6 : decode cX7_repair 6 = .ok (.iload_n 1, 1) := by decide +kernel
theorem dX7_repair_7 : decode cX7_repair 7 = .ok (.iconst 1, 1) := by decide +kernel
theorem dX7_repair_8 : decode cX7_repair 8 = .ok (.bipush 6, 2) := by decide +kernel
theorem dX7_repair_10 : decode cX7_repair 10 = .ok (.invokestatic 58, 3) := by decide +kernel
theorem dX7_repair_13 : decode cX7_repair 13 = .ok (.ifCond .ne 7, 3) := by decide +kernel
theorem dX7_repair_16 : decode cX7_repair 16 = .ok (.iconst 1, 1) := by decide +kernel
theorem dX7_repair_17 : decode cX7_repair 17 = .ok (.goto 4, 3) := by decide +kernel
theorem dX7_repair_20 : decode cX7_repair 20 = .ok (.iconst 0, 1) := by decide +kernel
theorem dX7_repair_21 : decode cX7_repair 21 = .ok (.iconst 1, 1) := by decide +kernel
theorem dX7_repair_22 : decode cX7_repair 22 = .ok (.invokevirtual 159, 3) := by decide +kernel
theorem dX7_repair_25 : decode cX7_repair 25 = .ok (.ifCond .eq 5, 3) := by decide +kernel
theorem dX7_repair_28 : decode cX7_repair 28 = .ok (.iconst 0, 1) := by decide +kernel
theorem dX7_repair_29 : decode cX7_repair 29 = .ok (.ireturn, 1) := by decide +kernel
theorem dX7_repair_30 : decode cX7_repair 30 = .ok (.aload_n 0, 1) := by decide +kernel
theorem dX7_repair_31 : decode cX7_repair 31 = .ok (.invokevirtual 166, 3) := by decide +kernel
theorem dX7_repair_34 : decode cX7_repair 34 = .ok (.iconst 0, 1) := by decide +kernel
theorem dX7_repair_35 : decode cX7_repair 35 = .ok (.istore_n 2, 1) := by decide +kernel
theorem dX7_repair_36 : decode cX7_repair 36 = .ok (.iload_n 2, 1) := by decide +kernel
theorem dX7_repair_37 : decode cX7_repair 37 = .ok (.iload_n 1, 1) := by decide +kernel
theorem dX7_repair_38 : decode cX7_repair 38 = .ok (.if_icmp .ge 35, 3) := by decide +kernel
theorem dX7_repair_41 : decode cX7_repair 41 = .ok (.aload_n 0, 1) := by decide +kernel
theorem dX7_repair_42 : decode cX7_repair 42 = .ok (.invokevirtual 289, 3) := by decide +kernel
theorem dX7_repair_45 : decode cX7_repair 45 = .ok (.ifCond .ne 5, 3) := by decide +kernel
theorem dX7_repair_48 : decode cX7_repair 48 = .ok (.iload_n 2, 1) := by decide +kernel
theorem dX7_repair_49 : decode cX7_repair 49 = .ok (.ireturn, 1) := by decide +kernel
theorem dX7_repair_50 : decode cX7_repair 50 = .ok (.aload_n 0, 1) := by decide +kernel
theorem dX7_repair_51 : decode cX7_repair 51 = .ok (.aload_n 0, 1) := by decide +kernel
theorem dX7_repair_52 : decode cX7_repair 52 = .ok (.getfield 251, 3) := by decide +kernel
theorem dX7_repair_55 : decode cX7_repair 55 = .ok (.aload_n 0, 1) := by decide +kernel
theorem dX7_repair_56 : decode cX7_repair 56 = .ok (.getfield 258, 3) := by decide +kernel
theorem dX7_repair_59 : decode cX7_repair 59 = .ok (.aload_n 0, 1) := by decide +kernel
theorem dX7_repair_60 : decode cX7_repair 60 = .ok (.getfield 248, 3) := by decide +kernel
theorem dX7_repair_63 : decode cX7_repair 63 = .ok (.invokevirtual 286, 3) := by decide +kernel
theorem dX7_repair_66 : decode cX7_repair 66 = .ok (.pop, 1) := by decide +kernel
theorem dX7_repair_67 : decode cX7_repair 67 = .ok (.iinc 2 1, 3) := by decide +kernel
theorem dX7_repair_70 : decode cX7_repair 70 = .ok (.goto (-34), 3) := by decide +kernel
theorem dX7_repair_73 : decode cX7_repair 73 = .ok (.iload_n 1, 1) := by decide +kernel
theorem dX7_repair_74 : decode cX7_repair 74 = .ok (.ireturn, 1) := by decide +kernel
theorem dX7_swapSchemes_0 : decode cX7_swapSchemes 0 = .ok (.aload_n 0, 1) := by decide +kernel
theorem dX7_swapSchemes_1 : decode cX7_swapSchemes 1 = .ok (.iconst 0, 1) := by decide +kernel
theorem dX7_swapSchemes_2 : decode cX7_swapSchemes 2 = .ok (.putfield 35, 3) := by decide +kernel
theorem dX7_swapSchemes_5 : decode cX7_swapSchemes 5 = .ok (.aload_n 0, 1) := by decide +kernel
theorem dX7_swapSchemes_6 : decode cX7_swapSchemes 6 = .ok (.invokevirtual 166, 3) := by decide +kernel
theorem dX7_swapSchemes_9 : decode cX7_swapSchemes 9 = .ok (.iconst 0, 1) := by decide +kernel
theorem dX7_swapSchemes_10 : decode cX7_swapSchemes 10 = .ok (.istore_n 1, 1) := by decide +kernel
theorem dX7_swapSchemes_11 : decode cX7_swapSchemes 11 = .ok (.iload_n 1, 1) := by decide +kernel
theorem dX7_swapSchemes_12 : decode cX7_swapSchemes 12 = .ok (.aload_n 0, 1) := by decide +kernel
theorem dX7_swapSchemes_13 : decode cX7_swapSchemes 13 = .ok (.getfield 17, 3) := by decide +kernel
theorem dX7_swapSchemes_16 : decode cX7_swapSchemes 16 = .ok (.iconst 0, 1) := by decide +kernel
theorem dX7_swapSchemes_17 : decode cX7_swapSchemes 17 = .ok (.iaload, 1) := by decide +kernel
theorem dX7_swapSchemes_18 : decode cX7_swapSchemes 18 = .ok (.if_icmp .ge 51, 3) := by decide +kernel
theorem dX7_swapSchemes_21 : decode cX7_swapSchemes 21 = .ok (.aload_n 0, 1) := by decide +kernel
theorem dX7_swapSchemes_22 : decode cX7_swapSchemes 22 = .ok (.getfield 17, 3) := by decide +kernel
theorem dX7_swapSchemes_25 : decode cX7_swapSchemes 25 = .ok (.iload_n 1, 1) := by decide +kernel
theorem dX7_swapSchemes_26 : decode cX7_swapSchemes 26 = .ok (.invokestatic 136, 3) := by decide +kernel
theorem dX7_swapSchemes_29 : decode cX7_swapSchemes 29 = .ok (.iaload, 1) := by decide +kernel
theorem dX7_swapSchemes_30 : decode cX7_swapSchemes 30 = .ok (.istore_n 2, 1) := by decide +kernel
theorem dX7_swapSchemes_31 : decode cX7_swapSchemes 31 = .ok (.aload_n 0, 1) := by decide +kernel
theorem dX7_swapSchemes_32 : decode cX7_swapSchemes 32 = .ok (.getfield 17, 3) := by decide +kernel
theorem dX7_swapSchemes_35 : decode cX7_swapSchemes 35 = .ok (.iload_n 1, 1) := by decide +kernel
theorem dX7_swapSchemes_36 : decode cX7_swapSchemes 36 = .ok (.invokestatic 136, 3) := by decide +kernel
theorem dX7_swapSchemes_39 : decode cX7_swapSchemes 39 = .ok (.aload_n 0, 1) := by decide +kernel
theorem dX7_swapSchemes_40 : decode cX7_swapSchemes 40 = .ok (.getfield 17, 3) := by decide +kernel
theorem dX7_swapSchemes_43 : decode cX7_swapSchemes 43 = .ok (.iload_n 1, 1) := by decide +kernel
theorem dX7_swapSchemes_44 : decode cX7_swapSchemes 44 = .ok (.invokestatic 136, 3) := by decide +kernel
theorem dX7_swapSchemes_47 : decode cX7_swapSchemes 47 = .ok (.iconst 1, 1) := by decide +kernel
theorem dX7_swapSchemes_48 : decode cX7_swapSchemes 48 = .ok (.iadd, 1) := by decide +kernel
theorem dX7_swapSchemes_49 : decode cX7_swapSchemes 49 = .ok (.iaload, 1) := by decide +kernel
theorem dX7_swapSchemes_50 : decode cX7_swapSchemes 50 = .ok (.iastore, 1) := by decide +kernel
theorem dX7_swapSchemes_51 : decode cX7_swapSchemes 51 = .ok (.aload_n 0, 1) := by decide +kernel
theorem dX7_swapSchemes_52 : decode cX7_swapSchemes 52 = .ok (.getfield 17, 3) := by decide +kernel
theorem dX7_swapSchemes_55 : decode cX7_swapSchemes 55 = .ok (.iload_n 1, 1) := by decide +kernel
theorem dX7_swapSchemes_56 : decode cX7_swapSchemes 56 = .ok (.invokestatic 136, 3) := by decide +kernel
theorem dX7_swapSchemes_59 : decode cX7_swapSchemes 59 = .ok (.iconst 1, 1) := by decide +kernel
theorem dX7_swapSchemes_60 : decode cX7_swapSchemes 60 = .ok (.iadd, 1) := by decide +kernel
theorem dX7_swapSchemes_61 : decode cX7_swapSchemes 61 = .ok (.iload_n 2, 1) := by decide +kernel
theorem dX7_swapSchemes_62 : decode cX7_swapSchemes 62 = .ok (.iastore, 1) := by decide +kernel
theorem dX7_swapSchemes_63 : decode cX7_swapSchemes 63 = .ok (.iinc 1 1, 3) := by decide +kernel
theorem dX7_swapSchemes_66 : decode cX7_swapSchemes 66 = .ok (.goto (-55), 3) := by decide +kernel
theorem dX7_swapSchemes_69 : decode cX7_swapSchemes 69 = .ok (.aload_n 0, 1) := by decide +kernel
theorem dX7_swapSchemes_70 : decode cX7_swapSchemes 70 = .ok (.invokevirtual 280, 3) := by decide +kernel
theorem dX7_swapSchemes_73 : decode cX7_swapSchemes 73 = .ok (.ireturn, 1) := by decide +kernel
theorem dX7_undo_0 : decode cX7_undo 0 = .ok (.aload_n 0, 1) := by decide +kernel
theorem dX7_undo_1 : decode cX7_undo 1 = .ok (.iconst 0, 1) := by decide +kernel
theorem dX7_undo_2 : decode cX7_undo 2 = .ok (.putfield 35, 3) := by decide +kernel
theorem dX7_undo_5 : decode cX7_undo 5 = .ok (.aload_n 0, 1) := by decide +kernel
theorem dX7_undo_6 : decode cX7_undo 6 = .ok (.getfield 283, 3) := by decide +kernel
theorem dX7_undo_9 : decode cX7_undo 9 = .ok (.ifCond .ne 5, 3) := by decide +kernel
theorem dX7_undo_12 : decode cX7_undo 12 = .ok (.iconst (-1), 1) := by decide +kernel
theorem dX7_undo_13 : decode cX7_undo 13 = .ok (.ireturn, 1) := by decide +kernel
theorem dX7_undo_14 : decode cX7_undo 14 = .ok (.aload_n 0, 1) := by decide +kernel
theorem dX7_undo_15 : decode cX7_undo 15 = .ok (.dup, 1) := by decide +kernel
theorem dX7_undo_16 : decode cX7_undo 16 = .ok (.getfield 283, 3) := by decide +kernel
theorem dX7_undo_19 : decode cX7_undo 19 = .ok (.iconst 1, 1) := by decide +kernel
theorem dX7_undo_20 : decode cX7_undo 20 = .ok (.isub, 1) := by decide +kernel
theorem dX7_undo_21 : decode cX7_undo 21 = .ok (.putfield 283, 3) := by decide +kernel
theorem dX7_undo_24 : decode cX7_undo 24 = .ok (.aload_n 0, 1) := by decide +kernel
theorem dX7_undo_25 : decode cX7_undo 25 = .ok (.getfield 25, 3) := by decide +kernel
theorem dX7_undo_28 : decode cX7_undo 28 = .ok (.aload_n 0, 1) := by decide +kernel
theorem dX7_undo_29 : decode cX7_undo 29 = .ok (.getfield 283, 3) := by decide +kernel
theorem dX7_undo_32 : decode cX7_undo 32 = .ok (.aaload, 1) := by decide +kernel
theorem dX7_undo_33 : decode cX7_undo 33 = .ok (.aload_n 0, 1) := by decide +kernel
theorem dX7_undo_34 : decode cX7_undo 34 = .ok (.getfield 17, 3) := by decide +kernel
theorem dX7_undo_37 : decode cX7_undo 37 = .ok (.invokestatic 169, 3) := by decide +kernel
theorem dX7_undo_40 : decode cX7_undo 40 = .ok (.aload_n 0, 1) := by decide +kernel
theorem dX7_undo_41 : decode cX7_undo 41 = .ok (.invokevirtual 173, 3) := by decide +kernel
theorem dX7_undo_44 : decode cX7_undo 44 = .ok (.aload_n 0, 1) := by decide +kernel
theorem dX7_undo_45 : decode cX7_undo 45 = .ok (.getfield 283, 3) := by decide +kernel
theorem dX7_undo_48 : decode cX7_undo 48 = .ok (.ireturn, 1) := by decide +kernel
theorem dX7_checksum_0 : decode cX7_checksum 0 = .ok (.aload_n 0, 1) := by decide +kernel
theorem dX7_checksum_1 : decode cX7_checksum 1 = .ok (.iconst 0, 1) := by decide +kernel
theorem dX7_checksum_2 : decode cX7_checksum 2 = .ok (.putfield 35, 3) := by decide +kernel
theorem dX7_checksum_5 : decode cX7_checksum 5 = .ok (.lconst 0, 1) := by decide +kernel
theorem dX7_checksum_6 : decode cX7_checksum 6 = .ok (.lstore_n 1, 1) := by decide +kernel
theorem dX7_checksum_7 : decode cX7_checksum 7 = .ok (.iconst 0, 1) := by decide +kernel
theorem dX7_checksum_8 : decode cX7_checksum 8 = .ok (.istore_n 3, 1) := by decide +kernel
theorem dX7_checksum_9 : decode cX7_checksum 9 = .ok (.iload_n 3, 1) := by decide +kernel
theorem dX7_checksum_10 : decode cX7_checksum 10 = .ok (.aload_n 0, 1) := by decide +kernel
theorem dX7_checksum_11 : decode cX7_checksum 11 = .ok (.getfield 17, 3) := by decide +kernel
theorem dX7_checksum_14 : decode cX7_checksum 14 = .ok (.iconst 0, 1) := by decide +kernel
theorem dX7_checksum_15 : decode cX7_checksum 15 = .ok (.iaload, 1) := by decide +kernel
theorem dX7_checksum_16 : decode cX7_checksum 16 = .ok (.if_icmp .ge 44, 3) := by decide +kernel
theorem dX7_checksum_19 : decode cX7_checksum 19 = .ok (.iconst 0, 1) := by decide +kernel
theorem dX7_checksum_20 : decode cX7_checksum 20 = .ok (.istore 4, 2) := by decide +kernel
theorem dX7_checksum_22 : decode cX7_checksum 22 = .ok (.iload 4, 2) := by decide +kernel
theorem dX7_checksum_24 : decode cX7_checksum 24 = .ok (.iconst 3, 1) := by decide +kernel
theorem dX7_checksum_25 : decode cX7_checksum 25 = .ok (.if_icmp .ge 29, 3) := by decide +kernel
theorem dX7_checksum_28 : decode cX7_checksum 28 = .ok (.ldc2_w 292, 3) := by decide +kernel
theorem dX7_checksum_31 : decode cX7_checksum 31 = .ok (.lload_n 1, 1) := by decide +kernel
theorem dX7_checksum_32 : decode cX7_checksum 32 = .ok (.lmul, 1) := by decide +kernel
theorem dX7_checksum_33 : decode cX7_checksum 33 = .ok (.aload_n 0, 1) := by decide +kernel
theorem dX7_checksum_34 : decode cX7_checksum 34 = .ok (.getfield 17, 3) := by decide +kernel
theorem dX7_checksum_37 : decode cX7_checksum 37 = .ok (.iload_n 3, 1) := by decide +kernel
theorem dX7_checksum_38 : decode cX7_checksum 38 = .ok (.invokestatic 136, 3) := by decide +kernel
theorem dX7_checksum_41 : decode cX7_checksum 41 = .ok (.iload 4, 2) := by decide +kernel
theorem dX7_checksum_43 : decode cX7_checksum 43 = .ok (.iadd, 1) := by decide +kernel
theorem dX7_checksum_44 : decode cX7_checksum 44 = .ok (.iaload, 1) := by decide +kernel
theorem dX7_checksum_45 : decode cX7_checksum 45 = .ok (.i2l, 1) := by decide +kernel
theorem dX7_checksum_46 : decode cX7_checksum 46 = .ok (.ladd, 1) := by decide +kernel
theorem dX7_checksum_47 : decode cX7_checksum 47 = .ok (.lstore_n 1, 1) := by decide +kernel
theorem dX7_checksum_48 : decode cX7_checksum 48 = .ok (.iinc 4 1, 3) := by decide +kernel
theorem dX7_checksum_51 : decode cX7_checksum 51 = .ok (.goto (-29), 3) := by decide +kernel
theorem dX7_checksum_54 : decode cX7_checksum 54 = .ok (.iinc 3 1, 3) := by decide +kernel
theorem dX7_checksum_57 : decode cX7_checksum 57 = .ok (.goto (-48), 3) := by decide +kernel
theorem dX7_checksum_60 : decode cX7_checksum 60 = .ok (.iconst 0, 1) := by decide +kernel
theorem dX7_checksum_61 : decode cX7_checksum 61 = .ok (.istore_n 3, 1) := by decide +kernel
theorem dX7_checksum_62 : decode cX7_checksum 62 = .ok (.iload_n 3, 1) := by decide +kernel
theorem dX7_checksum_63 : decode cX7_checksum 63 = .ok (.aload_n 0, 1) := by decide +kernel
theorem dX7_checksum_64 : decode cX7_checksum 64 = .ok (.getfield 17, 3) := by decide +kernel
theorem dX7_checksum_67 : decode cX7_checksum 67 = .ok (.iconst 1, 1) := by decide +kernel
theorem dX7_checksum_68 : decode cX7_checksum 68 = .ok (.iaload, 1) := by decide +kernel
theorem dX7_checksum_69 : decode cX7_checksum 69 = .ok (.if_icmp .ge 35, 3) := by decide +kernel
theorem dX7_checksum_72 : decode cX7_checksum 72 = .ok (.ldc2_w 292, 3) := by decide +kernel
theorem dX7_checksum_75 : decode cX7_checksum 75 = .ok (.ldc2_w 292, 3) := by decide +kernel
theorem dX7_checksum_78 : decode cX7_checksum 78 = .ok (.lload_n 1, 1) := by decide +kernel
theorem dX7_checksum_79 : decode cX7_checksum 79 = .ok (.lmul, 1) := by decide +kernel
theorem dX7_checksum_80 : decode cX7_checksum 80 = .ok (.aload_n 0, 1) := by decide +kernel
theorem dX7_checksum_81 : decode cX7_checksum 81 = .ok (.iload_n 3, 1) := by decide +kernel
theorem dX7_checksum_82 : decode cX7_checksum 82 = .ok (.iconst 0, 1) := by decide +kernel
theorem dX7_checksum_83 : decode cX7_checksum 83 = .ok (.invokevirtual 232, 3) := by decide +kernel
theorem dX7_checksum_86 : decode cX7_checksum 86 = .ok (.i2l, 1) := by decide +kernel
theorem dX7_checksum_87 : decode cX7_checksum 87 = .ok (.ladd, 1) := by decide +kernel
theorem dX7_checksum_88 : decode cX7_checksum 88 = .ok (.lmul, 1) := by decide +kernel
theorem dX7_checksum_89 : decode cX7_checksum 89 = .ok (.aload_n 0, 1) := by decide +kernel
theorem dX7_checksum_90 : decode cX7_checksum 90 = .ok (.iload_n 3, 1) := by decide +kernel
theorem dX7_checksum_91 : decode cX7_checksum 91 = .ok (.iconst 1, 1) := by decide +kernel
theorem dX7_checksum_92 : decode cX7_checksum 92 = .ok (.invokevirtual 232, 3) := by decide +kernel
theorem dX7_checksum_95 : decode cX7_checksum 95 = .ok (.i2l, 1) := by decide +kernel
theorem dX7_checksum_96 : decode cX7_checksum 96 = .ok (.ladd, 1) := by decide +kernel
theorem dX7_checksum_97 : decode cX7_checksum 97 = .ok (.lstore_n 1, 1) := by decide +kernel
theorem dX7_checksum_98 : decode cX7_checksum 98 = .ok (.iinc 3 1, 3) := by decide +kernel
theorem dX7_checksum_101 : decode cX7_checksum 101 = .ok (.goto (-39), 3) := by decide +kernel
theorem dX7_checksum_104 : decode cX7_checksum 104 = .ok (.lload_n 1, 1) := by decide +kernel
theorem dX7_checksum_105 : decode cX7_checksum 105 = .ok (.lreturn, 1) := by decide +kernel
theorem dJ9_abs_0f7a4_0 : decode cJ9_abs_0f7a4 0 = .ok (.iload_n 0, 1) := by decide +kernel
theorem dJ9_abs_0f7a4_1 : decode cJ9_abs_0f7a4 1 = .ok (.ifCond .ge 8, 3) := by decide +kernel
theorem dJ9_abs_0f7a4_4 : decode cJ9_abs_0f7a4 4 = .ok (.iload_n 0, 1) := by decide +kernel
theorem dJ9_abs_0f7a4_5 : decode cJ9_abs_0f7a4 5 = .ok (.ineg, 1) := by decide +kernel
theorem dJ9_abs_0f7a4_6 : decode cJ9_abs_0f7a4 6 = .ok (.goto 4, 3) := by decide +kernel
theorem dJ9_abs_0f7a4_9 : decode cJ9_abs_0f7a4 9 = .ok (.iload_n 0, 1) := by decide +kernel
theorem dJ9_abs_0f7a4_10 : decode cJ9_abs_0f7a4 10 = .ok (.ireturn, 1) := by decide +kernel
theorem dJ9_max_7cf53_0 : decode cJ9_max_7cf53 0 = .ok (.iload_n 0, 1) := by decide +kernel
theorem dJ9_max_7cf53_1 : decode cJ9_max_7cf53 1 = .ok (.iload_n 1, 1) := by decide +kernel
theorem dJ9_max_7cf53_2 : decode cJ9_max_7cf53 2 = .ok (.if_icmp .lt 7, 3) := by decide +kernel
theorem dJ9_max_7cf53_5 : decode cJ9_max_7cf53 5 = .ok (.iload_n 0, 1) := by decide +kernel
theorem dJ9_max_7cf53_6 : decode cJ9_max_7cf53 6 = .ok (.goto 4, 3) := by decide +kernel
theorem dJ9_max_7cf53_9 : decode cJ9_max_7cf53 9 = .ok (.iload_n 1, 1) := by decide +kernel
theorem dJ9_max_7cf53_10 : decode cJ9_max_7cf53 10 = .ok (.ireturn, 1) := by decide +kernel
theorem dJ9_max_f86c9_0 : decode cJ9_max_f86c9 0 = .ok (.lload_n 0, 1) := by decide +kernel
theorem dJ9_max_f86c9_1 : decode cJ9_max_f86c9 1 = .ok (.lload_n 2, 1) := by decide +kernel
theorem dJ9_max_f86c9_2 : decode cJ9_max_f86c9 2 = .ok (.lcmp, 1) := by decide +kernel
theorem dJ9_max_f86c9_3 : decode cJ9_max_f86c9 3 = .ok (.ifCond .lt 7, 3) := by decide +kernel
theorem dJ9_max_f86c9_6 : decode cJ9_max_f86c9 6 = .ok (.lload_n 0, 1) := by decide +kernel
theorem dJ9_max_f86c9_7 : decode cJ9_max_f86c9 7 = .ok (.goto 4, 3) := by decide +kernel
theorem dJ9_max_f86c9_10 : decode cJ9_max_f86c9 10 = .ok (.lload_n 2, 1) := by decide +kernel
theorem dJ9_max_f86c9_11 : decode cJ9_max_f86c9 11 = .ok (.lreturn, 1) := by decide +kernel
theorem dJ9_min_7cf53_0 : decode cJ9_min_7cf53 0 = .ok (.iload_n 0, 1) := by decide +kernel
theorem dJ9_min_7cf53_1 : decode cJ9_min_7cf53 1 = .ok (.iload_n 1, 1) := by decide +kernel
theorem dJ9_min_7cf53_2 : decode cJ9_min_7cf53 2 = .ok (.if_icmp .gt 7, 3) := by decide +kernel
theorem dJ9_min_7cf53_5 : decode cJ9_min_7cf53 5 = .ok (.iload_n 0, 1) := by decide +kernel
theorem dJ9_min_7cf53_6 : decode cJ9_min_7cf53 6 = .ok (.goto 4, 3) := by decide +kernel
theorem dJ9_min_7cf53_9 : decode cJ9_min_7cf53 9 = .ok (.iload_n 1, 1) := by decide +kernel
theorem dJ9_min_7cf53_10 : decode cJ9_min_7cf53 10 = .ok (.ireturn, 1) := by decide +kernel
theorem dJ9_min_f86c9_0 : decode cJ9_min_f86c9 0 = .ok (.lload_n 0, 1) := by decide +kernel
theorem dJ9_min_f86c9_1 : decode cJ9_min_f86c9 1 = .ok (.lload_n 2, 1) := by decide +kernel
theorem dJ9_min_f86c9_2 : decode cJ9_min_f86c9 2 = .ok (.lcmp, 1) := by decide +kernel
theorem dJ9_min_f86c9_3 : decode cJ9_min_f86c9 3 = .ok (.ifCond .gt 7, 3) := by decide +kernel
theorem dJ9_min_f86c9_6 : decode cJ9_min_f86c9 6 = .ok (.lload_n 0, 1) := by decide +kernel
theorem dJ9_min_f86c9_7 : decode cJ9_min_f86c9 7 = .ok (.goto 4, 3) := by decide +kernel
theorem dJ9_min_f86c9_10 : decode cJ9_min_f86c9 10 = .ok (.lload_n 2, 1) := by decide +kernel
theorem dJ9_min_f86c9_11 : decode cJ9_min_f86c9 11 = .ok (.lreturn, 1) := by decide +kernel
theorem dJ0_length_8abf5_0 : decode cJ0_length_8abf5 0 = .ok (.aload_n 0, 1) := by decide +kernel
theorem dJ0_length_8abf5_1 : decode cJ0_length_8abf5 1 = .ok (.getfield 9, 3) := by decide +kernel
theorem dJ0_length_8abf5_4 : decode cJ0_length_8abf5 4 = .ok (.arraylength, 1) := by decide +kernel
theorem dJ0_length_8abf5_5 : decode cJ0_length_8abf5 5 = .ok (.aload_n 0, 1) := by decide +kernel
theorem dJ0_length_8abf5_6 : decode cJ0_length_8abf5 6 = .ok (.invokevirtual 335, 3) := by decide +kernel
theorem dJ0_length_8abf5_9 : decode cJ0_length_8abf5 9 = .ok (.ishr, 1) := by decide +kernel
theorem dJ0_length_8abf5_10 : decode cJ0_length_8abf5 10 = .ok (.ireturn, 1) := by decide +kernel
theorem dJ0_charAt_5068e_0 : decode cJ0_charAt_5068e 0 = .ok (.aload_n 0, 1) := by decide +kernel
theorem dJ0_charAt_5068e_1 : decode cJ0_charAt_5068e 1 = .ok (.invokevirtual 492, 3) := by decide +kernel
theorem dJ0_charAt_5068e_4 : decode cJ0_charAt_5068e 4 = .ok (.ifCond .eq 12, 3) := by decide +kernel
theorem dJ0_charAt_5068e_7 : decode cJ0_charAt_5068e 7 = .ok (.aload_n 0, 1) := by decide +kernel
theorem dJ0_charAt_5068e_8 : decode cJ0_charAt_5068e 8 = .ok (.getfield 9, 3) := by decide +kernel
theorem dJ0_charAt_5068e_11 : decode cJ0_charAt_5068e 11 = .ok (.iload_n 1, 1) := by decide +kernel
theorem dJ0_charAt_5068e_12 : decode cJ0_charAt_5068e 12 = .ok (.invokestatic 495, 3) := by decide +kernel
theorem dJ0_charAt_5068e_15 : decode cJ0_charAt_5068e 15 = .ok (.ireturn, 1) := by decide +kernel
theorem dJ0_charAt_5068e_16 : decode cJ0_charAt_5068e 16 = .ok (.aload_n 0, 1) := by decide +kernel
theorem dJ0_charAt_5068e_17 : decode cJ0_charAt_5068e 17 = .ok (.getfield 9, 3) := by decide +kernel
theorem dJ0_charAt_5068e_20 : decode cJ0_charAt_5068e 20 = .ok (.iload_n 1, 1) := by decide +kernel
theorem dJ0_charAt_5068e_21 : decode cJ0_charAt_5068e 21 = .ok (.invokestatic 498, 3) := by decide +kernel
theorem dJ0_charAt_5068e_24 : decode cJ0_charAt_5068e 24 = .ok (.ireturn, 1) := by decide +kernel
theorem dJ0_coder_7d493_0 : decode cJ0_coder_7d493 0 = .ok (.getstatic 38, 3) := by decide +kernel
theorem dJ0_coder_7d493_3 : decode cJ0_coder_7d493 3 = .ok (.ifCond .eq 10, 3) := by decide +kernel
theorem dJ0_coder_7d493_6 : decode cJ0_coder_7d493 6 = .ok (.aload_n 0, 1) := by decide +kernel
theorem dJ0_coder_7d493_7 : decode cJ0_coder_7d493 7 = .ok (.getfield 15, 3) := by decide +kernel
theorem dJ0_coder_7d493_10 : decode cJ0_coder_7d493 10 = .ok (.goto 4, 3) := by decide +kernel
theorem dJ0_coder_7d493_13 : decode cJ0_coder_7d493 13 = .ok (.iconst 1, 1) := by decide +kernel
theorem dJ0_coder_7d493_14 : decode cJ0_coder_7d493 14 = .ok (.ireturn, 1) := by decide +kernel
theorem dJ0_isLatin1_aae02_0 : decode cJ0_isLatin1_aae02 0 = .ok (.getstatic 38, 3) := by decide +kernel
theorem dJ0_isLatin1_aae02_3 : decode cJ0_isLatin1_aae02 3 = .ok (.ifCond .eq 14, 3) := by decide +kernel
theorem dJ0_isLatin1_aae02_6 : decode cJ0_isLatin1_aae02 6 = .ok (.aload_n 0, 1) := by decide +kernel
theorem dJ0_isLatin1_aae02_7 : decode cJ0_isLatin1_aae02 7 = .ok (.getfield 15, 3) := by decide +kernel
theorem dJ0_isLatin1_aae02_10 : decode cJ0_isLatin1_aae02 10 = .ok (.ifCond .ne 7, 3) := by decide +kernel
theorem dJ0_isLatin1_aae02_13 : decode cJ0_isLatin1_aae02 13 = .ok (.iconst 1, 1) := by decide +kernel
theorem dJ0_isLatin1_aae02_14 : decode cJ0_isLatin1_aae02 14 = .ok (.goto 4, 3) := by decide +kernel
theorem dJ0_isLatin1_aae02_17 : decode cJ0_isLatin1_aae02 17 = .ok (.iconst 0, 1) := by decide +kernel
theorem dJ0_isLatin1_aae02_18 : decode cJ0_isLatin1_aae02 18 = .ok (.ireturn, 1) := by decide +kernel
theorem dJ0_checkIndex_df160_0 : decode cJ0_checkIndex_df160 0 = .ok (.iload_n 0, 1) := by decide +kernel
theorem dJ0_checkIndex_df160_1 : decode cJ0_checkIndex_df160 1 = .ok (.iload_n 1, 1) := by decide +kernel
theorem dJ0_checkIndex_df160_2 : decode cJ0_checkIndex_df160 2 = .ok (.getstatic 1053, 3) := by decide +kernel
theorem dJ0_checkIndex_df160_5 : decode cJ0_checkIndex_df160 5 = .ok (.invokestatic 1059, 3) := by decide +kernel
theorem dJ0_checkIndex_df160_8 : decode cJ0_checkIndex_df160 8 = .ok (.pop, 1) := by decide +kernel
theorem dJ0_checkIndex_df160_9 : decode cJ0_checkIndex_df160 9 = .ok (.return_, 1) := by decide +kernel
theorem dJ1_charAt_3b067_0 : decode cJ1_charAt_3b067 0 = .ok (.iload_n 1, 1) := by decide +kernel
theorem dJ1_charAt_3b067_1 : decode cJ1_charAt_3b067 1 = .ok (.aload_n 0, 1) := by decide +kernel
theorem dJ1_charAt_3b067_2 : decode cJ1_charAt_3b067 2 = .ok (.arraylength, 1) := by decide +kernel
theorem dJ1_charAt_3b067_3 : decode cJ1_charAt_3b067 3 = .ok (.invokestatic 9, 3) := by decide +kernel
theorem dJ1_charAt_3b067_6 : decode cJ1_charAt_3b067 6 = .ok (.aload_n 0, 1) := by decide +kernel
theorem dJ1_charAt_3b067_7 : decode cJ1_charAt_3b067 7 = .ok (.iload_n 1, 1) := by decide +kernel
theorem dJ1_charAt_3b067_8 : decode cJ1_charAt_3b067 8 = .ok (.baload, 1) := by decide +kernel
theorem dJ1_charAt_3b067_9 : decode cJ1_charAt_3b067 9 = .ok (.sipush 255, 3) := by decide +kernel
theorem dJ1_charAt_3b067_12 : decode cJ1_charAt_3b067 12 = .ok (.iand, 1) := by decide +kernel
theorem dJ1_charAt_3b067_13 : decode cJ1_charAt_3b067 13 = .ok (.i2c, 1) := by decide +kernel
theorem dJ1_charAt_3b067_14 : decode cJ1_charAt_3b067 14 = .ok (.ireturn, 1) := by decide +kernel
theorem dJ2_getChar_3b067_0 : decode cJ2_getChar_3b067 0 = .ok (.getstatic 44, 3) := by decide +kernel
theorem dJ2_getChar_3b067_3 : decode cJ2_getChar_3b067 3 = .ok (.ifCond .ne 25, 3) := by decide +kernel
theorem dJ2_getChar_3b067_6 : decode cJ2_getChar_3b067 6 = .ok (.iload_n 1, 1) := by decide +kernel
theorem dJ2_getChar_3b067_7 : decode cJ2_getChar_3b067 7 = .ok (.ifCond .lt 11, 3) := by decide +kernel
theorem dJ2_getChar_3b067_10 : decode cJ2_getChar_3b067 10 = .ok (.iload_n 1, 1) := by decide +kernel
theorem dJ2_getChar_3b067_11 : decode cJ2_getChar_3b067 11 = .ok (.aload_n 0, 1) := by decide +kernel
theorem dJ2_getChar_3b067_12 : decode cJ2_getChar_3b067 12 = .ok (.invokestatic 48, 3) := by decide +kernel
theorem dJ2_getChar_3b067_15 : decode cJ2_getChar_3b067 15 = .ok (.if_icmp .lt 13, 3) := by decide +kernel
theorem dJ2_getChar_3b067_18 : decode cJ2_getChar_3b067 18 = .ok (.new 52, 3) := by decide +kernel
theorem dJ2_getChar_3b067_21 : decode cJ2_getChar_3b067 21 = .ok (.dup, 1) := by decide +kernel
theorem dJ2_getChar_3b067_22 : decode cJ2_getChar_3b067 22 = .ok (.ldc 54, 2) := by decide +kernel
theorem dJ2_getChar_3b067_24 : decode cJ2_getChar_3b067 24 = .ok (.invokespecial 56, 3) := by decide +kernel
theorem dJ2_getChar_3b067_27 : decode cJ2_getChar_3b067 27 = .ok (.athrow, 1) := by decide +kernel
theorem dJ2_getChar_3b067_28 : decode cJ2_getChar_3b067 28 = .ok (.iload_n 1, 1) := by decide +kernel
theorem dJ2_getChar_3b067_29 : decode cJ2_getChar_3b067 29 = .ok (.iconst 1, 1) := by decide +kernel
theorem dJ2_getChar_3b067_30 : decode cJ2_getChar_3b067 30 = .ok (.ishl, 1) := by decide +kernel
theorem dJ2_getChar_3b067_31 : decode cJ2_getChar_3b067 31 = .ok (.istore_n 1, 1) := by decide +kernel
theorem dJ2_getChar_3b067_32 : decode cJ2_getChar_3b067 32 = .ok (.aload_n 0, 1) := by decide +kernel
theorem dJ2_getChar_3b067_33 : decode cJ2_getChar_3b067 33 = .ok (.iload_n 1, 1) := by decide +kernel
theorem dJ2_getChar_3b067_34 : decode cJ2_getChar_3b067 34 = .ok (.iinc 1 1, 3) := by decide +kernel
theorem dJ2_getChar_3b067_37 : decode cJ2_getChar_3b067 37 = .ok (.baload, 1) := by decide +kernel
theorem dJ2_getChar_3b067_38 : decode cJ2_getChar_3b067 38 = .ok (.sipush 255, 3) := by decide +kernel
theorem dJ2_getChar_3b067_41 : decode cJ2_getChar_3b067 41 = .ok (.iand, 1) := by decide +kernel
theorem dJ2_getChar_3b067_42 : decode cJ2_getChar_3b067 42 = .ok (.getstatic 59, 3) := by decide +kernel
theorem dJ2_getChar_3b067_45 : decode cJ2_getChar_3b067 45 = .ok (.ishl, 1) := by decide +kernel
theorem dJ2_getChar_3b067_46 : decode cJ2_getChar_3b067 46 = .ok (.aload_n 0, 1) := by decide +kernel
theorem dJ2_getChar_3b067_47 : decode cJ2_getChar_3b067 47 = .ok (.iload_n 1, 1) := by decide +kernel
theorem dJ2_getChar_3b067_48 : decode cJ2_getChar_3b067 48 = .ok (.baload, 1) := by decide +kernel
theorem dJ2_getChar_3b067_49 : decode cJ2_getChar_3b067 49 = .ok (.sipush 255, 3) := by decide +kernel
theorem dJ2_getChar_3b067_52 : decode cJ2_getChar_3b067 52 = .ok (.iand, 1) := by decide +kernel
theorem dJ2_getChar_3b067_53 : decode cJ2_getChar_3b067 53 = .ok (.getstatic 63, 3) := by decide +kernel
theorem dJ2_getChar_3b067_56 : decode cJ2_getChar_3b067 56 = .ok (.ishl, 1) := by decide +kernel
theorem dJ2_getChar_3b067_57 : decode cJ2_getChar_3b067 57 = .ok (.ior, 1) := by decide +kernel
theorem dJ2_getChar_3b067_58 : decode cJ2_getChar_3b067 58 = .ok (.i2c, 1) := by decide +kernel
theorem dJ2_getChar_3b067_59 : decode cJ2_getChar_3b067 59 = .ok (.ireturn, 1) := by decide +kernel
theorem dJ2_length_9d52b_0 : decode cJ2_length_9d52b 0 = .ok (.aload_n 0, 1) := by decide +kernel
theorem dJ2_length_9d52b_1 : decode cJ2_length_9d52b 1 = .ok (.arraylength, 1) := by decide +kernel
theorem dJ2_length_9d52b_2 : decode cJ2_length_9d52b 2 = .ok (.iconst 1, 1) := by decide +kernel
theorem dJ2_length_9d52b_3 : decode cJ2_length_9d52b 3 = .ok (.ishr, 1) := by decide +kernel
theorem dJ2_length_9d52b_4 : decode cJ2_length_9d52b 4 = .ok (.ireturn, 1) := by decide +kernel
theorem dJ2_charAt_3b067_0 : decode cJ2_charAt_3b067 0 = .ok (.iload_n 1, 1) := by decide +kernel
theorem dJ2_charAt_3b067_1 : decode cJ2_charAt_3b067 1 = .ok (.aload_n 0, 1) := by decide +kernel
theorem dJ2_charAt_3b067_2 : decode cJ2_charAt_3b067 2 = .ok (.invokestatic 67, 3) := by decide +kernel
theorem dJ2_charAt_3b067_5 : decode cJ2_charAt_3b067 5 = .ok (.aload_n 0, 1) := by decide +kernel
theorem dJ2_charAt_3b067_6 : decode cJ2_charAt_3b067 6 = .ok (.iload_n 1, 1) := by decide +kernel
theorem dJ2_charAt_3b067_7 : decode cJ2_charAt_3b067 7 = .ok (.invokestatic 71, 3) := by decide +kernel
theorem dJ2_charAt_3b067_10 : decode cJ2_charAt_3b067 10 = .ok (.ireturn, 1) := by decide +kernel
theorem dJ2_checkIndex_2214a_0 : decode cJ2_checkIndex_2214a 0 = .ok (.iload_n 0, 1) := by decide +kernel
theorem dJ2_checkIndex_2214a_1 : decode cJ2_checkIndex_2214a 1 = .ok (.aload_n 1, 1) := by decide +kernel
theorem dJ2_checkIndex_2214a_2 : decode cJ2_checkIndex_2214a 2 = .ok (.invokestatic 48, 3) := by decide +kernel
theorem dJ2_checkIndex_2214a_5 : decode cJ2_checkIndex_2214a 5 = .ok (.invokestatic 414, 3) := by decide +kernel
theorem dJ2_checkIndex_2214a_8 : decode cJ2_checkIndex_2214a 8 = .ok (.return_, 1) := by decide +kernel
theorem dJ3_checkIndex_8e157_0 : decode cJ3_checkIndex_8e157 0 = .ok (.iload_n 0, 1) := by decide +kernel
theorem dJ3_checkIndex_8e157_1 : decode cJ3_checkIndex_8e157 1 = .ok (.ifCond .lt 8, 3) := by decide +kernel
theorem dJ3_checkIndex_8e157_4 : decode cJ3_checkIndex_8e157 4 = .ok (.iload_n 0, 1) := by decide +kernel
theorem dJ3_checkIndex_8e157_5 : decode cJ3_checkIndex_8e157 5 = .ok (.iload_n 1, 1) := by decide +kernel
theorem dJ3_checkIndex_8e157_6 : decode cJ3_checkIndex_8e157 6 = .ok (.if_icmp .lt 10, 3) := by decide +kernel
theorem dJ3_checkIndex_8e157_9 : decode cJ3_checkIndex_8e157 9 = .ok (.aload_n 2, 1) := by decide +kernel
theorem dJ3_checkIndex_8e157_10 : decode cJ3_checkIndex_8e157 10 = .ok (.iload_n 0, 1) := by decide +kernel
theorem dJ3_checkIndex_8e157_11 : decode cJ3_checkIndex_8e157 11 = .ok (.iload_n 1, 1) := by decide +kernel
theorem dJ3_checkIndex_8e157_12 : decode cJ3_checkIndex_8e157 12 = .ok (.invokestatic 95, 3) := by decide +kernel
theorem dJ3_checkIndex_8e157_15 : decode cJ3_checkIndex_8e157 15 = .ok (.athrow, 1) := by decide +kernel
theorem dJ3_checkIndex_8e157_16 : decode cJ3_checkIndex_8e157 16 = .ok (.iload_n 0, 1) := by decide +kernel
theorem dJ3_checkIndex_8e157_17 : decode cJ3_checkIndex_8e157 17 = .ok (.ireturn, 1) := by decide +kernel
theorem dL_load_0 : decode cL_load 0 = .ok (.aload_n 2, 1) := by decide +kernel
theorem dL_load_1 : decode cL_load 1 = .ok (.iconst 0, 1) := by decide +kernel
theorem dL_load_2 : decode cL_load 2 = .ok (.aload_n 0, 1) := by decide +kernel
theorem dL_load_3 : decode cL_load 3 = .ok (.iload_n 1, 1) := by decide +kernel
theorem dL_load_4 : decode cL_load 4 = .ok (.invokevirtual 7, 3) := by decide +kernel
theorem dL_load_7 : decode cL_load 7 = .ok (.i2l, 1) := by decide +kernel
theorem dL_load_8 : decode cL_load 8 = .ok (.lastore, 1) := by decide +kernel
theorem dL_load_9 : decode cL_load 9 = .ok (.goto 6, 3) := by decide +kernel
theorem dL_load_12 : decode cL_load 12 = .ok (.astore_n 3, 1) := by decide +kernel
theorem dL_load_13 : decode cL_load 13 = .ok (.iconst 1, 1) := by decide +kernel
theorem dL_load_14 : decode cL_load 14 = .ok (.ireturn, 1) := by decide +kernel
theorem dL_load_15 : decode cL_load 15 = .ok (.iconst 0, 1) := by decide +kernel
theorem dL_load_16 : decode cL_load 16 = .ok (.ireturn, 1) := by decide +kernel
theorem dL_colour_0 : decode cL_colour 0 = .ok (.aload_n 3, 1) := by decide +kernel
theorem dL_colour_1 : decode cL_colour 1 = .ok (.iconst 0, 1) := by decide +kernel
theorem dL_colour_2 : decode cL_colour 2 = .ok (.aload_n 0, 1) := by decide +kernel
theorem dL_colour_3 : decode cL_colour 3 = .ok (.iload_n 1, 1) := by decide +kernel
theorem dL_colour_4 : decode cL_colour 4 = .ok (.iload_n 2, 1) := by decide +kernel
theorem dL_colour_5 : decode cL_colour 5 = .ok (.invokevirtual 15, 3) := by decide +kernel
theorem dL_colour_8 : decode cL_colour 8 = .ok (.i2l, 1) := by decide +kernel
theorem dL_colour_9 : decode cL_colour 9 = .ok (.lastore, 1) := by decide +kernel
theorem dL_colour_10 : decode cL_colour 10 = .ok (.goto 7, 3) := by decide +kernel
theorem dL_colour_13 : decode cL_colour 13 = .ok (.astore 4, 2) := by decide +kernel
theorem dL_colour_15 : decode cL_colour 15 = .ok (.iconst 1, 1) := by decide +kernel
theorem dL_colour_16 : decode cL_colour 16 = .ok (.ireturn, 1) := by decide +kernel
theorem dL_colour_17 : decode cL_colour 17 = .ok (.iconst 0, 1) := by decide +kernel
theorem dL_colour_18 : decode cL_colour 18 = .ok (.ireturn, 1) := by decide +kernel
theorem dL_isFixed_0 : decode cL_isFixed 0 = .ok (.aload_n 2, 1) := by decide +kernel
theorem dL_isFixed_1 : decode cL_isFixed 1 = .ok (.iconst 0, 1) := by decide +kernel
theorem dL_isFixed_2 : decode cL_isFixed 2 = .ok (.aload_n 0, 1) := by decide +kernel
theorem dL_isFixed_3 : decode cL_isFixed 3 = .ok (.iload_n 1, 1) := by decide +kernel
theorem dL_isFixed_4 : decode cL_isFixed 4 = .ok (.invokevirtual 21, 3) := by decide +kernel
theorem dL_isFixed_7 : decode cL_isFixed 7 = .ok (.ifCond .eq 7, 3) := by decide +kernel
theorem dL_isFixed_10 : decode cL_isFixed 10 = .ok (.lconst 1, 1) := by decide +kernel
theorem dL_isFixed_11 : decode cL_isFixed 11 = .ok (.goto 4, 3) := by decide +kernel
theorem dL_isFixed_14 : decode cL_isFixed 14 = .ok (.lconst 0, 1) := by decide +kernel
theorem dL_isFixed_15 : decode cL_isFixed 15 = .ok (.lastore, 1) := by decide +kernel
theorem dL_isFixed_16 : decode cL_isFixed 16 = .ok (.goto 6, 3) := by decide +kernel
theorem dL_isFixed_19 : decode cL_isFixed 19 = .ok (.astore_n 3, 1) := by decide +kernel
theorem dL_isFixed_20 : decode cL_isFixed 20 = .ok (.iconst 1, 1) := by decide +kernel
theorem dL_isFixed_21 : decode cL_isFixed 21 = .ok (.ireturn, 1) := by decide +kernel
theorem dL_isFixed_22 : decode cL_isFixed 22 = .ok (.iconst 0, 1) := by decide +kernel
theorem dL_isFixed_23 : decode cL_isFixed 23 = .ok (.ireturn, 1) := by decide +kernel
theorem dL_luminance_0 : decode cL_luminance 0 = .ok (.aload_n 3, 1) := by decide +kernel
theorem dL_luminance_1 : decode cL_luminance 1 = .ok (.iconst 0, 1) := by decide +kernel
theorem dL_luminance_2 : decode cL_luminance 2 = .ok (.aload_n 0, 1) := by decide +kernel
theorem dL_luminance_3 : decode cL_luminance 3 = .ok (.iload_n 1, 1) := by decide +kernel
theorem dL_luminance_4 : decode cL_luminance 4 = .ok (.iload_n 2, 1) := by decide +kernel
theorem dL_luminance_5 : decode cL_luminance 5 = .ok (.invokevirtual 25, 3) := by decide +kernel
theorem dL_luminance_8 : decode cL_luminance 8 = .ok (.i2l, 1) := by decide +kernel
theorem dL_luminance_9 : decode cL_luminance 9 = .ok (.lastore, 1) := by decide +kernel
theorem dL_luminance_10 : decode cL_luminance 10 = .ok (.goto 7, 3) := by decide +kernel
theorem dL_luminance_13 : decode cL_luminance 13 = .ok (.astore 4, 2) := by decide +kernel
theorem dL_luminance_15 : decode cL_luminance 15 = .ok (.iconst 1, 1) := by decide +kernel
theorem dL_luminance_16 : decode cL_luminance 16 = .ok (.ireturn, 1) := by decide +kernel
theorem dL_luminance_17 : decode cL_luminance 17 = .ok (.iconst 0, 1) := by decide +kernel
theorem dL_luminance_18 : decode cL_luminance 18 = .ok (.ireturn, 1) := by decide +kernel
theorem dL_contrast_0 : decode cL_contrast 0 = .ok (.aload 4, 2) := by decide +kernel
theorem dL_contrast_2 : decode cL_contrast 2 = .ok (.iconst 0, 1) := by decide +kernel
theorem dL_contrast_3 : decode cL_contrast 3 = .ok (.aload_n 0, 1) := by decide +kernel
theorem dL_contrast_4 : decode cL_contrast 4 = .ok (.iload_n 1, 1) := by decide +kernel
theorem dL_contrast_5 : decode cL_contrast 5 = .ok (.iload_n 2, 1) := by decide +kernel
theorem dL_contrast_6 : decode cL_contrast 6 = .ok (.iload_n 3, 1) := by decide +kernel
theorem dL_contrast_7 : decode cL_contrast 7 = .ok (.invokevirtual 28, 3) := by decide +kernel
theorem dL_contrast_10 : decode cL_contrast 10 = .ok (.i2l, 1) := by decide +kernel
theorem dL_contrast_11 : decode cL_contrast 11 = .ok (.lastore, 1) := by decide +kernel
theorem dL_contrast_12 : decode cL_contrast 12 = .ok (.goto 7, 3) := by decide +kernel
theorem dL_contrast_15 : decode cL_contrast 15 = .ok (.astore 5, 2) := by decide +kernel
theorem dL_contrast_17 : decode cL_contrast 17 = .ok (.iconst 1, 1) := by decide +kernel
theorem dL_contrast_18 : decode cL_contrast 18 = .ok (.ireturn, 1) := by decide +kernel
theorem dL_contrast_19 : decode cL_contrast 19 = .ok (.iconst 0, 1) := by decide +kernel
theorem dL_contrast_20 : decode cL_contrast 20 = .ok (.ireturn, 1) := by decide +kernel
theorem dL_seen_0 : decode cL_seen 0 = .ok (.aload 4, 2) := by decide +kernel
theorem dL_seen_2 : decode cL_seen 2 = .ok (.iconst 0, 1) := by decide +kernel
theorem dL_seen_3 : decode cL_seen 3 = .ok (.aload_n 0, 1) := by decide +kernel
theorem dL_seen_4 : decode cL_seen 4 = .ok (.iload_n 1, 1) := by decide +kernel
theorem dL_seen_5 : decode cL_seen 5 = .ok (.iload_n 2, 1) := by decide +kernel
theorem dL_seen_6 : decode cL_seen 6 = .ok (.iload_n 3, 1) := by decide +kernel
theorem dL_seen_7 : decode cL_seen 7 = .ok (.invokevirtual 32, 3) := by decide +kernel
theorem dL_seen_10 : decode cL_seen 10 = .ok (.i2l, 1) := by decide +kernel
theorem dL_seen_11 : decode cL_seen 11 = .ok (.lastore, 1) := by decide +kernel
theorem dL_seen_12 : decode cL_seen 12 = .ok (.goto 11, 3) := by decide +kernel
theorem dL_seen_15 : decode cL_seen 15 = .ok (.astore 5, 2) := by decide +kernel
theorem dL_seen_17 : decode cL_seen 17 = .ok (.iconst 1, 1) := by decide +kernel
theorem dL_seen_18 : decode cL_seen 18 = .ok (.ireturn, 1) := by decide +kernel
theorem dL_seen_19 : decode cL_seen 19 = .ok (.astore 5, 2) := by decide +kernel
theorem dL_seen_21 : decode cL_seen 21 = .ok (.iconst 2, 1) := by decide +kernel
theorem dL_seen_22 : decode cL_seen 22 = .ok (.ireturn, 1) := by decide +kernel
theorem dL_seen_23 : decode cL_seen 23 = .ok (.iconst 0, 1) := by decide +kernel
theorem dL_seen_24 : decode cL_seen 24 = .ok (.ireturn, 1) := by decide +kernel
theorem dL_difference_0 : decode cL_difference 0 = .ok (.aload 5, 2) := by decide +kernel
theorem dL_difference_2 : decode cL_difference 2 = .ok (.iconst 0, 1) := by decide +kernel
theorem dL_difference_3 : decode cL_difference 3 = .ok (.aload_n 0, 1) := by decide +kernel
theorem dL_difference_4 : decode cL_difference 4 = .ok (.iload_n 1, 1) := by decide +kernel
theorem dL_difference_5 : decode cL_difference 5 = .ok (.iload_n 2, 1) := by decide +kernel
theorem dL_difference_6 : decode cL_difference 6 = .ok (.iload_n 3, 1) := by decide +kernel
theorem dL_difference_7 : decode cL_difference 7 = .ok (.iload 4, 2) := by decide +kernel
theorem dL_difference_9 : decode cL_difference 9 = .ok (.invokevirtual 35, 3) := by decide +kernel
theorem dL_difference_12 : decode cL_difference 12 = .ok (.i2l, 1) := by decide +kernel
theorem dL_difference_13 : decode cL_difference 13 = .ok (.lastore, 1) := by decide +kernel
theorem dL_difference_14 : decode cL_difference 14 = .ok (.goto 11, 3) := by decide +kernel
theorem dL_difference_17 : decode cL_difference 17 = .ok (.astore 6, 2) := by decide +kernel
theorem dL_difference_19 : decode cL_difference 19 = .ok (.iconst 1, 1) := by decide +kernel
theorem dL_difference_20 : decode cL_difference 20 = .ok (.ireturn, 1) := by decide +kernel
theorem dL_difference_21 : decode cL_difference 21 = .ok (.astore 6, 2) := by decide +kernel
theorem dL_difference_23 : decode cL_difference 23 = .ok (.iconst 2, 1) := by decide +kernel
theorem dL_difference_24 : decode cL_difference 24 = .ok (.ireturn, 1) := by decide +kernel
theorem dL_difference_25 : decode cL_difference 25 = .ok (.iconst 0, 1) := by decide +kernel
theorem dL_difference_26 : decode cL_difference 26 = .ok (.ireturn, 1) := by decide +kernel
theorem dL_nearest_0 : decode cL_nearest 0 = .ok (.aload_n 3, 1) := by decide +kernel
theorem dL_nearest_1 : decode cL_nearest 1 = .ok (.iconst 0, 1) := by decide +kernel
theorem dL_nearest_2 : decode cL_nearest 2 = .ok (.aload_n 0, 1) := by decide +kernel
theorem dL_nearest_3 : decode cL_nearest 3 = .ok (.iload_n 1, 1) := by decide +kernel
theorem dL_nearest_4 : decode cL_nearest 4 = .ok (.iload_n 2, 1) := by decide +kernel
theorem dL_nearest_5 : decode cL_nearest 5 = .ok (.invokevirtual 39, 3) := by decide +kernel
theorem dL_nearest_8 : decode cL_nearest 8 = .ok (.i2l, 1) := by decide +kernel
theorem dL_nearest_9 : decode cL_nearest 9 = .ok (.lastore, 1) := by decide +kernel
theorem dL_nearest_10 : decode cL_nearest 10 = .ok (.goto 11, 3) := by decide +kernel
theorem dL_nearest_13 : decode cL_nearest 13 = .ok (.astore 4, 2) := by decide +kernel
theorem dL_nearest_15 : decode cL_nearest 15 = .ok (.iconst 1, 1) := by decide +kernel
theorem dL_nearest_16 : decode cL_nearest 16 = .ok (.ireturn, 1) := by decide +kernel
theorem dL_nearest_17 : decode cL_nearest 17 = .ok (.astore 4, 2) := by decide +kernel
theorem dL_nearest_19 : decode cL_nearest 19 = .ok (.iconst 2, 1) := by decide +kernel
theorem dL_nearest_20 : decode cL_nearest 20 = .ok (.ireturn, 1) := by decide +kernel
theorem dL_nearest_21 : decode cL_nearest 21 = .ok (.iconst 0, 1) := by decide +kernel
theorem dL_nearest_22 : decode cL_nearest 22 = .ok (.ireturn, 1) := by decide +kernel
theorem dL_need_0 : decode cL_need 0 = .ok (.aload_n 3, 1) := by decide +kernel
theorem dL_need_1 : decode cL_need 1 = .ok (.iconst 0, 1) := by decide +kernel
theorem dL_need_2 : decode cL_need 2 = .ok (.aload_n 0, 1) := by decide +kernel
theorem dL_need_3 : decode cL_need 3 = .ok (.iload_n 1, 1) := by decide +kernel
theorem dL_need_4 : decode cL_need 4 = .ok (.iload_n 2, 1) := by decide +kernel
theorem dL_need_5 : decode cL_need 5 = .ok (.invokevirtual 42, 3) := by decide +kernel
theorem dL_need_8 : decode cL_need 8 = .ok (.i2l, 1) := by decide +kernel
theorem dL_need_9 : decode cL_need 9 = .ok (.lastore, 1) := by decide +kernel
theorem dL_need_10 : decode cL_need 10 = .ok (.goto 7, 3) := by decide +kernel
theorem dL_need_13 : decode cL_need 13 = .ok (.astore 4, 2) := by decide +kernel
theorem dL_need_15 : decode cL_need 15 = .ok (.iconst 1, 1) := by decide +kernel
theorem dL_need_16 : decode cL_need 16 = .ok (.ireturn, 1) := by decide +kernel
theorem dL_need_17 : decode cL_need 17 = .ok (.iconst 0, 1) := by decide +kernel
theorem dL_need_18 : decode cL_need 18 = .ok (.ireturn, 1) := by decide +kernel
theorem dL_value_0 : decode cL_value 0 = .ok (.aload_n 3, 1) := by decide +kernel
theorem dL_value_1 : decode cL_value 1 = .ok (.iconst 0, 1) := by decide +kernel
theorem dL_value_2 : decode cL_value 2 = .ok (.aload_n 0, 1) := by decide +kernel
theorem dL_value_3 : decode cL_value 3 = .ok (.iload_n 1, 1) := by decide +kernel
theorem dL_value_4 : decode cL_value 4 = .ok (.iload_n 2, 1) := by decide +kernel
theorem dL_value_5 : decode cL_value 5 = .ok (.invokevirtual 45, 3) := by decide +kernel
theorem dL_value_8 : decode cL_value 8 = .ok (.i2l, 1) := by decide +kernel
theorem dL_value_9 : decode cL_value 9 = .ok (.lastore, 1) := by decide +kernel
theorem dL_value_10 : decode cL_value 10 = .ok (.goto 7, 3) := by decide +kernel
theorem dL_value_13 : decode cL_value 13 = .ok (.astore 4, 2) := by decide +kernel
theorem dL_value_15 : decode cL_value 15 = .ok (.iconst 1, 1) := by decide +kernel
theorem dL_value_16 : decode cL_value 16 = .ok (.ireturn, 1) := by decide +kernel
theorem dL_value_17 : decode cL_value 17 = .ok (.iconst 0, 1) := by decide +kernel
theorem dL_value_18 : decode cL_value 18 = .ok (.ireturn, 1) := by decide +kernel
theorem dL_violation_0 : decode cL_violation 0 = .ok (.aload_n 2, 1) := by decide +kernel
theorem dL_violation_1 : decode cL_violation 1 = .ok (.iconst 0, 1) := by decide +kernel
theorem dL_violation_2 : decode cL_violation 2 = .ok (.aload_n 0, 1) := by decide +kernel
theorem dL_violation_3 : decode cL_violation 3 = .ok (.iload_n 1, 1) := by decide +kernel
theorem dL_violation_4 : decode cL_violation 4 = .ok (.invokevirtual 48, 3) := by decide +kernel
theorem dL_violation_7 : decode cL_violation 7 = .ok (.i2l, 1) := by decide +kernel
theorem dL_violation_8 : decode cL_violation 8 = .ok (.lastore, 1) := by decide +kernel
theorem dL_violation_9 : decode cL_violation 9 = .ok (.goto 6, 3) := by decide +kernel
theorem dL_violation_12 : decode cL_violation 12 = .ok (.astore_n 3, 1) := by decide +kernel
theorem dL_violation_13 : decode cL_violation 13 = .ok (.iconst 1, 1) := by decide +kernel
theorem dL_violation_14 : decode cL_violation 14 = .ok (.ireturn, 1) := by decide +kernel
theorem dL_violation_15 : decode cL_violation 15 = .ok (.iconst 0, 1) := by decide +kernel
theorem dL_violation_16 : decode cL_violation 16 = .ok (.ireturn, 1) := by decide +kernel
theorem dL_smallestMargin_0 : decode cL_smallestMargin 0 = .ok (.aload_n 2, 1) := by decide +kernel
theorem dL_smallestMargin_1 : decode cL_smallestMargin 1 = .ok (.iconst 0, 1) := by decide +kernel
theorem dL_smallestMargin_2 : decode cL_smallestMargin 2 = .ok (.aload_n 0, 1) := by decide +kernel
theorem dL_smallestMargin_3 : decode cL_smallestMargin 3 = .ok (.iload_n 1, 1) := by decide +kernel
theorem dL_smallestMargin_4 : decode cL_smallestMargin 4 = .ok (.invokevirtual 53, 3) := by decide +kernel
theorem dL_smallestMargin_7 : decode cL_smallestMargin 7 = .ok (.i2l, 1) := by decide +kernel
theorem dL_smallestMargin_8 : decode cL_smallestMargin 8 = .ok (.lastore, 1) := by decide +kernel
theorem dL_smallestMargin_9 : decode cL_smallestMargin 9 = .ok (.goto 6, 3) := by decide +kernel
theorem dL_smallestMargin_12 : decode cL_smallestMargin 12 = .ok (.astore_n 3, 1) := by decide +kernel
theorem dL_smallestMargin_13 : decode cL_smallestMargin 13 = .ok (.iconst 1, 1) := by decide +kernel
theorem dL_smallestMargin_14 : decode cL_smallestMargin 14 = .ok (.ireturn, 1) := by decide +kernel
theorem dL_smallestMargin_15 : decode cL_smallestMargin 15 = .ok (.iconst 0, 1) := by decide +kernel
theorem dL_smallestMargin_16 : decode cL_smallestMargin 16 = .ok (.ireturn, 1) := by decide +kernel
theorem dL_bestShift_0 : decode cL_bestShift 0 = .ok (.aload_n 3, 1) := by decide +kernel
theorem dL_bestShift_1 : decode cL_bestShift 1 = .ok (.iconst 0, 1) := by decide +kernel
theorem dL_bestShift_2 : decode cL_bestShift 2 = .ok (.aload_n 0, 1) := by decide +kernel
theorem dL_bestShift_3 : decode cL_bestShift 3 = .ok (.iload_n 1, 1) := by decide +kernel
theorem dL_bestShift_4 : decode cL_bestShift 4 = .ok (.iload_n 2, 1) := by decide +kernel
theorem dL_bestShift_5 : decode cL_bestShift 5 = .ok (.invokevirtual 56, 3) := by decide +kernel
theorem dL_bestShift_8 : decode cL_bestShift 8 = .ok (.i2l, 1) := by decide +kernel
theorem dL_bestShift_9 : decode cL_bestShift 9 = .ok (.lastore, 1) := by decide +kernel
theorem dL_bestShift_10 : decode cL_bestShift 10 = .ok (.goto 7, 3) := by decide +kernel
theorem dL_bestShift_13 : decode cL_bestShift 13 = .ok (.astore 4, 2) := by decide +kernel
theorem dL_bestShift_15 : decode cL_bestShift 15 = .ok (.iconst 1, 1) := by decide +kernel
theorem dL_bestShift_16 : decode cL_bestShift 16 = .ok (.ireturn, 1) := by decide +kernel
theorem dL_bestShift_17 : decode cL_bestShift 17 = .ok (.iconst 0, 1) := by decide +kernel
theorem dL_bestShift_18 : decode cL_bestShift 18 = .ok (.ireturn, 1) := by decide +kernel
theorem dL_shiftRole_0 : decode cL_shiftRole 0 = .ok (.aload_n 3, 1) := by decide +kernel
theorem dL_shiftRole_1 : decode cL_shiftRole 1 = .ok (.iconst 0, 1) := by decide +kernel
theorem dL_shiftRole_2 : decode cL_shiftRole 2 = .ok (.aload_n 0, 1) := by decide +kernel
theorem dL_shiftRole_3 : decode cL_shiftRole 3 = .ok (.iload_n 1, 1) := by decide +kernel
theorem dL_shiftRole_4 : decode cL_shiftRole 4 = .ok (.iload_n 2, 1) := by decide +kernel
theorem dL_shiftRole_5 : decode cL_shiftRole 5 = .ok (.invokevirtual 59, 3) := by decide +kernel
theorem dL_shiftRole_8 : decode cL_shiftRole 8 = .ok (.i2l, 1) := by decide +kernel
theorem dL_shiftRole_9 : decode cL_shiftRole 9 = .ok (.lastore, 1) := by decide +kernel
theorem dL_shiftRole_10 : decode cL_shiftRole 10 = .ok (.goto 7, 3) := by decide +kernel
theorem dL_shiftRole_13 : decode cL_shiftRole 13 = .ok (.astore 4, 2) := by decide +kernel
theorem dL_shiftRole_15 : decode cL_shiftRole 15 = .ok (.iconst 1, 1) := by decide +kernel
theorem dL_shiftRole_16 : decode cL_shiftRole 16 = .ok (.ireturn, 1) := by decide +kernel
theorem dL_shiftRole_17 : decode cL_shiftRole 17 = .ok (.iconst 0, 1) := by decide +kernel
theorem dL_shiftRole_18 : decode cL_shiftRole 18 = .ok (.ireturn, 1) := by decide +kernel
theorem dL_setColour_0 : decode cL_setColour 0 = .ok (.aload 4, 2) := by decide +kernel
theorem dL_setColour_2 : decode cL_setColour 2 = .ok (.iconst 0, 1) := by decide +kernel
theorem dL_setColour_3 : decode cL_setColour 3 = .ok (.aload_n 0, 1) := by decide +kernel
theorem dL_setColour_4 : decode cL_setColour 4 = .ok (.iload_n 1, 1) := by decide +kernel
theorem dL_setColour_5 : decode cL_setColour 5 = .ok (.iload_n 2, 1) := by decide +kernel
theorem dL_setColour_6 : decode cL_setColour 6 = .ok (.iload_n 3, 1) := by decide +kernel
theorem dL_setColour_7 : decode cL_setColour 7 = .ok (.invokevirtual 62, 3) := by decide +kernel
theorem dL_setColour_10 : decode cL_setColour 10 = .ok (.i2l, 1) := by decide +kernel
theorem dL_setColour_11 : decode cL_setColour 11 = .ok (.lastore, 1) := by decide +kernel
theorem dL_setColour_12 : decode cL_setColour 12 = .ok (.goto 11, 3) := by decide +kernel
theorem dL_setColour_15 : decode cL_setColour 15 = .ok (.astore 5, 2) := by decide +kernel
theorem dL_setColour_17 : decode cL_setColour 17 = .ok (.iconst 1, 1) := by decide +kernel
theorem dL_setColour_18 : decode cL_setColour 18 = .ok (.ireturn, 1) := by decide +kernel
theorem dL_setColour_19 : decode cL_setColour 19 = .ok (.astore 5, 2) := by decide +kernel
theorem dL_setColour_21 : decode cL_setColour 21 = .ok (.iconst 2, 1) := by decide +kernel
theorem dL_setColour_22 : decode cL_setColour 22 = .ok (.ireturn, 1) := by decide +kernel
theorem dL_setColour_23 : decode cL_setColour 23 = .ok (.iconst 0, 1) := by decide +kernel
theorem dL_setColour_24 : decode cL_setColour 24 = .ok (.ireturn, 1) := by decide +kernel
theorem dL_setFixed_0 : decode cL_setFixed 0 = .ok (.aload_n 3, 1) := by decide +kernel
theorem dL_setFixed_1 : decode cL_setFixed 1 = .ok (.iconst 0, 1) := by decide +kernel
theorem dL_setFixed_2 : decode cL_setFixed 2 = .ok (.aload_n 0, 1) := by decide +kernel
theorem dL_setFixed_3 : decode cL_setFixed 3 = .ok (.iload_n 1, 1) := by decide +kernel
theorem dL_setFixed_4 : decode cL_setFixed 4 = .ok (.iload_n 2, 1) := by decide +kernel
theorem dL_setFixed_5 : decode cL_setFixed 5 = .ok (.invokevirtual 65, 3) := by decide +kernel
theorem dL_setFixed_8 : decode cL_setFixed 8 = .ok (.ifCond .eq 7, 3) := by decide +kernel
theorem dL_setFixed_11 : decode cL_setFixed 11 = .ok (.lconst 1, 1) := by decide +kernel
theorem dL_setFixed_12 : decode cL_setFixed 12 = .ok (.goto 4, 3) := by decide +kernel
theorem dL_setFixed_15 : decode cL_setFixed 15 = .ok (.lconst 0, 1) := by decide +kernel
theorem dL_setFixed_16 : decode cL_setFixed 16 = .ok (.lastore, 1) := by decide +kernel
theorem dL_setFixed_17 : decode cL_setFixed 17 = .ok (.goto 7, 3) := by decide +kernel
theorem dL_setFixed_20 : decode cL_setFixed 20 = .ok (.astore 4, 2) := by decide +kernel
theorem dL_setFixed_22 : decode cL_setFixed 22 = .ok (.iconst 1, 1) := by decide +kernel
theorem dL_setFixed_23 : decode cL_setFixed 23 = .ok (.ireturn, 1) := by decide +kernel
theorem dL_setFixed_24 : decode cL_setFixed 24 = .ok (.iconst 0, 1) := by decide +kernel
theorem dL_setFixed_25 : decode cL_setFixed 25 = .ok (.ireturn, 1) := by decide +kernel
theorem dL_shift_0 : decode cL_shift 0 = .ok (.aload 4, 2) := by decide +kernel
theorem dL_shift_2 : decode cL_shift 2 = .ok (.iconst 0, 1) := by decide +kernel
theorem dL_shift_3 : decode cL_shift 3 = .ok (.aload_n 0, 1) := by decide +kernel
theorem dL_shift_4 : decode cL_shift 4 = .ok (.iload_n 1, 1) := by decide +kernel
theorem dL_shift_5 : decode cL_shift 5 = .ok (.iload_n 2, 1) := by decide +kernel
theorem dL_shift_6 : decode cL_shift 6 = .ok (.iload_n 3, 1) := by decide +kernel
theorem dL_shift_7 : decode cL_shift 7 = .ok (.invokevirtual 69, 3) := by decide +kernel
theorem dL_shift_10 : decode cL_shift 10 = .ok (.i2l, 1) := by decide +kernel
theorem dL_shift_11 : decode cL_shift 11 = .ok (.lastore, 1) := by decide +kernel
theorem dL_shift_12 : decode cL_shift 12 = .ok (.goto 15, 3) := by decide +kernel
theorem dL_shift_15 : decode cL_shift 15 = .ok (.astore 5, 2) := by decide +kernel
theorem dL_shift_17 : decode cL_shift 17 = .ok (.iconst 1, 1) := by decide +kernel
theorem dL_shift_18 : decode cL_shift 18 = .ok (.ireturn, 1) := by decide +kernel
theorem dL_shift_19 : decode cL_shift 19 = .ok (.astore 5, 2) := by decide +kernel
theorem dL_shift_21 : decode cL_shift 21 = .ok (.iconst 2, 1) := by decide +kernel
theorem dL_shift_22 : decode cL_shift 22 = .ok (.ireturn, 1) := by decide +kernel
theorem dL_shift_23 : decode cL_shift 23 = .ok (.astore 5, 2) := by decide +kernel
theorem dL_shift_25 : decode cL_shift 25 = .ok (.iconst 3, 1) := by decide +kernel
theorem dL_shift_26 : decode cL_shift 26 = .ok (.ireturn, 1) := by decide +kernel
theorem dL_shift_27 : decode cL_shift 27 = .ok (.iconst 0, 1) := by decide +kernel
theorem dL_shift_28 : decode cL_shift 28 = .ok (.ireturn, 1) := by decide +kernel
theorem dL_repair_0 : decode cL_repair 0 = .ok (.aload_n 2, 1) := by decide +kernel
theorem dL_repair_1 : decode cL_repair 1 = .ok (.iconst 0, 1) := by decide +kernel
theorem dL_repair_2 : decode cL_repair 2 = .ok (.aload_n 0, 1) := by decide +kernel
theorem dL_repair_3 : decode cL_repair 3 = .ok (.iload_n 1, 1) := by decide +kernel
theorem dL_repair_4 : decode cL_repair 4 = .ok (.invokevirtual 74, 3) := by decide +kernel
theorem dL_repair_7 : decode cL_repair 7 = .ok (.i2l, 1) := by decide +kernel
theorem dL_repair_8 : decode cL_repair 8 = .ok (.lastore, 1) := by decide +kernel
theorem dL_repair_9 : decode cL_repair 9 = .ok (.goto 6, 3) := by decide +kernel
theorem dL_repair_12 : decode cL_repair 12 = .ok (.astore_n 3, 1) := by decide +kernel
theorem dL_repair_13 : decode cL_repair 13 = .ok (.iconst 1, 1) := by decide +kernel
theorem dL_repair_14 : decode cL_repair 14 = .ok (.ireturn, 1) := by decide +kernel
theorem dL_repair_15 : decode cL_repair 15 = .ok (.iconst 0, 1) := by decide +kernel
theorem dL_repair_16 : decode cL_repair 16 = .ok (.ireturn, 1) := by decide +kernel
theorem dL_law_0 : decode cL_law 0 = .ok (.new 8, 3) := by decide +kernel
theorem dL_law_3 : decode cL_law 3 = .ok (.dup, 1) := by decide +kernel
theorem dL_law_4 : decode cL_law 4 = .ok (.invokespecial 77, 3) := by decide +kernel
theorem dL_law_7 : decode cL_law 7 = .ok (.astore_n 1, 1) := by decide +kernel
theorem dL_law_8 : decode cL_law 8 = .ok (.new 78, 3) := by decide +kernel
theorem dL_law_11 : decode cL_law 11 = .ok (.dup, 1) := by decide +kernel
theorem dL_law_12 : decode cL_law 12 = .ok (.invokespecial 80, 3) := by decide +kernel
theorem dL_law_15 : decode cL_law 15 = .ok (.astore_n 2, 1) := by decide +kernel
theorem dL_law_16 : decode cL_law 16 = .ok (.iconst 1, 1) := by decide +kernel
theorem dL_law_17 : decode cL_law 17 = .ok (.newarray .long, 2) := by decide +kernel
theorem dL_law_19 : decode cL_law 19 = .ok (.astore_n 3, 1) := by decide +kernel
theorem dL_law_20 : decode cL_law 20 = .ok (.iconst 0, 1) := by decide +kernel
theorem dL_law_21 : decode cL_law 21 = .ok (.istore 4, 2) := by decide +kernel
theorem dL_law_23 : decode cL_law 23 = .ok (.iload 4, 2) := by decide +kernel
theorem dL_law_25 : decode cL_law 25 = .ok (.aload_n 0, 1) := by decide +kernel
theorem dL_law_26 : decode cL_law 26 = .ok (.arraylength, 1) := by decide +kernel
theorem dL_law_27 : decode cL_law 27 = .ok (.bipush 6, 2) := by decide +kernel
theorem dL_law_29 : decode cL_law 29 = .ok (.isub, 1) := by decide +kernel
theorem dL_law_30 : decode cL_law 30 = .ok (.if_icmp .gt 1567, 3) := by decide +kernel
theorem dL_law_33 : decode cL_law 33 = .ok (.aload_n 0, 1) := by decide +kernel
theorem dL_law_34 : decode cL_law 34 = .ok (.iload 4, 2) := by decide +kernel
theorem dL_law_36 : decode cL_law 36 = .ok (.iaload, 1) := by decide +kernel
theorem dL_law_37 : decode cL_law 37 = .ok (.bipush 31, 2) := by decide +kernel
theorem dL_law_39 : decode cL_law 39 = .ok (.iand, 1) := by decide +kernel
theorem dL_law_40 : decode cL_law 40 = .ok (.tableswitch 1551 0 25 #[120, 193, 249, 262, 275, 288, 356, 419, 487, 567, 647, 739, 807, 875, 943, 956, 1012, 1068, 1136, 1204, 1284, 1375, 1455, 1511, 1524, 1537], 120) := by decide +kernel
theorem dL_law_160 : decode cL_law 160 = .ok (.aload_n 1, 1) := by decide +kernel
theorem dL_law_161 : decode cL_law 161 = .ok (.aload_n 0, 1) := by decide +kernel
theorem dL_law_162 : decode cL_law 162 = .ok (.iload 4, 2) := by decide +kernel
theorem dL_law_164 : decode cL_law 164 = .ok (.iconst 1, 1) := by decide +kernel
theorem dL_law_165 : decode cL_law 165 = .ok (.iadd, 1) := by decide +kernel
theorem dL_law_166 : decode cL_law 166 = .ok (.iaload, 1) := by decide +kernel
theorem dL_law_167 : decode cL_law 167 = .ok (.aload_n 0, 1) := by decide +kernel
theorem dL_law_168 : decode cL_law 168 = .ok (.iload 4, 2) := by decide +kernel
theorem dL_law_170 : decode cL_law 170 = .ok (.iconst 2, 1) := by decide +kernel
theorem dL_law_171 : decode cL_law 171 = .ok (.iadd, 1) := by decide +kernel
theorem dL_law_172 : decode cL_law 172 = .ok (.iaload, 1) := by decide +kernel
theorem dL_law_173 : decode cL_law 173 = .ok (.aload_n 0, 1) := by decide +kernel
theorem dL_law_174 : decode cL_law 174 = .ok (.iload 4, 2) := by decide +kernel
theorem dL_law_176 : decode cL_law 176 = .ok (.iconst 3, 1) := by decide +kernel
theorem dL_law_177 : decode cL_law 177 = .ok (.iadd, 1) := by decide +kernel
theorem dL_law_178 : decode cL_law 178 = .ok (.iaload, 1) := by decide +kernel
theorem dL_law_179 : decode cL_law 179 = .ok (.aload_n 0, 1) := by decide +kernel
theorem dL_law_180 : decode cL_law 180 = .ok (.iload 4, 2) := by decide +kernel
theorem dL_law_182 : decode cL_law 182 = .ok (.iconst 4, 1) := by decide +kernel
theorem dL_law_183 : decode cL_law 183 = .ok (.iadd, 1) := by decide +kernel
theorem dL_law_184 : decode cL_law 184 = .ok (.iaload, 1) := by decide +kernel
theorem dL_law_185 : decode cL_law 185 = .ok (.aload_n 0, 1) := by decide +kernel
theorem dL_law_186 : decode cL_law 186 = .ok (.iload 4, 2) := by decide +kernel
theorem dL_law_188 : decode cL_law 188 = .ok (.iconst 5, 1) := by decide +kernel
theorem dL_law_189 : decode cL_law 189 = .ok (.iadd, 1) := by decide +kernel
theorem dL_law_190 : decode cL_law 190 = .ok (.iaload, 1) := by decide +kernel
theorem dL_law_191 : decode cL_law 191 = .ok (.invokevirtual 81, 3) := by decide +kernel
theorem dL_law_194 : decode cL_law 194 = .ok (.aload_n 2, 1) := by decide +kernel
theorem dL_law_195 : decode cL_law 195 = .ok (.aload_n 0, 1) := by decide +kernel
theorem dL_law_196 : decode cL_law 196 = .ok (.iload 4, 2) := by decide +kernel
theorem dL_law_198 : decode cL_law 198 = .ok (.iconst 1, 1) := by decide +kernel
theorem dL_law_199 : decode cL_law 199 = .ok (.iadd, 1) := by decide +kernel
theorem dL_law_200 : decode cL_law 200 = .ok (.iaload, 1) := by decide +kernel
theorem dL_law_201 : decode cL_law 201 = .ok (.aload_n 0, 1) := by decide +kernel
theorem dL_law_202 : decode cL_law 202 = .ok (.iload 4, 2) := by decide +kernel
theorem dL_law_204 : decode cL_law 204 = .ok (.iconst 2, 1) := by decide +kernel
theorem dL_law_205 : decode cL_law 205 = .ok (.iadd, 1) := by decide +kernel
theorem dL_law_206 : decode cL_law 206 = .ok (.iaload, 1) := by decide +kernel
theorem dL_law_207 : decode cL_law 207 = .ok (.aload_n 0, 1) := by decide +kernel
theorem dL_law_208 : decode cL_law 208 = .ok (.iload 4, 2) := by decide +kernel
theorem dL_law_210 : decode cL_law 210 = .ok (.iconst 3, 1) := by decide +kernel
theorem dL_law_211 : decode cL_law 211 = .ok (.iadd, 1) := by decide +kernel
theorem dL_law_212 : decode cL_law 212 = .ok (.iaload, 1) := by decide +kernel
theorem dL_law_213 : decode cL_law 213 = .ok (.aload_n 0, 1) := by decide +kernel
theorem dL_law_214 : decode cL_law 214 = .ok (.iload 4, 2) := by decide +kernel
theorem dL_law_216 : decode cL_law 216 = .ok (.iconst 4, 1) := by decide +kernel
theorem dL_law_217 : decode cL_law 217 = .ok (.iadd, 1) := by decide +kernel
theorem dL_law_218 : decode cL_law 218 = .ok (.iaload, 1) := by decide +kernel
theorem dL_law_219 : decode cL_law 219 = .ok (.aload_n 0, 1) := by decide +kernel
theorem dL_law_220 : decode cL_law 220 = .ok (.iload 4, 2) := by decide +kernel
theorem dL_law_222 : decode cL_law 222 = .ok (.iconst 5, 1) := by decide +kernel
theorem dL_law_223 : decode cL_law 223 = .ok (.iadd, 1) := by decide +kernel
theorem dL_law_224 : decode cL_law 224 = .ok (.iaload, 1) := by decide +kernel
theorem dL_law_225 : decode cL_law 225 = .ok (.invokevirtual 85, 3) := by decide +kernel
theorem dL_law_228 : decode cL_law 228 = .ok (.if_icmp .eq 1363, 3) := by decide +kernel
theorem dL_law_231 : decode cL_law 231 = .ok (.iconst 0, 1) := by decide +kernel
theorem dL_law_232 : decode cL_law 232 = .ok (.ireturn, 1) := by decide +kernel
theorem dL_law_233 : decode cL_law 233 = .ok (.aload_n 1, 1) := by decide +kernel
theorem dL_law_234 : decode cL_law 234 = .ok (.aload_n 0, 1) := by decide +kernel
theorem dL_law_235 : decode cL_law 235 = .ok (.iload 4, 2) := by decide +kernel
theorem dL_law_237 : decode cL_law 237 = .ok (.iconst 1, 1) := by decide +kernel
theorem dL_law_238 : decode cL_law 238 = .ok (.iadd, 1) := by decide +kernel
theorem dL_law_239 : decode cL_law 239 = .ok (.iaload, 1) := by decide +kernel
theorem dL_law_240 : decode cL_law 240 = .ok (.aload_n 3, 1) := by decide +kernel
theorem dL_law_241 : decode cL_law 241 = .ok (.invokestatic 86, 3) := by decide +kernel
theorem dL_law_244 : decode cL_law 244 = .ok (.istore 5, 2) := by decide +kernel
theorem dL_law_246 : decode cL_law 246 = .ok (.aload_n 2, 1) := by decide +kernel
theorem dL_law_247 : decode cL_law 247 = .ok (.aload_n 0, 1) := by decide +kernel
theorem dL_law_248 : decode cL_law 248 = .ok (.iload 4, 2) := by decide +kernel
theorem dL_law_250 : decode cL_law 250 = .ok (.iconst 1, 1) := by decide +kernel
theorem dL_law_251 : decode cL_law 251 = .ok (.iadd, 1) := by decide +kernel
theorem dL_law_252 : decode cL_law 252 = .ok (.iaload, 1) := by decide +kernel
theorem dL_law_253 : decode cL_law 253 = .ok (.invokevirtual 91, 3) := by decide +kernel
theorem dL_law_256 : decode cL_law 256 = .ok (.istore 6, 2) := by decide +kernel
theorem dL_law_258 : decode cL_law 258 = .ok (.aload_n 2, 1) := by decide +kernel
theorem dL_law_259 : decode cL_law 259 = .ok (.invokevirtual 92, 3) := by decide +kernel
theorem dL_law_262 : decode cL_law 262 = .ok (.iload 5, 2) := by decide +kernel
theorem dL_law_264 : decode cL_law 264 = .ok (.if_icmp .eq 5, 3) := by decide +kernel
theorem dL_law_267 : decode cL_law 267 = .ok (.iconst 0, 1) := by decide +kernel
theorem dL_law_268 : decode cL_law 268 = .ok (.ireturn, 1) := by decide +kernel
theorem dL_law_269 : decode cL_law 269 = .ok (.iload 5, 2) := by decide +kernel
theorem dL_law_271 : decode cL_law 271 = .ok (.ifCond .ne 15, 3) := by decide +kernel
theorem dL_law_274 : decode cL_law 274 = .ok (.aload_n 3, 1) := by decide +kernel
theorem dL_law_275 : decode cL_law 275 = .ok (.iconst 0, 1) := by decide +kernel
theorem dL_law_276 : decode cL_law 276 = .ok (.laload, 1) := by decide +kernel
theorem dL_law_277 : decode cL_law 277 = .ok (.iload 6, 2) := by decide +kernel
theorem dL_law_279 : decode cL_law 279 = .ok (.i2l, 1) := by decide +kernel
theorem dL_law_280 : decode cL_law 280 = .ok (.lcmp, 1) := by decide +kernel
theorem dL_law_281 : decode cL_law 281 = .ok (.ifCond .eq 5, 3) := by decide +kernel
theorem dL_law_284 : decode cL_law 284 = .ok (.iconst 0, 1) := by decide +kernel
theorem dL_law_285 : decode cL_law 285 = .ok (.ireturn, 1) := by decide +kernel
theorem dL_law_286 : decode cL_law 286 = .ok (.goto 1305, 3) := by decide +kernel
theorem dL_law_289 : decode cL_law 289 = .ok (.aload_n 1, 1) := by decide +kernel
theorem dL_law_290 : decode cL_law 290 = .ok (.invokevirtual 96, 3) := by decide +kernel
theorem dL_law_293 : decode cL_law 293 = .ok (.aload_n 2, 1) := by decide +kernel
theorem dL_law_294 : decode cL_law 294 = .ok (.invokevirtual 99, 3) := by decide +kernel
theorem dL_law_297 : decode cL_law 297 = .ok (.if_icmp .eq 1294, 3) := by decide +kernel
theorem dL_law_300 : decode cL_law 300 = .ok (.iconst 0, 1) := by decide +kernel
theorem dL_law_301 : decode cL_law 301 = .ok (.ireturn, 1) := by decide +kernel
theorem dL_law_302 : decode cL_law 302 = .ok (.aload_n 1, 1) := by decide +kernel
theorem dL_law_303 : decode cL_law 303 = .ok (.invokevirtual 100, 3) := by decide +kernel
theorem dL_law_306 : decode cL_law 306 = .ok (.aload_n 2, 1) := by decide +kernel
theorem dL_law_307 : decode cL_law 307 = .ok (.invokevirtual 103, 3) := by decide +kernel
theorem dL_law_310 : decode cL_law 310 = .ok (.if_icmp .eq 1281, 3) := by decide +kernel
theorem dL_law_313 : decode cL_law 313 = .ok (.iconst 0, 1) := by decide +kernel
theorem dL_law_314 : decode cL_law 314 = .ok (.ireturn, 1) := by decide +kernel
theorem dL_law_315 : decode cL_law 315 = .ok (.aload_n 1, 1) := by decide +kernel
theorem dL_law_316 : decode cL_law 316 = .ok (.invokevirtual 104, 3) := by decide +kernel
theorem dL_law_319 : decode cL_law 319 = .ok (.aload_n 2, 1) := by decide +kernel
theorem dL_law_320 : decode cL_law 320 = .ok (.invokevirtual 107, 3) := by decide +kernel
theorem dL_law_323 : decode cL_law 323 = .ok (.if_icmp .eq 1268, 3) := by decide +kernel
theorem dL_law_326 : decode cL_law 326 = .ok (.iconst 0, 1) := by decide +kernel
theorem dL_law_327 : decode cL_law 327 = .ok (.ireturn, 1) := by decide +kernel
theorem dL_law_328 : decode cL_law 328 = .ok (.aload_n 1, 1) := by decide +kernel
theorem dL_law_329 : decode cL_law 329 = .ok (.aload_n 0, 1) := by decide +kernel
theorem dL_law_330 : decode cL_law 330 = .ok (.iload 4, 2) := by decide +kernel
theorem dL_law_332 : decode cL_law 332 = .ok (.iconst 1, 1) := by decide +kernel
theorem dL_law_333 : decode cL_law 333 = .ok (.iadd, 1) := by decide +kernel
theorem dL_law_334 : decode cL_law 334 = .ok (.iaload, 1) := by decide +kernel
theorem dL_law_335 : decode cL_law 335 = .ok (.aload_n 0, 1) := by decide +kernel
theorem dL_law_336 : decode cL_law 336 = .ok (.iload 4, 2) := by decide +kernel
theorem dL_law_338 : decode cL_law 338 = .ok (.iconst 2, 1) := by decide +kernel
theorem dL_law_339 : decode cL_law 339 = .ok (.iadd, 1) := by decide +kernel
theorem dL_law_340 : decode cL_law 340 = .ok (.iaload, 1) := by decide +kernel
theorem dL_law_341 : decode cL_law 341 = .ok (.aload_n 3, 1) := by decide +kernel
theorem dL_law_342 : decode cL_law 342 = .ok (.invokestatic 108, 3) := by decide +kernel
theorem dL_law_345 : decode cL_law 345 = .ok (.istore 5, 2) := by decide +kernel
theorem dL_law_347 : decode cL_law 347 = .ok (.aload_n 2, 1) := by decide +kernel
theorem dL_law_348 : decode cL_law 348 = .ok (.aload_n 0, 1) := by decide +kernel
theorem dL_law_349 : decode cL_law 349 = .ok (.iload 4, 2) := by decide +kernel
theorem dL_law_351 : decode cL_law 351 = .ok (.iconst 1, 1) := by decide +kernel
theorem dL_law_352 : decode cL_law 352 = .ok (.iadd, 1) := by decide +kernel
theorem dL_law_353 : decode cL_law 353 = .ok (.iaload, 1) := by decide +kernel
theorem dL_law_354 : decode cL_law 354 = .ok (.aload_n 0, 1) := by decide +kernel
theorem dL_law_355 : decode cL_law 355 = .ok (.iload 4, 2) := by decide +kernel
theorem dL_law_357 : decode cL_law 357 = .ok (.iconst 2, 1) := by decide +kernel
theorem dL_law_358 : decode cL_law 358 = .ok (.iadd, 1) := by decide +kernel
theorem dL_law_359 : decode cL_law 359 = .ok (.iaload, 1) := by decide +kernel
theorem dL_law_360 : decode cL_law 360 = .ok (.invokevirtual 111, 3) := by decide +kernel
theorem dL_law_363 : decode cL_law 363 = .ok (.istore 6, 2) := by decide +kernel
theorem dL_law_365 : decode cL_law 365 = .ok (.aload_n 2, 1) := by decide +kernel
theorem dL_law_366 : decode cL_law 366 = .ok (.invokevirtual 92, 3) := by decide +kernel
theorem dL_law_369 : decode cL_law 369 = .ok (.iload 5, 2) := by decide +kernel
theorem dL_law_371 : decode cL_law 371 = .ok (.if_icmp .eq 5, 3) := by decide +kernel
theorem dL_law_374 : decode cL_law 374 = .ok (.iconst 0, 1) := by decide +kernel
theorem dL_law_375 : decode cL_law 375 = .ok (.ireturn, 1) := by decide +kernel
theorem dL_law_376 : decode cL_law 376 = .ok (.iload 5, 2) := by decide +kernel
theorem dL_law_378 : decode cL_law 378 = .ok (.ifCond .ne 15, 3) := by decide +kernel
theorem dL_law_381 : decode cL_law 381 = .ok (.aload_n 3, 1) := by decide +kernel
theorem dL_law_382 : decode cL_law 382 = .ok (.iconst 0, 1) := by decide +kernel
theorem dL_law_383 : decode cL_law 383 = .ok (.laload, 1) := by decide +kernel
theorem dL_law_384 : decode cL_law 384 = .ok (.iload 6, 2) := by decide +kernel
theorem dL_law_386 : decode cL_law 386 = .ok (.i2l, 1) := by decide +kernel
theorem dL_law_387 : decode cL_law 387 = .ok (.lcmp, 1) := by decide +kernel
theorem dL_law_388 : decode cL_law 388 = .ok (.ifCond .eq 5, 3) := by decide +kernel
theorem dL_law_391 : decode cL_law 391 = .ok (.iconst 0, 1) := by decide +kernel
theorem dL_law_392 : decode cL_law 392 = .ok (.ireturn, 1) := by decide +kernel
theorem dL_law_393 : decode cL_law 393 = .ok (.goto 1198, 3) := by decide +kernel
theorem dL_law_396 : decode cL_law 396 = .ok (.aload_n 1, 1) := by decide +kernel
theorem dL_law_397 : decode cL_law 397 = .ok (.aload_n 0, 1) := by decide +kernel
theorem dL_law_398 : decode cL_law 398 = .ok (.iload 4, 2) := by decide +kernel
theorem dL_law_400 : decode cL_law 400 = .ok (.iconst 1, 1) := by decide +kernel
theorem dL_law_401 : decode cL_law 401 = .ok (.iadd, 1) := by decide +kernel
theorem dL_law_402 : decode cL_law 402 = .ok (.iaload, 1) := by decide +kernel
theorem dL_law_403 : decode cL_law 403 = .ok (.aload_n 3, 1) := by decide +kernel
theorem dL_law_404 : decode cL_law 404 = .ok (.invokestatic 112, 3) := by decide +kernel
theorem dL_law_407 : decode cL_law 407 = .ok (.istore 5, 2) := by decide +kernel
theorem dL_law_409 : decode cL_law 409 = .ok (.aload_n 2, 1) := by decide +kernel
theorem dL_law_410 : decode cL_law 410 = .ok (.aload_n 0, 1) := by decide +kernel
theorem dL_law_411 : decode cL_law 411 = .ok (.iload 4, 2) := by decide +kernel
theorem dL_law_413 : decode cL_law 413 = .ok (.iconst 1, 1) := by decide +kernel
theorem dL_law_414 : decode cL_law 414 = .ok (.iadd, 1) := by decide +kernel
theorem dL_law_415 : decode cL_law 415 = .ok (.iaload, 1) := by decide +kernel
theorem dL_law_416 : decode cL_law 416 = .ok (.invokevirtual 114, 3) := by decide +kernel
theorem dL_law_419 : decode cL_law 419 = .ok (.istore 6, 2) := by decide +kernel
theorem dL_law_421 : decode cL_law 421 = .ok (.aload_n 2, 1) := by decide +kernel
theorem dL_law_422 : decode cL_law 422 = .ok (.invokevirtual 92, 3) := by decide +kernel
theorem dL_law_425 : decode cL_law 425 = .ok (.iload 5, 2) := by decide +kernel
theorem dL_law_427 : decode cL_law 427 = .ok (.if_icmp .eq 5, 3) := by decide +kernel
theorem dL_law_430 : decode cL_law 430 = .ok (.iconst 0, 1) := by decide +kernel
theorem dL_law_431 : decode cL_law 431 = .ok (.ireturn, 1) := by decide +kernel
theorem dL_law_432 : decode cL_law 432 = .ok (.iload 5, 2) := by decide +kernel
theorem dL_law_434 : decode cL_law 434 = .ok (.ifCond .ne 22, 3) := by decide +kernel
theorem dL_law_437 : decode cL_law 437 = .ok (.aload_n 3, 1) := by decide +kernel
theorem dL_law_438 : decode cL_law 438 = .ok (.iconst 0, 1) := by decide +kernel
theorem dL_law_439 : decode cL_law 439 = .ok (.laload, 1) := by decide +kernel
theorem dL_law_440 : decode cL_law 440 = .ok (.iload 6, 2) := by decide +kernel
theorem dL_law_442 : decode cL_law 442 = .ok (.ifCond .eq 7, 3) := by decide +kernel
theorem dL_law_445 : decode cL_law 445 = .ok (.lconst 1, 1) := by decide +kernel
theorem dL_law_446 : decode cL_law 446 = .ok (.goto 4, 3) := by decide +kernel
theorem dL_law_449 : decode cL_law 449 = .ok (.lconst 0, 1) := by decide +kernel
theorem dL_law_450 : decode cL_law 450 = .ok (.lcmp, 1) := by decide +kernel
theorem dL_law_451 : decode cL_law 451 = .ok (.ifCond .eq 5, 3) := by decide +kernel
theorem dL_law_454 : decode cL_law 454 = .ok (.iconst 0, 1) := by decide +kernel
theorem dL_law_455 : decode cL_law 455 = .ok (.ireturn, 1) := by decide +kernel
theorem dL_law_456 : decode cL_law 456 = .ok (.goto 1135, 3) := by decide +kernel
theorem dL_law_459 : decode cL_law 459 = .ok (.aload_n 1, 1) := by decide +kernel
theorem dL_law_460 : decode cL_law 460 = .ok (.aload_n 0, 1) := by decide +kernel
theorem dL_law_461 : decode cL_law 461 = .ok (.iload 4, 2) := by decide +kernel
theorem dL_law_463 : decode cL_law 463 = .ok (.iconst 1, 1) := by decide +kernel
theorem dL_law_464 : decode cL_law 464 = .ok (.iadd, 1) := by decide +kernel
theorem dL_law_465 : decode cL_law 465 = .ok (.iaload, 1) := by decide +kernel
theorem dL_law_466 : decode cL_law 466 = .ok (.aload_n 0, 1) := by decide +kernel
theorem dL_law_467 : decode cL_law 467 = .ok (.iload 4, 2) := by decide +kernel
theorem dL_law_469 : decode cL_law 469 = .ok (.iconst 2, 1) := by decide +kernel
theorem dL_law_470 : decode cL_law 470 = .ok (.iadd, 1) := by decide +kernel
theorem dL_law_471 : decode cL_law 471 = .ok (.iaload, 1) := by decide +kernel
theorem dL_law_472 : decode cL_law 472 = .ok (.aload_n 3, 1) := by decide +kernel
theorem dL_law_473 : decode cL_law 473 = .ok (.invokestatic 115, 3) := by decide +kernel
theorem dL_law_476 : decode cL_law 476 = .ok (.istore 5, 2) := by decide +kernel
theorem dL_law_478 : decode cL_law 478 = .ok (.aload_n 2, 1) := by decide +kernel
theorem dL_law_479 : decode cL_law 479 = .ok (.aload_n 0, 1) := by decide +kernel
theorem dL_law_480 : decode cL_law 480 = .ok (.iload 4, 2) := by decide +kernel
theorem dL_law_482 : decode cL_law 482 = .ok (.iconst 1, 1) := by decide +kernel
theorem dL_law_483 : decode cL_law 483 = .ok (.iadd, 1) := by decide +kernel
theorem dL_law_484 : decode cL_law 484 = .ok (.iaload, 1) := by decide +kernel
theorem dL_law_485 : decode cL_law 485 = .ok (.aload_n 0, 1) := by decide +kernel
theorem dL_law_486 : decode cL_law 486 = .ok (.iload 4, 2) := by decide +kernel
theorem dL_law_488 : decode cL_law 488 = .ok (.iconst 2, 1) := by decide +kernel
theorem dL_law_489 : decode cL_law 489 = .ok (.iadd, 1) := by decide +kernel
theorem dL_law_490 : decode cL_law 490 = .ok (.iaload, 1) := by decide +kernel
theorem dL_law_491 : decode cL_law 491 = .ok (.invokevirtual 117, 3) := by decide +kernel
theorem dL_law_494 : decode cL_law 494 = .ok (.istore 6, 2) := by decide +kernel
theorem dL_law_496 : decode cL_law 496 = .ok (.aload_n 2, 1) := by decide +kernel
theorem dL_law_497 : decode cL_law 497 = .ok (.invokevirtual 92, 3) := by decide +kernel
theorem dL_law_500 : decode cL_law 500 = .ok (.iload 5, 2) := by decide +kernel
theorem dL_law_502 : decode cL_law 502 = .ok (.if_icmp .eq 5, 3) := by decide +kernel
theorem dL_law_505 : decode cL_law 505 = .ok (.iconst 0, 1) := by decide +kernel
theorem dL_law_506 : decode cL_law 506 = .ok (.ireturn, 1) := by decide +kernel
theorem dL_law_507 : decode cL_law 507 = .ok (.iload 5, 2) := by decide +kernel
theorem dL_law_509 : decode cL_law 509 = .ok (.ifCond .ne 15, 3) := by decide +kernel
theorem dL_law_512 : decode cL_law 512 = .ok (.aload_n 3, 1) := by decide +kernel
theorem dL_law_513 : decode cL_law 513 = .ok (.iconst 0, 1) := by decide +kernel
theorem dL_law_514 : decode cL_law 514 = .ok (.laload, 1) := by decide +kernel
theorem dL_law_515 : decode cL_law 515 = .ok (.iload 6, 2) := by decide +kernel
theorem dL_law_517 : decode cL_law 517 = .ok (.i2l, 1) := by decide +kernel
theorem dL_law_518 : decode cL_law 518 = .ok (.lcmp, 1) := by decide +kernel
theorem dL_law_519 : decode cL_law 519 = .ok (.ifCond .eq 5, 3) := by decide +kernel
theorem dL_law_522 : decode cL_law 522 = .ok (.iconst 0, 1) := by decide +kernel
theorem dL_law_523 : decode cL_law 523 = .ok (.ireturn, 1) := by decide +kernel
theorem dL_law_524 : decode cL_law 524 = .ok (.goto 1067, 3) := by decide +kernel
theorem dL_law_527 : decode cL_law 527 = .ok (.aload_n 1, 1) := by decide +kernel
theorem dL_law_528 : decode cL_law 528 = .ok (.aload_n 0, 1) := by decide +kernel
theorem dL_law_529 : decode cL_law 529 = .ok (.iload 4, 2) := by decide +kernel
theorem dL_law_531 : decode cL_law 531 = .ok (.iconst 1, 1) := by decide +kernel
theorem dL_law_532 : decode cL_law 532 = .ok (.iadd, 1) := by decide +kernel
theorem dL_law_533 : decode cL_law 533 = .ok (.iaload, 1) := by decide +kernel
theorem dL_law_534 : decode cL_law 534 = .ok (.aload_n 0, 1) := by decide +kernel
theorem dL_law_535 : decode cL_law 535 = .ok (.iload 4, 2) := by decide +kernel
theorem dL_law_537 : decode cL_law 537 = .ok (.iconst 2, 1) := by decide +kernel
theorem dL_law_538 : decode cL_law 538 = .ok (.iadd, 1) := by decide +kernel
theorem dL_law_539 : decode cL_law 539 = .ok (.iaload, 1) := by decide +kernel
theorem dL_law_540 : decode cL_law 540 = .ok (.aload_n 0, 1) := by decide +kernel
theorem dL_law_541 : decode cL_law 541 = .ok (.iload 4, 2) := by decide +kernel
theorem dL_law_543 : decode cL_law 543 = .ok (.iconst 3, 1) := by decide +kernel
theorem dL_law_544 : decode cL_law 544 = .ok (.iadd, 1) := by decide +kernel
theorem dL_law_545 : decode cL_law 545 = .ok (.iaload, 1) := by decide +kernel
theorem dL_law_546 : decode cL_law 546 = .ok (.aload_n 3, 1) := by decide +kernel
theorem dL_law_547 : decode cL_law 547 = .ok (.invokestatic 118, 3) := by decide +kernel
theorem dL_law_550 : decode cL_law 550 = .ok (.istore 5, 2) := by decide +kernel
theorem dL_law_552 : decode cL_law 552 = .ok (.aload_n 2, 1) := by decide +kernel
theorem dL_law_553 : decode cL_law 553 = .ok (.aload_n 0, 1) := by decide +kernel
theorem dL_law_554 : decode cL_law 554 = .ok (.iload 4, 2) := by decide +kernel
theorem dL_law_556 : decode cL_law 556 = .ok (.iconst 1, 1) := by decide +kernel
theorem dL_law_557 : decode cL_law 557 = .ok (.iadd, 1) := by decide +kernel
theorem dL_law_558 : decode cL_law 558 = .ok (.iaload, 1) := by decide +kernel
theorem dL_law_559 : decode cL_law 559 = .ok (.aload_n 0, 1) := by decide +kernel
theorem dL_law_560 : decode cL_law 560 = .ok (.iload 4, 2) := by decide +kernel
theorem dL_law_562 : decode cL_law 562 = .ok (.iconst 2, 1) := by decide +kernel
theorem dL_law_563 : decode cL_law 563 = .ok (.iadd, 1) := by decide +kernel
theorem dL_law_564 : decode cL_law 564 = .ok (.iaload, 1) := by decide +kernel
theorem dL_law_565 : decode cL_law 565 = .ok (.aload_n 0, 1) := by decide +kernel
theorem dL_law_566 : decode cL_law 566 = .ok (.iload 4, 2) := by decide +kernel
theorem dL_law_568 : decode cL_law 568 = .ok (.iconst 3, 1) := by decide +kernel
theorem dL_law_569 : decode cL_law 569 = .ok (.iadd, 1) := by decide +kernel
theorem dL_law_570 : decode cL_law 570 = .ok (.iaload, 1) := by decide +kernel
theorem dL_law_571 : decode cL_law 571 = .ok (.invokevirtual 121, 3) := by decide +kernel
theorem dL_law_574 : decode cL_law 574 = .ok (.istore 6, 2) := by decide +kernel
theorem dL_law_576 : decode cL_law 576 = .ok (.aload_n 2, 1) := by decide +kernel
theorem dL_law_577 : decode cL_law 577 = .ok (.invokevirtual 92, 3) := by decide +kernel
theorem dL_law_580 : decode cL_law 580 = .ok (.iload 5, 2) := by decide +kernel
theorem dL_law_582 : decode cL_law 582 = .ok (.if_icmp .eq 5, 3) := by decide +kernel
theorem dL_law_585 : decode cL_law 585 = .ok (.iconst 0, 1) := by decide +kernel
theorem dL_law_586 : decode cL_law 586 = .ok (.ireturn, 1) := by decide +kernel
theorem dL_law_587 : decode cL_law 587 = .ok (.iload 5, 2) := by decide +kernel
theorem dL_law_589 : decode cL_law 589 = .ok (.ifCond .ne 15, 3) := by decide +kernel
theorem dL_law_592 : decode cL_law 592 = .ok (.aload_n 3, 1) := by decide +kernel
theorem dL_law_593 : decode cL_law 593 = .ok (.iconst 0, 1) := by decide +kernel
theorem dL_law_594 : decode cL_law 594 = .ok (.laload, 1) := by decide +kernel
theorem dL_law_595 : decode cL_law 595 = .ok (.iload 6, 2) := by decide +kernel
theorem dL_law_597 : decode cL_law 597 = .ok (.i2l, 1) := by decide +kernel
theorem dL_law_598 : decode cL_law 598 = .ok (.lcmp, 1) := by decide +kernel
theorem dL_law_599 : decode cL_law 599 = .ok (.ifCond .eq 5, 3) := by decide +kernel
theorem dL_law_602 : decode cL_law 602 = .ok (.iconst 0, 1) := by decide +kernel
theorem dL_law_603 : decode cL_law 603 = .ok (.ireturn, 1) := by decide +kernel
theorem dL_law_604 : decode cL_law 604 = .ok (.goto 987, 3) := by decide +kernel
theorem dL_law_607 : decode cL_law 607 = .ok (.aload_n 1, 1) := by decide +kernel
theorem dL_law_608 : decode cL_law 608 = .ok (.aload_n 0, 1) := by decide +kernel
theorem dL_law_609 : decode cL_law 609 = .ok (.iload 4, 2) := by decide +kernel
theorem dL_law_611 : decode cL_law 611 = .ok (.iconst 1, 1) := by decide +kernel
theorem dL_law_612 : decode cL_law 612 = .ok (.iadd, 1) := by decide +kernel
theorem dL_law_613 : decode cL_law 613 = .ok (.iaload, 1) := by decide +kernel
theorem dL_law_614 : decode cL_law 614 = .ok (.aload_n 0, 1) := by decide +kernel
theorem dL_law_615 : decode cL_law 615 = .ok (.iload 4, 2) := by decide +kernel
theorem dL_law_617 : decode cL_law 617 = .ok (.iconst 2, 1) := by decide +kernel
theorem dL_law_618 : decode cL_law 618 = .ok (.iadd, 1) := by decide +kernel
theorem dL_law_619 : decode cL_law 619 = .ok (.iaload, 1) := by decide +kernel
theorem dL_law_620 : decode cL_law 620 = .ok (.aload_n 0, 1) := by decide +kernel
theorem dL_law_621 : decode cL_law 621 = .ok (.iload 4, 2) := by decide +kernel
theorem dL_law_623 : decode cL_law 623 = .ok (.iconst 3, 1) := by decide +kernel
theorem dL_law_624 : decode cL_law 624 = .ok (.iadd, 1) := by decide +kernel
theorem dL_law_625 : decode cL_law 625 = .ok (.iaload, 1) := by decide +kernel
theorem dL_law_626 : decode cL_law 626 = .ok (.aload_n 3, 1) := by decide +kernel
theorem dL_law_627 : decode cL_law 627 = .ok (.invokestatic 122, 3) := by decide +kernel
theorem dL_law_630 : decode cL_law 630 = .ok (.istore 5, 2) := by decide +kernel
theorem dL_law_632 : decode cL_law 632 = .ok (.aload_n 2, 1) := by decide +kernel
theorem dL_law_633 : decode cL_law 633 = .ok (.aload_n 0, 1) := by decide +kernel
theorem dL_law_634 : decode cL_law 634 = .ok (.iload 4, 2) := by decide +kernel
theorem dL_law_636 : decode cL_law 636 = .ok (.iconst 1, 1) := by decide +kernel
theorem dL_law_637 : decode cL_law 637 = .ok (.iadd, 1) := by decide +kernel
theorem dL_law_638 : decode cL_law 638 = .ok (.iaload, 1) := by decide +kernel
theorem dL_law_639 : decode cL_law 639 = .ok (.aload_n 0, 1) := by decide +kernel
theorem dL_law_640 : decode cL_law 640 = .ok (.iload 4, 2) := by decide +kernel
theorem dL_law_642 : decode cL_law 642 = .ok (.iconst 2, 1) := by decide +kernel
theorem dL_law_643 : decode cL_law 643 = .ok (.iadd, 1) := by decide +kernel
theorem dL_law_644 : decode cL_law 644 = .ok (.iaload, 1) := by decide +kernel
theorem dL_law_645 : decode cL_law 645 = .ok (.aload_n 0, 1) := by decide +kernel
theorem dL_law_646 : decode cL_law 646 = .ok (.iload 4, 2) := by decide +kernel
theorem dL_law_648 : decode cL_law 648 = .ok (.iconst 3, 1) := by decide +kernel
theorem dL_law_649 : decode cL_law 649 = .ok (.iadd, 1) := by decide +kernel
theorem dL_law_650 : decode cL_law 650 = .ok (.iaload, 1) := by decide +kernel
theorem dL_law_651 : decode cL_law 651 = .ok (.invokevirtual 124, 3) := by decide +kernel
theorem dL_law_654 : decode cL_law 654 = .ok (.istore 6, 2) := by decide +kernel
theorem dL_law_656 : decode cL_law 656 = .ok (.aload_n 2, 1) := by decide +kernel
theorem dL_law_657 : decode cL_law 657 = .ok (.invokevirtual 92, 3) := by decide +kernel
theorem dL_law_660 : decode cL_law 660 = .ok (.iload 5, 2) := by decide +kernel
theorem dL_law_662 : decode cL_law 662 = .ok (.if_icmp .eq 5, 3) := by decide +kernel
theorem dL_law_665 : decode cL_law 665 = .ok (.iconst 0, 1) := by decide +kernel
theorem dL_law_666 : decode cL_law 666 = .ok (.ireturn, 1) := by decide +kernel
theorem dL_law_667 : decode cL_law 667 = .ok (.iload 5, 2) := by decide +kernel
theorem dL_law_669 : decode cL_law 669 = .ok (.ifCond .ne 15, 3) := by decide +kernel
theorem dL_law_672 : decode cL_law 672 = .ok (.aload_n 3, 1) := by decide +kernel
theorem dL_law_673 : decode cL_law 673 = .ok (.iconst 0, 1) := by decide +kernel
theorem dL_law_674 : decode cL_law 674 = .ok (.laload, 1) := by decide +kernel
theorem dL_law_675 : decode cL_law 675 = .ok (.iload 6, 2) := by decide +kernel
theorem dL_law_677 : decode cL_law 677 = .ok (.i2l, 1) := by decide +kernel
theorem dL_law_678 : decode cL_law 678 = .ok (.lcmp, 1) := by decide +kernel
theorem dL_law_679 : decode cL_law 679 = .ok (.ifCond .eq 5, 3) := by decide +kernel
theorem dL_law_682 : decode cL_law 682 = .ok (.iconst 0, 1) := by decide +kernel
theorem dL_law_683 : decode cL_law 683 = .ok (.ireturn, 1) := by decide +kernel
theorem dL_law_684 : decode cL_law 684 = .ok (.goto 907, 3) := by decide +kernel
theorem dL_law_687 : decode cL_law 687 = .ok (.aload_n 1, 1) := by decide +kernel
theorem dL_law_688 : decode cL_law 688 = .ok (.aload_n 0, 1) := by decide +kernel
theorem dL_law_689 : decode cL_law 689 = .ok (.iload 4, 2) := by decide +kernel
theorem dL_law_691 : decode cL_law 691 = .ok (.iconst 1, 1) := by decide +kernel
theorem dL_law_692 : decode cL_law 692 = .ok (.iadd, 1) := by decide +kernel
theorem dL_law_693 : decode cL_law 693 = .ok (.iaload, 1) := by decide +kernel
theorem dL_law_694 : decode cL_law 694 = .ok (.aload_n 0, 1) := by decide +kernel
theorem dL_law_695 : decode cL_law 695 = .ok (.iload 4, 2) := by decide +kernel
theorem dL_law_697 : decode cL_law 697 = .ok (.iconst 2, 1) := by decide +kernel
theorem dL_law_698 : decode cL_law 698 = .ok (.iadd, 1) := by decide +kernel
theorem dL_law_699 : decode cL_law 699 = .ok (.iaload, 1) := by decide +kernel
theorem dL_law_700 : decode cL_law 700 = .ok (.aload_n 0, 1) := by decide +kernel
theorem dL_law_701 : decode cL_law 701 = .ok (.iload 4, 2) := by decide +kernel
theorem dL_law_703 : decode cL_law 703 = .ok (.iconst 3, 1) := by decide +kernel
theorem dL_law_704 : decode cL_law 704 = .ok (.iadd, 1) := by decide +kernel
theorem dL_law_705 : decode cL_law 705 = .ok (.iaload, 1) := by decide +kernel
theorem dL_law_706 : decode cL_law 706 = .ok (.aload_n 0, 1) := by decide +kernel
theorem dL_law_707 : decode cL_law 707 = .ok (.iload 4, 2) := by decide +kernel
theorem dL_law_709 : decode cL_law 709 = .ok (.iconst 4, 1) := by decide +kernel
theorem dL_law_710 : decode cL_law 710 = .ok (.iadd, 1) := by decide +kernel
theorem dL_law_711 : decode cL_law 711 = .ok (.iaload, 1) := by decide +kernel
theorem dL_law_712 : decode cL_law 712 = .ok (.aload_n 3, 1) := by decide +kernel
theorem dL_law_713 : decode cL_law 713 = .ok (.invokestatic 125, 3) := by decide +kernel
theorem dL_law_716 : decode cL_law 716 = .ok (.istore 5, 2) := by decide +kernel
theorem dL_law_718 : decode cL_law 718 = .ok (.aload_n 2, 1) := by decide +kernel
theorem dL_law_719 : decode cL_law 719 = .ok (.aload_n 0, 1) := by decide +kernel
theorem dL_law_720 : decode cL_law 720 = .ok (.iload 4, 2) := by decide +kernel
theorem dL_law_722 : decode cL_law 722 = .ok (.iconst 1, 1) := by decide +kernel
theorem dL_law_723 : decode cL_law 723 = .ok (.iadd, 1) := by decide +kernel
theorem dL_law_724 : decode cL_law 724 = .ok (.iaload, 1) := by decide +kernel
theorem dL_law_725 : decode cL_law 725 = .ok (.aload_n 0, 1) := by decide +kernel
theorem dL_law_726 : decode cL_law 726 = .ok (.iload 4, 2) := by decide +kernel
theorem dL_law_728 : decode cL_law 728 = .ok (.iconst 2, 1) := by decide +kernel
theorem dL_law_729 : decode cL_law 729 = .ok (.iadd, 1) := by decide +kernel
theorem dL_law_730 : decode cL_law 730 = .ok (.iaload, 1) := by decide +kernel
theorem dL_law_731 : decode cL_law 731 = .ok (.aload_n 0, 1) := by decide +kernel
theorem dL_law_732 : decode cL_law 732 = .ok (.iload 4, 2) := by decide +kernel
theorem dL_law_734 : decode cL_law 734 = .ok (.iconst 3, 1) := by decide +kernel
theorem dL_law_735 : decode cL_law 735 = .ok (.iadd, 1) := by decide +kernel
theorem dL_law_736 : decode cL_law 736 = .ok (.iaload, 1) := by decide +kernel
theorem dL_law_737 : decode cL_law 737 = .ok (.aload_n 0, 1) := by decide +kernel
theorem dL_law_738 : decode cL_law 738 = .ok (.iload 4, 2) := by decide +kernel
theorem dL_law_740 : decode cL_law 740 = .ok (.iconst 4, 1) := by decide +kernel
theorem dL_law_741 : decode cL_law 741 = .ok (.iadd, 1) := by decide +kernel
theorem dL_law_742 : decode cL_law 742 = .ok (.iaload, 1) := by decide +kernel
theorem dL_law_743 : decode cL_law 743 = .ok (.invokevirtual 128, 3) := by decide +kernel
theorem dL_law_746 : decode cL_law 746 = .ok (.istore 6, 2) := by decide +kernel
theorem dL_law_748 : decode cL_law 748 = .ok (.aload_n 2, 1) := by decide +kernel
theorem dL_law_749 : decode cL_law 749 = .ok (.invokevirtual 92, 3) := by decide +kernel
theorem dL_law_752 : decode cL_law 752 = .ok (.iload 5, 2) := by decide +kernel
theorem dL_law_754 : decode cL_law 754 = .ok (.if_icmp .eq 5, 3) := by decide +kernel
theorem dL_law_757 : decode cL_law 757 = .ok (.iconst 0, 1) := by decide +kernel
theorem dL_law_758 : decode cL_law 758 = .ok (.ireturn, 1) := by decide +kernel
theorem dL_law_759 : decode cL_law 759 = .ok (.iload 5, 2) := by decide +kernel
theorem dL_law_761 : decode cL_law 761 = .ok (.ifCond .ne 15, 3) := by decide +kernel
theorem dL_law_764 : decode cL_law 764 = .ok (.aload_n 3, 1) := by decide +kernel
theorem dL_law_765 : decode cL_law 765 = .ok (.iconst 0, 1) := by decide +kernel
theorem dL_law_766 : decode cL_law 766 = .ok (.laload, 1) := by decide +kernel
theorem dL_law_767 : decode cL_law 767 = .ok (.iload 6, 2) := by decide +kernel
theorem dL_law_769 : decode cL_law 769 = .ok (.i2l, 1) := by decide +kernel
theorem dL_law_770 : decode cL_law 770 = .ok (.lcmp, 1) := by decide +kernel
theorem dL_law_771 : decode cL_law 771 = .ok (.ifCond .eq 5, 3) := by decide +kernel
theorem dL_law_774 : decode cL_law 774 = .ok (.iconst 0, 1) := by decide +kernel
theorem dL_law_775 : decode cL_law 775 = .ok (.ireturn, 1) := by decide +kernel
theorem dL_law_776 : decode cL_law 776 = .ok (.goto 815, 3) := by decide +kernel
theorem dL_law_779 : decode cL_law 779 = .ok (.aload_n 1, 1) := by decide +kernel
theorem dL_law_780 : decode cL_law 780 = .ok (.aload_n 0, 1) := by decide +kernel
theorem dL_law_781 : decode cL_law 781 = .ok (.iload 4, 2) := by decide +kernel
theorem dL_law_783 : decode cL_law 783 = .ok (.iconst 1, 1) := by decide +kernel
theorem dL_law_784 : decode cL_law 784 = .ok (.iadd, 1) := by decide +kernel
theorem dL_law_785 : decode cL_law 785 = .ok (.iaload, 1) := by decide +kernel
theorem dL_law_786 : decode cL_law 786 = .ok (.aload_n 0, 1) := by decide +kernel
theorem dL_law_787 : decode cL_law 787 = .ok (.iload 4, 2) := by decide +kernel
theorem dL_law_789 : decode cL_law 789 = .ok (.iconst 2, 1) := by decide +kernel
theorem dL_law_790 : decode cL_law 790 = .ok (.iadd, 1) := by decide +kernel
theorem dL_law_791 : decode cL_law 791 = .ok (.iaload, 1) := by decide +kernel
theorem dL_law_792 : decode cL_law 792 = .ok (.aload_n 3, 1) := by decide +kernel
theorem dL_law_793 : decode cL_law 793 = .ok (.invokestatic 129, 3) := by decide +kernel
theorem dL_law_796 : decode cL_law 796 = .ok (.istore 5, 2) := by decide +kernel
theorem dL_law_798 : decode cL_law 798 = .ok (.aload_n 2, 1) := by decide +kernel
theorem dL_law_799 : decode cL_law 799 = .ok (.aload_n 0, 1) := by decide +kernel
theorem dL_law_800 : decode cL_law 800 = .ok (.iload 4, 2) := by decide +kernel
theorem dL_law_802 : decode cL_law 802 = .ok (.iconst 1, 1) := by decide +kernel
theorem dL_law_803 : decode cL_law 803 = .ok (.iadd, 1) := by decide +kernel
theorem dL_law_804 : decode cL_law 804 = .ok (.iaload, 1) := by decide +kernel
theorem dL_law_805 : decode cL_law 805 = .ok (.aload_n 0, 1) := by decide +kernel
theorem dL_law_806 : decode cL_law 806 = .ok (.iload 4, 2) := by decide +kernel
theorem dL_law_808 : decode cL_law 808 = .ok (.iconst 2, 1) := by decide +kernel
theorem dL_law_809 : decode cL_law 809 = .ok (.iadd, 1) := by decide +kernel
theorem dL_law_810 : decode cL_law 810 = .ok (.iaload, 1) := by decide +kernel
theorem dL_law_811 : decode cL_law 811 = .ok (.invokevirtual 131, 3) := by decide +kernel
theorem dL_law_814 : decode cL_law 814 = .ok (.istore 6, 2) := by decide +kernel
theorem dL_law_816 : decode cL_law 816 = .ok (.aload_n 2, 1) := by decide +kernel
theorem dL_law_817 : decode cL_law 817 = .ok (.invokevirtual 92, 3) := by decide +kernel
theorem dL_law_820 : decode cL_law 820 = .ok (.iload 5, 2) := by decide +kernel
theorem dL_law_822 : decode cL_law 822 = .ok (.if_icmp .eq 5, 3) := by decide +kernel
theorem dL_law_825 : decode cL_law 825 = .ok (.iconst 0, 1) := by decide +kernel
theorem dL_law_826 : decode cL_law 826 = .ok (.ireturn, 1) := by decide +kernel
theorem dL_law_827 : decode cL_law 827 = .ok (.iload 5, 2) := by decide +kernel
theorem dL_law_829 : decode cL_law 829 = .ok (.ifCond .ne 15, 3) := by decide +kernel
theorem dL_law_832 : decode cL_law 832 = .ok (.aload_n 3, 1) := by decide +kernel
theorem dL_law_833 : decode cL_law 833 = .ok (.iconst 0, 1) := by decide +kernel
theorem dL_law_834 : decode cL_law 834 = .ok (.laload, 1) := by decide +kernel
theorem dL_law_835 : decode cL_law 835 = .ok (.iload 6, 2) := by decide +kernel
theorem dL_law_837 : decode cL_law 837 = .ok (.i2l, 1) := by decide +kernel
theorem dL_law_838 : decode cL_law 838 = .ok (.lcmp, 1) := by decide +kernel
theorem dL_law_839 : decode cL_law 839 = .ok (.ifCond .eq 5, 3) := by decide +kernel
theorem dL_law_842 : decode cL_law 842 = .ok (.iconst 0, 1) := by decide +kernel
theorem dL_law_843 : decode cL_law 843 = .ok (.ireturn, 1) := by decide +kernel
theorem dL_law_844 : decode cL_law 844 = .ok (.goto 747, 3) := by decide +kernel
theorem dL_law_847 : decode cL_law 847 = .ok (.aload_n 1, 1) := by decide +kernel
theorem dL_law_848 : decode cL_law 848 = .ok (.aload_n 0, 1) := by decide +kernel
theorem dL_law_849 : decode cL_law 849 = .ok (.iload 4, 2) := by decide +kernel
theorem dL_law_851 : decode cL_law 851 = .ok (.iconst 1, 1) := by decide +kernel
theorem dL_law_852 : decode cL_law 852 = .ok (.iadd, 1) := by decide +kernel
theorem dL_law_853 : decode cL_law 853 = .ok (.iaload, 1) := by decide +kernel
theorem dL_law_854 : decode cL_law 854 = .ok (.aload_n 0, 1) := by decide +kernel
theorem dL_law_855 : decode cL_law 855 = .ok (.iload 4, 2) := by decide +kernel
theorem dL_law_857 : decode cL_law 857 = .ok (.iconst 2, 1) := by decide +kernel
theorem dL_law_858 : decode cL_law 858 = .ok (.iadd, 1) := by decide +kernel
theorem dL_law_859 : decode cL_law 859 = .ok (.iaload, 1) := by decide +kernel
theorem dL_law_860 : decode cL_law 860 = .ok (.aload_n 3, 1) := by decide +kernel
theorem dL_law_861 : decode cL_law 861 = .ok (.invokestatic 132, 3) := by decide +kernel
theorem dL_law_864 : decode cL_law 864 = .ok (.istore 5, 2) := by decide +kernel
theorem dL_law_866 : decode cL_law 866 = .ok (.aload_n 2, 1) := by decide +kernel
theorem dL_law_867 : decode cL_law 867 = .ok (.aload_n 0, 1) := by decide +kernel
theorem dL_law_868 : decode cL_law 868 = .ok (.iload 4, 2) := by decide +kernel
theorem dL_law_870 : decode cL_law 870 = .ok (.iconst 1, 1) := by decide +kernel
theorem dL_law_871 : decode cL_law 871 = .ok (.iadd, 1) := by decide +kernel
theorem dL_law_872 : decode cL_law 872 = .ok (.iaload, 1) := by decide +kernel
theorem dL_law_873 : decode cL_law 873 = .ok (.aload_n 0, 1) := by decide +kernel
theorem dL_law_874 : decode cL_law 874 = .ok (.iload 4, 2) := by decide +kernel
theorem dL_law_876 : decode cL_law 876 = .ok (.iconst 2, 1) := by decide +kernel
theorem dL_law_877 : decode cL_law 877 = .ok (.iadd, 1) := by decide +kernel
theorem dL_law_878 : decode cL_law 878 = .ok (.iaload, 1) := by decide +kernel
theorem dL_law_879 : decode cL_law 879 = .ok (.invokevirtual 134, 3) := by decide +kernel
theorem dL_law_882 : decode cL_law 882 = .ok (.istore 6, 2) := by decide +kernel
theorem dL_law_884 : decode cL_law 884 = .ok (.aload_n 2, 1) := by decide +kernel
theorem dL_law_885 : decode cL_law 885 = .ok (.invokevirtual 92, 3) := by decide +kernel
theorem dL_law_888 : decode cL_law 888 = .ok (.iload 5, 2) := by decide +kernel
theorem dL_law_890 : decode cL_law 890 = .ok (.if_icmp .eq 5, 3) := by decide +kernel
theorem dL_law_893 : decode cL_law 893 = .ok (.iconst 0, 1) := by decide +kernel
theorem dL_law_894 : decode cL_law 894 = .ok (.ireturn, 1) := by decide +kernel
theorem dL_law_895 : decode cL_law 895 = .ok (.iload 5, 2) := by decide +kernel
theorem dL_law_897 : decode cL_law 897 = .ok (.ifCond .ne 15, 3) := by decide +kernel
theorem dL_law_900 : decode cL_law 900 = .ok (.aload_n 3, 1) := by decide +kernel
theorem dL_law_901 : decode cL_law 901 = .ok (.iconst 0, 1) := by decide +kernel
theorem dL_law_902 : decode cL_law 902 = .ok (.laload, 1) := by decide +kernel
theorem dL_law_903 : decode cL_law 903 = .ok (.iload 6, 2) := by decide +kernel
theorem dL_law_905 : decode cL_law 905 = .ok (.i2l, 1) := by decide +kernel
theorem dL_law_906 : decode cL_law 906 = .ok (.lcmp, 1) := by decide +kernel
theorem dL_law_907 : decode cL_law 907 = .ok (.ifCond .eq 5, 3) := by decide +kernel
theorem dL_law_910 : decode cL_law 910 = .ok (.iconst 0, 1) := by decide +kernel
theorem dL_law_911 : decode cL_law 911 = .ok (.ireturn, 1) := by decide +kernel
theorem dL_law_912 : decode cL_law 912 = .ok (.goto 679, 3) := by decide +kernel
theorem dL_law_915 : decode cL_law 915 = .ok (.aload_n 1, 1) := by decide +kernel
theorem dL_law_916 : decode cL_law 916 = .ok (.aload_n 0, 1) := by decide +kernel
theorem dL_law_917 : decode cL_law 917 = .ok (.iload 4, 2) := by decide +kernel
theorem dL_law_919 : decode cL_law 919 = .ok (.iconst 1, 1) := by decide +kernel
theorem dL_law_920 : decode cL_law 920 = .ok (.iadd, 1) := by decide +kernel
theorem dL_law_921 : decode cL_law 921 = .ok (.iaload, 1) := by decide +kernel
theorem dL_law_922 : decode cL_law 922 = .ok (.aload_n 0, 1) := by decide +kernel
theorem dL_law_923 : decode cL_law 923 = .ok (.iload 4, 2) := by decide +kernel
theorem dL_law_925 : decode cL_law 925 = .ok (.iconst 2, 1) := by decide +kernel
theorem dL_law_926 : decode cL_law 926 = .ok (.iadd, 1) := by decide +kernel
theorem dL_law_927 : decode cL_law 927 = .ok (.iaload, 1) := by decide +kernel
theorem dL_law_928 : decode cL_law 928 = .ok (.aload_n 3, 1) := by decide +kernel
theorem dL_law_929 : decode cL_law 929 = .ok (.invokestatic 135, 3) := by decide +kernel
theorem dL_law_932 : decode cL_law 932 = .ok (.istore 5, 2) := by decide +kernel
theorem dL_law_934 : decode cL_law 934 = .ok (.aload_n 2, 1) := by decide +kernel
theorem dL_law_935 : decode cL_law 935 = .ok (.aload_n 0, 1) := by decide +kernel
theorem dL_law_936 : decode cL_law 936 = .ok (.iload 4, 2) := by decide +kernel
theorem dL_law_938 : decode cL_law 938 = .ok (.iconst 1, 1) := by decide +kernel
theorem dL_law_939 : decode cL_law 939 = .ok (.iadd, 1) := by decide +kernel
theorem dL_law_940 : decode cL_law 940 = .ok (.iaload, 1) := by decide +kernel
theorem dL_law_941 : decode cL_law 941 = .ok (.aload_n 0, 1) := by decide +kernel
theorem dL_law_942 : decode cL_law 942 = .ok (.iload 4, 2) := by decide +kernel
theorem dL_law_944 : decode cL_law 944 = .ok (.iconst 2, 1) := by decide +kernel
theorem dL_law_945 : decode cL_law 945 = .ok (.iadd, 1) := by decide +kernel
theorem dL_law_946 : decode cL_law 946 = .ok (.iaload, 1) := by decide +kernel
theorem dL_law_947 : decode cL_law 947 = .ok (.invokevirtual 137, 3) := by decide +kernel
theorem dL_law_950 : decode cL_law 950 = .ok (.istore 6, 2) := by decide +kernel
theorem dL_law_952 : decode cL_law 952 = .ok (.aload_n 2, 1) := by decide +kernel
theorem dL_law_953 : decode cL_law 953 = .ok (.invokevirtual 92, 3) := by decide +kernel
theorem dL_law_956 : decode cL_law 956 = .ok (.iload 5, 2) := by decide +kernel
theorem dL_law_958 : decode cL_law 958 = .ok (.if_icmp .eq 5, 3) := by decide +kernel
theorem dL_law_961 : decode cL_law 961 = .ok (.iconst 0, 1) := by decide +kernel
theorem dL_law_962 : decode cL_law 962 = .ok (.ireturn, 1) := by decide +kernel
theorem dL_law_963 : decode cL_law 963 = .ok (.iload 5, 2) := by decide +kernel
theorem dL_law_965 : decode cL_law 965 = .ok (.ifCond .ne 15, 3) := by decide +kernel
theorem dL_law_968 : decode cL_law 968 = .ok (.aload_n 3, 1) := by decide +kernel
theorem dL_law_969 : decode cL_law 969 = .ok (.iconst 0, 1) := by decide +kernel
theorem dL_law_970 : decode cL_law 970 = .ok (.laload, 1) := by decide +kernel
theorem dL_law_971 : decode cL_law 971 = .ok (.iload 6, 2) := by decide +kernel
theorem dL_law_973 : decode cL_law 973 = .ok (.i2l, 1) := by decide +kernel
theorem dL_law_974 : decode cL_law 974 = .ok (.lcmp, 1) := by decide +kernel
theorem dL_law_975 : decode cL_law 975 = .ok (.ifCond .eq 5, 3) := by decide +kernel
theorem dL_law_978 : decode cL_law 978 = .ok (.iconst 0, 1) := by decide +kernel
theorem dL_law_979 : decode cL_law 979 = .ok (.ireturn, 1) := by decide +kernel
theorem dL_law_980 : decode cL_law 980 = .ok (.goto 611, 3) := by decide +kernel
theorem dL_law_983 : decode cL_law 983 = .ok (.aload_n 1, 1) := by decide +kernel
theorem dL_law_984 : decode cL_law 984 = .ok (.invokevirtual 138, 3) := by decide +kernel
theorem dL_law_987 : decode cL_law 987 = .ok (.aload_n 2, 1) := by decide +kernel
theorem dL_law_988 : decode cL_law 988 = .ok (.invokevirtual 141, 3) := by decide +kernel
theorem dL_law_991 : decode cL_law 991 = .ok (.if_icmp .eq 600, 3) := by decide +kernel
theorem dL_law_994 : decode cL_law 994 = .ok (.iconst 0, 1) := by decide +kernel
theorem dL_law_995 : decode cL_law 995 = .ok (.ireturn, 1) := by decide +kernel
theorem dL_law_996 : decode cL_law 996 = .ok (.aload_n 1, 1) := by decide +kernel
theorem dL_law_997 : decode cL_law 997 = .ok (.aload_n 0, 1) := by decide +kernel
theorem dL_law_998 : decode cL_law 998 = .ok (.iload 4, 2) := by decide +kernel
theorem dL_law_1000 : decode cL_law 1000 = .ok (.iconst 1, 1) := by decide +kernel
theorem dL_law_1001 : decode cL_law 1001 = .ok (.iadd, 1) := by decide +kernel
theorem dL_law_1002 : decode cL_law 1002 = .ok (.iaload, 1) := by decide +kernel
theorem dL_law_1003 : decode cL_law 1003 = .ok (.aload_n 3, 1) := by decide +kernel
theorem dL_law_1004 : decode cL_law 1004 = .ok (.invokestatic 142, 3) := by decide +kernel
theorem dL_law_1007 : decode cL_law 1007 = .ok (.istore 5, 2) := by decide +kernel
theorem dL_law_1009 : decode cL_law 1009 = .ok (.aload_n 2, 1) := by decide +kernel
theorem dL_law_1010 : decode cL_law 1010 = .ok (.aload_n 0, 1) := by decide +kernel
theorem dL_law_1011 : decode cL_law 1011 = .ok (.iload 4, 2) := by decide +kernel
theorem dL_law_1013 : decode cL_law 1013 = .ok (.iconst 1, 1) := by decide +kernel
theorem dL_law_1014 : decode cL_law 1014 = .ok (.iadd, 1) := by decide +kernel
theorem dL_law_1015 : decode cL_law 1015 = .ok (.iaload, 1) := by decide +kernel
theorem dL_law_1016 : decode cL_law 1016 = .ok (.invokevirtual 144, 3) := by decide +kernel
theorem dL_law_1019 : decode cL_law 1019 = .ok (.istore 6, 2) := by decide +kernel
theorem dL_law_1021 : decode cL_law 1021 = .ok (.aload_n 2, 1) := by decide +kernel
theorem dL_law_1022 : decode cL_law 1022 = .ok (.invokevirtual 92, 3) := by decide +kernel
theorem dL_law_1025 : decode cL_law 1025 = .ok (.iload 5, 2) := by decide +kernel
theorem dL_law_1027 : decode cL_law 1027 = .ok (.if_icmp .eq 5, 3) := by decide +kernel
theorem dL_law_1030 : decode cL_law 1030 = .ok (.iconst 0, 1) := by decide +kernel
theorem dL_law_1031 : decode cL_law 1031 = .ok (.ireturn, 1) := by decide +kernel
theorem dL_law_1032 : decode cL_law 1032 = .ok (.iload 5, 2) := by decide +kernel
theorem dL_law_1034 : decode cL_law 1034 = .ok (.ifCond .ne 15, 3) := by decide +kernel
theorem dL_law_1037 : decode cL_law 1037 = .ok (.aload_n 3, 1) := by decide +kernel
theorem dL_law_1038 : decode cL_law 1038 = .ok (.iconst 0, 1) := by decide +kernel
theorem dL_law_1039 : decode cL_law 1039 = .ok (.laload, 1) := by decide +kernel
theorem dL_law_1040 : decode cL_law 1040 = .ok (.iload 6, 2) := by decide +kernel
theorem dL_law_1042 : decode cL_law 1042 = .ok (.i2l, 1) := by decide +kernel
theorem dL_law_1043 : decode cL_law 1043 = .ok (.lcmp, 1) := by decide +kernel
theorem dL_law_1044 : decode cL_law 1044 = .ok (.ifCond .eq 5, 3) := by decide +kernel
theorem dL_law_1047 : decode cL_law 1047 = .ok (.iconst 0, 1) := by decide +kernel
theorem dL_law_1048 : decode cL_law 1048 = .ok (.ireturn, 1) := by decide +kernel
theorem dL_law_1049 : decode cL_law 1049 = .ok (.goto 542, 3) := by decide +kernel
theorem dL_law_1052 : decode cL_law 1052 = .ok (.aload_n 1, 1) := by decide +kernel
theorem dL_law_1053 : decode cL_law 1053 = .ok (.aload_n 0, 1) := by decide +kernel
theorem dL_law_1054 : decode cL_law 1054 = .ok (.iload 4, 2) := by decide +kernel
theorem dL_law_1056 : decode cL_law 1056 = .ok (.iconst 1, 1) := by decide +kernel
theorem dL_law_1057 : decode cL_law 1057 = .ok (.iadd, 1) := by decide +kernel
theorem dL_law_1058 : decode cL_law 1058 = .ok (.iaload, 1) := by decide +kernel
theorem dL_law_1059 : decode cL_law 1059 = .ok (.aload_n 3, 1) := by decide +kernel
theorem dL_law_1060 : decode cL_law 1060 = .ok (.invokestatic 145, 3) := by decide +kernel
theorem dL_law_1063 : decode cL_law 1063 = .ok (.istore 5, 2) := by decide +kernel
theorem dL_law_1065 : decode cL_law 1065 = .ok (.aload_n 2, 1) := by decide +kernel
theorem dL_law_1066 : decode cL_law 1066 = .ok (.aload_n 0, 1) := by decide +kernel
theorem dL_law_1067 : decode cL_law 1067 = .ok (.iload 4, 2) := by decide +kernel
theorem dL_law_1069 : decode cL_law 1069 = .ok (.iconst 1, 1) := by decide +kernel
theorem dL_law_1070 : decode cL_law 1070 = .ok (.iadd, 1) := by decide +kernel
theorem dL_law_1071 : decode cL_law 1071 = .ok (.iaload, 1) := by decide +kernel
theorem dL_law_1072 : decode cL_law 1072 = .ok (.invokevirtual 147, 3) := by decide +kernel
theorem dL_law_1075 : decode cL_law 1075 = .ok (.istore 6, 2) := by decide +kernel
theorem dL_law_1077 : decode cL_law 1077 = .ok (.aload_n 2, 1) := by decide +kernel
theorem dL_law_1078 : decode cL_law 1078 = .ok (.invokevirtual 92, 3) := by decide +kernel
theorem dL_law_1081 : decode cL_law 1081 = .ok (.iload 5, 2) := by decide +kernel
theorem dL_law_1083 : decode cL_law 1083 = .ok (.if_icmp .eq 5, 3) := by decide +kernel
theorem dL_law_1086 : decode cL_law 1086 = .ok (.iconst 0, 1) := by decide +kernel
theorem dL_law_1087 : decode cL_law 1087 = .ok (.ireturn, 1) := by decide +kernel
theorem dL_law_1088 : decode cL_law 1088 = .ok (.iload 5, 2) := by decide +kernel
theorem dL_law_1090 : decode cL_law 1090 = .ok (.ifCond .ne 15, 3) := by decide +kernel
theorem dL_law_1093 : decode cL_law 1093 = .ok (.aload_n 3, 1) := by decide +kernel
theorem dL_law_1094 : decode cL_law 1094 = .ok (.iconst 0, 1) := by decide +kernel
theorem dL_law_1095 : decode cL_law 1095 = .ok (.laload, 1) := by decide +kernel
theorem dL_law_1096 : decode cL_law 1096 = .ok (.iload 6, 2) := by decide +kernel
theorem dL_law_1098 : decode cL_law 1098 = .ok (.i2l, 1) := by decide +kernel
theorem dL_law_1099 : decode cL_law 1099 = .ok (.lcmp, 1) := by decide +kernel
theorem dL_law_1100 : decode cL_law 1100 = .ok (.ifCond .eq 5, 3) := by decide +kernel
theorem dL_law_1103 : decode cL_law 1103 = .ok (.iconst 0, 1) := by decide +kernel
theorem dL_law_1104 : decode cL_law 1104 = .ok (.ireturn, 1) := by decide +kernel
theorem dL_law_1105 : decode cL_law 1105 = .ok (.goto 486, 3) := by decide +kernel
theorem dL_law_1108 : decode cL_law 1108 = .ok (.aload_n 1, 1) := by decide +kernel
theorem dL_law_1109 : decode cL_law 1109 = .ok (.aload_n 0, 1) := by decide +kernel
theorem dL_law_1110 : decode cL_law 1110 = .ok (.iload 4, 2) := by decide +kernel
theorem dL_law_1112 : decode cL_law 1112 = .ok (.iconst 1, 1) := by decide +kernel
theorem dL_law_1113 : decode cL_law 1113 = .ok (.iadd, 1) := by decide +kernel
theorem dL_law_1114 : decode cL_law 1114 = .ok (.iaload, 1) := by decide +kernel
theorem dL_law_1115 : decode cL_law 1115 = .ok (.aload_n 0, 1) := by decide +kernel
theorem dL_law_1116 : decode cL_law 1116 = .ok (.iload 4, 2) := by decide +kernel
theorem dL_law_1118 : decode cL_law 1118 = .ok (.iconst 2, 1) := by decide +kernel
theorem dL_law_1119 : decode cL_law 1119 = .ok (.iadd, 1) := by decide +kernel
theorem dL_law_1120 : decode cL_law 1120 = .ok (.iaload, 1) := by decide +kernel
theorem dL_law_1121 : decode cL_law 1121 = .ok (.aload_n 3, 1) := by decide +kernel
theorem dL_law_1122 : decode cL_law 1122 = .ok (.invokestatic 148, 3) := by decide +kernel
theorem dL_law_1125 : decode cL_law 1125 = .ok (.istore 5, 2) := by decide +kernel
theorem dL_law_1127 : decode cL_law 1127 = .ok (.aload_n 2, 1) := by decide +kernel
theorem dL_law_1128 : decode cL_law 1128 = .ok (.aload_n 0, 1) := by decide +kernel
theorem dL_law_1129 : decode cL_law 1129 = .ok (.iload 4, 2) := by decide +kernel
theorem dL_law_1131 : decode cL_law 1131 = .ok (.iconst 1, 1) := by decide +kernel
theorem dL_law_1132 : decode cL_law 1132 = .ok (.iadd, 1) := by decide +kernel
theorem dL_law_1133 : decode cL_law 1133 = .ok (.iaload, 1) := by decide +kernel
theorem dL_law_1134 : decode cL_law 1134 = .ok (.aload_n 0, 1) := by decide +kernel
theorem dL_law_1135 : decode cL_law 1135 = .ok (.iload 4, 2) := by decide +kernel
theorem dL_law_1137 : decode cL_law 1137 = .ok (.iconst 2, 1) := by decide +kernel
theorem dL_law_1138 : decode cL_law 1138 = .ok (.iadd, 1) := by decide +kernel
theorem dL_law_1139 : decode cL_law 1139 = .ok (.iaload, 1) := by decide +kernel
theorem dL_law_1140 : decode cL_law 1140 = .ok (.invokevirtual 150, 3) := by decide +kernel
theorem dL_law_1143 : decode cL_law 1143 = .ok (.istore 6, 2) := by decide +kernel
theorem dL_law_1145 : decode cL_law 1145 = .ok (.aload_n 2, 1) := by decide +kernel
theorem dL_law_1146 : decode cL_law 1146 = .ok (.invokevirtual 92, 3) := by decide +kernel
theorem dL_law_1149 : decode cL_law 1149 = .ok (.iload 5, 2) := by decide +kernel
theorem dL_law_1151 : decode cL_law 1151 = .ok (.if_icmp .eq 5, 3) := by decide +kernel
theorem dL_law_1154 : decode cL_law 1154 = .ok (.iconst 0, 1) := by decide +kernel
theorem dL_law_1155 : decode cL_law 1155 = .ok (.ireturn, 1) := by decide +kernel
theorem dL_law_1156 : decode cL_law 1156 = .ok (.iload 5, 2) := by decide +kernel
theorem dL_law_1158 : decode cL_law 1158 = .ok (.ifCond .ne 15, 3) := by decide +kernel
theorem dL_law_1161 : decode cL_law 1161 = .ok (.aload_n 3, 1) := by decide +kernel
theorem dL_law_1162 : decode cL_law 1162 = .ok (.iconst 0, 1) := by decide +kernel
theorem dL_law_1163 : decode cL_law 1163 = .ok (.laload, 1) := by decide +kernel
theorem dL_law_1164 : decode cL_law 1164 = .ok (.iload 6, 2) := by decide +kernel
theorem dL_law_1166 : decode cL_law 1166 = .ok (.i2l, 1) := by decide +kernel
theorem dL_law_1167 : decode cL_law 1167 = .ok (.lcmp, 1) := by decide +kernel
theorem dL_law_1168 : decode cL_law 1168 = .ok (.ifCond .eq 5, 3) := by decide +kernel
theorem dL_law_1171 : decode cL_law 1171 = .ok (.iconst 0, 1) := by decide +kernel
theorem dL_law_1172 : decode cL_law 1172 = .ok (.ireturn, 1) := by decide +kernel
theorem dL_law_1173 : decode cL_law 1173 = .ok (.goto 418, 3) := by decide +kernel
theorem dL_law_1176 : decode cL_law 1176 = .ok (.aload_n 1, 1) := by decide +kernel
theorem dL_law_1177 : decode cL_law 1177 = .ok (.aload_n 0, 1) := by decide +kernel
theorem dL_law_1178 : decode cL_law 1178 = .ok (.iload 4, 2) := by decide +kernel
theorem dL_law_1180 : decode cL_law 1180 = .ok (.iconst 1, 1) := by decide +kernel
theorem dL_law_1181 : decode cL_law 1181 = .ok (.iadd, 1) := by decide +kernel
theorem dL_law_1182 : decode cL_law 1182 = .ok (.iaload, 1) := by decide +kernel
theorem dL_law_1183 : decode cL_law 1183 = .ok (.aload_n 0, 1) := by decide +kernel
theorem dL_law_1184 : decode cL_law 1184 = .ok (.iload 4, 2) := by decide +kernel
theorem dL_law_1186 : decode cL_law 1186 = .ok (.iconst 2, 1) := by decide +kernel
theorem dL_law_1187 : decode cL_law 1187 = .ok (.iadd, 1) := by decide +kernel
theorem dL_law_1188 : decode cL_law 1188 = .ok (.iaload, 1) := by decide +kernel
theorem dL_law_1189 : decode cL_law 1189 = .ok (.aload_n 3, 1) := by decide +kernel
theorem dL_law_1190 : decode cL_law 1190 = .ok (.invokestatic 151, 3) := by decide +kernel
theorem dL_law_1193 : decode cL_law 1193 = .ok (.istore 5, 2) := by decide +kernel
theorem dL_law_1195 : decode cL_law 1195 = .ok (.aload_n 2, 1) := by decide +kernel
theorem dL_law_1196 : decode cL_law 1196 = .ok (.aload_n 0, 1) := by decide +kernel
theorem dL_law_1197 : decode cL_law 1197 = .ok (.iload 4, 2) := by decide +kernel
theorem dL_law_1199 : decode cL_law 1199 = .ok (.iconst 1, 1) := by decide +kernel
theorem dL_law_1200 : decode cL_law 1200 = .ok (.iadd, 1) := by decide +kernel
theorem dL_law_1201 : decode cL_law 1201 = .ok (.iaload, 1) := by decide +kernel
theorem dL_law_1202 : decode cL_law 1202 = .ok (.aload_n 0, 1) := by decide +kernel
theorem dL_law_1203 : decode cL_law 1203 = .ok (.iload 4, 2) := by decide +kernel
theorem dL_law_1205 : decode cL_law 1205 = .ok (.iconst 2, 1) := by decide +kernel
theorem dL_law_1206 : decode cL_law 1206 = .ok (.iadd, 1) := by decide +kernel
theorem dL_law_1207 : decode cL_law 1207 = .ok (.iaload, 1) := by decide +kernel
theorem dL_law_1208 : decode cL_law 1208 = .ok (.invokevirtual 153, 3) := by decide +kernel
theorem dL_law_1211 : decode cL_law 1211 = .ok (.istore 6, 2) := by decide +kernel
theorem dL_law_1213 : decode cL_law 1213 = .ok (.aload_n 2, 1) := by decide +kernel
theorem dL_law_1214 : decode cL_law 1214 = .ok (.invokevirtual 92, 3) := by decide +kernel
theorem dL_law_1217 : decode cL_law 1217 = .ok (.iload 5, 2) := by decide +kernel
theorem dL_law_1219 : decode cL_law 1219 = .ok (.if_icmp .eq 5, 3) := by decide +kernel
theorem dL_law_1222 : decode cL_law 1222 = .ok (.iconst 0, 1) := by decide +kernel
theorem dL_law_1223 : decode cL_law 1223 = .ok (.ireturn, 1) := by decide +kernel
theorem dL_law_1224 : decode cL_law 1224 = .ok (.iload 5, 2) := by decide +kernel
theorem dL_law_1226 : decode cL_law 1226 = .ok (.ifCond .ne 15, 3) := by decide +kernel
theorem dL_law_1229 : decode cL_law 1229 = .ok (.aload_n 3, 1) := by decide +kernel
theorem dL_law_1230 : decode cL_law 1230 = .ok (.iconst 0, 1) := by decide +kernel
theorem dL_law_1231 : decode cL_law 1231 = .ok (.laload, 1) := by decide +kernel
theorem dL_law_1232 : decode cL_law 1232 = .ok (.iload 6, 2) := by decide +kernel
theorem dL_law_1234 : decode cL_law 1234 = .ok (.i2l, 1) := by decide +kernel
theorem dL_law_1235 : decode cL_law 1235 = .ok (.lcmp, 1) := by decide +kernel
theorem dL_law_1236 : decode cL_law 1236 = .ok (.ifCond .eq 5, 3) := by decide +kernel
theorem dL_law_1239 : decode cL_law 1239 = .ok (.iconst 0, 1) := by decide +kernel
theorem dL_law_1240 : decode cL_law 1240 = .ok (.ireturn, 1) := by decide +kernel
theorem dL_law_1241 : decode cL_law 1241 = .ok (.goto 350, 3) := by decide +kernel
theorem dL_law_1244 : decode cL_law 1244 = .ok (.aload_n 1, 1) := by decide +kernel
theorem dL_law_1245 : decode cL_law 1245 = .ok (.aload_n 0, 1) := by decide +kernel
theorem dL_law_1246 : decode cL_law 1246 = .ok (.iload 4, 2) := by decide +kernel
theorem dL_law_1248 : decode cL_law 1248 = .ok (.iconst 1, 1) := by decide +kernel
theorem dL_law_1249 : decode cL_law 1249 = .ok (.iadd, 1) := by decide +kernel
theorem dL_law_1250 : decode cL_law 1250 = .ok (.iaload, 1) := by decide +kernel
theorem dL_law_1251 : decode cL_law 1251 = .ok (.aload_n 0, 1) := by decide +kernel
theorem dL_law_1252 : decode cL_law 1252 = .ok (.iload 4, 2) := by decide +kernel
theorem dL_law_1254 : decode cL_law 1254 = .ok (.iconst 2, 1) := by decide +kernel
theorem dL_law_1255 : decode cL_law 1255 = .ok (.iadd, 1) := by decide +kernel
theorem dL_law_1256 : decode cL_law 1256 = .ok (.iaload, 1) := by decide +kernel
theorem dL_law_1257 : decode cL_law 1257 = .ok (.aload_n 0, 1) := by decide +kernel
theorem dL_law_1258 : decode cL_law 1258 = .ok (.iload 4, 2) := by decide +kernel
theorem dL_law_1260 : decode cL_law 1260 = .ok (.iconst 3, 1) := by decide +kernel
theorem dL_law_1261 : decode cL_law 1261 = .ok (.iadd, 1) := by decide +kernel
theorem dL_law_1262 : decode cL_law 1262 = .ok (.iaload, 1) := by decide +kernel
theorem dL_law_1263 : decode cL_law 1263 = .ok (.aload_n 3, 1) := by decide +kernel
theorem dL_law_1264 : decode cL_law 1264 = .ok (.invokestatic 154, 3) := by decide +kernel
theorem dL_law_1267 : decode cL_law 1267 = .ok (.istore 5, 2) := by decide +kernel
theorem dL_law_1269 : decode cL_law 1269 = .ok (.aload_n 2, 1) := by decide +kernel
theorem dL_law_1270 : decode cL_law 1270 = .ok (.aload_n 0, 1) := by decide +kernel
theorem dL_law_1271 : decode cL_law 1271 = .ok (.iload 4, 2) := by decide +kernel
theorem dL_law_1273 : decode cL_law 1273 = .ok (.iconst 1, 1) := by decide +kernel
theorem dL_law_1274 : decode cL_law 1274 = .ok (.iadd, 1) := by decide +kernel
theorem dL_law_1275 : decode cL_law 1275 = .ok (.iaload, 1) := by decide +kernel
theorem dL_law_1276 : decode cL_law 1276 = .ok (.aload_n 0, 1) := by decide +kernel
theorem dL_law_1277 : decode cL_law 1277 = .ok (.iload 4, 2) := by decide +kernel
theorem dL_law_1279 : decode cL_law 1279 = .ok (.iconst 2, 1) := by decide +kernel
theorem dL_law_1280 : decode cL_law 1280 = .ok (.iadd, 1) := by decide +kernel
theorem dL_law_1281 : decode cL_law 1281 = .ok (.iaload, 1) := by decide +kernel
theorem dL_law_1282 : decode cL_law 1282 = .ok (.aload_n 0, 1) := by decide +kernel
theorem dL_law_1283 : decode cL_law 1283 = .ok (.iload 4, 2) := by decide +kernel
theorem dL_law_1285 : decode cL_law 1285 = .ok (.iconst 3, 1) := by decide +kernel
theorem dL_law_1286 : decode cL_law 1286 = .ok (.iadd, 1) := by decide +kernel
theorem dL_law_1287 : decode cL_law 1287 = .ok (.iaload, 1) := by decide +kernel
theorem dL_law_1288 : decode cL_law 1288 = .ok (.invokevirtual 156, 3) := by decide +kernel
theorem dL_law_1291 : decode cL_law 1291 = .ok (.istore 6, 2) := by decide +kernel
theorem dL_law_1293 : decode cL_law 1293 = .ok (.aload_n 2, 1) := by decide +kernel
theorem dL_law_1294 : decode cL_law 1294 = .ok (.invokevirtual 92, 3) := by decide +kernel
theorem dL_law_1297 : decode cL_law 1297 = .ok (.iload 5, 2) := by decide +kernel
theorem dL_law_1299 : decode cL_law 1299 = .ok (.if_icmp .eq 5, 3) := by decide +kernel
theorem dL_law_1302 : decode cL_law 1302 = .ok (.iconst 0, 1) := by decide +kernel
theorem dL_law_1303 : decode cL_law 1303 = .ok (.ireturn, 1) := by decide +kernel
theorem dL_law_1304 : decode cL_law 1304 = .ok (.iload 5, 2) := by decide +kernel
theorem dL_law_1306 : decode cL_law 1306 = .ok (.ifCond .ne 15, 3) := by decide +kernel
theorem dL_law_1309 : decode cL_law 1309 = .ok (.aload_n 3, 1) := by decide +kernel
theorem dL_law_1310 : decode cL_law 1310 = .ok (.iconst 0, 1) := by decide +kernel
theorem dL_law_1311 : decode cL_law 1311 = .ok (.laload, 1) := by decide +kernel
theorem dL_law_1312 : decode cL_law 1312 = .ok (.iload 6, 2) := by decide +kernel
theorem dL_law_1314 : decode cL_law 1314 = .ok (.i2l, 1) := by decide +kernel
theorem dL_law_1315 : decode cL_law 1315 = .ok (.lcmp, 1) := by decide +kernel
theorem dL_law_1316 : decode cL_law 1316 = .ok (.ifCond .eq 5, 3) := by decide +kernel
theorem dL_law_1319 : decode cL_law 1319 = .ok (.iconst 0, 1) := by decide +kernel
theorem dL_law_1320 : decode cL_law 1320 = .ok (.ireturn, 1) := by decide +kernel
theorem dL_law_1321 : decode cL_law 1321 = .ok (.goto 270, 3) := by decide +kernel
theorem dL_law_1324 : decode cL_law 1324 = .ok (.aload_n 1, 1) := by decide +kernel
theorem dL_law_1325 : decode cL_law 1325 = .ok (.aload_n 0, 1) := by decide +kernel
theorem dL_law_1326 : decode cL_law 1326 = .ok (.iload 4, 2) := by decide +kernel
theorem dL_law_1328 : decode cL_law 1328 = .ok (.iconst 1, 1) := by decide +kernel
theorem dL_law_1329 : decode cL_law 1329 = .ok (.iadd, 1) := by decide +kernel
theorem dL_law_1330 : decode cL_law 1330 = .ok (.iaload, 1) := by decide +kernel
theorem dL_law_1331 : decode cL_law 1331 = .ok (.aload_n 0, 1) := by decide +kernel
theorem dL_law_1332 : decode cL_law 1332 = .ok (.iload 4, 2) := by decide +kernel
theorem dL_law_1334 : decode cL_law 1334 = .ok (.iconst 2, 1) := by decide +kernel
theorem dL_law_1335 : decode cL_law 1335 = .ok (.iadd, 1) := by decide +kernel
theorem dL_law_1336 : decode cL_law 1336 = .ok (.iaload, 1) := by decide +kernel
theorem dL_law_1337 : decode cL_law 1337 = .ok (.ifCond .eq 7, 3) := by decide +kernel
theorem dL_law_1340 : decode cL_law 1340 = .ok (.iconst 1, 1) := by decide +kernel
theorem dL_law_1341 : decode cL_law 1341 = .ok (.goto 4, 3) := by decide +kernel
theorem dL_law_1344 : decode cL_law 1344 = .ok (.iconst 0, 1) := by decide +kernel
theorem dL_law_1345 : decode cL_law 1345 = .ok (.aload_n 3, 1) := by decide +kernel
theorem dL_law_1346 : decode cL_law 1346 = .ok (.invokestatic 157, 3) := by decide +kernel
theorem dL_law_1349 : decode cL_law 1349 = .ok (.istore 5, 2) := by decide +kernel
theorem dL_law_1351 : decode cL_law 1351 = .ok (.aload_n 2, 1) := by decide +kernel
theorem dL_law_1352 : decode cL_law 1352 = .ok (.aload_n 0, 1) := by decide +kernel
theorem dL_law_1353 : decode cL_law 1353 = .ok (.iload 4, 2) := by decide +kernel
theorem dL_law_1355 : decode cL_law 1355 = .ok (.iconst 1, 1) := by decide +kernel
theorem dL_law_1356 : decode cL_law 1356 = .ok (.iadd, 1) := by decide +kernel
theorem dL_law_1357 : decode cL_law 1357 = .ok (.iaload, 1) := by decide +kernel
theorem dL_law_1358 : decode cL_law 1358 = .ok (.aload_n 0, 1) := by decide +kernel
theorem dL_law_1359 : decode cL_law 1359 = .ok (.iload 4, 2) := by decide +kernel
theorem dL_law_1361 : decode cL_law 1361 = .ok (.iconst 2, 1) := by decide +kernel
theorem dL_law_1362 : decode cL_law 1362 = .ok (.iadd, 1) := by decide +kernel
theorem dL_law_1363 : decode cL_law 1363 = .ok (.iaload, 1) := by decide +kernel
theorem dL_law_1364 : decode cL_law 1364 = .ok (.ifCond .eq 7, 3) := by decide +kernel
theorem dL_law_1367 : decode cL_law 1367 = .ok (.iconst 1, 1) := by decide +kernel
theorem dL_law_1368 : decode cL_law 1368 = .ok (.goto 4, 3) := by decide +kernel
theorem dL_law_1371 : decode cL_law 1371 = .ok (.iconst 0, 1) := by decide +kernel
theorem dL_law_1372 : decode cL_law 1372 = .ok (.invokevirtual 160, 3) := by decide +kernel
theorem dL_law_1375 : decode cL_law 1375 = .ok (.istore 6, 2) := by decide +kernel
theorem dL_law_1377 : decode cL_law 1377 = .ok (.aload_n 2, 1) := by decide +kernel
theorem dL_law_1378 : decode cL_law 1378 = .ok (.invokevirtual 92, 3) := by decide +kernel
theorem dL_law_1381 : decode cL_law 1381 = .ok (.iload 5, 2) := by decide +kernel
theorem dL_law_1383 : decode cL_law 1383 = .ok (.if_icmp .eq 5, 3) := by decide +kernel
theorem dL_law_1386 : decode cL_law 1386 = .ok (.iconst 0, 1) := by decide +kernel
theorem dL_law_1387 : decode cL_law 1387 = .ok (.ireturn, 1) := by decide +kernel
theorem dL_law_1388 : decode cL_law 1388 = .ok (.iload 5, 2) := by decide +kernel
theorem dL_law_1390 : decode cL_law 1390 = .ok (.ifCond .ne 22, 3) := by decide +kernel
theorem dL_law_1393 : decode cL_law 1393 = .ok (.aload_n 3, 1) := by decide +kernel
theorem dL_law_1394 : decode cL_law 1394 = .ok (.iconst 0, 1) := by decide +kernel
theorem dL_law_1395 : decode cL_law 1395 = .ok (.laload, 1) := by decide +kernel
theorem dL_law_1396 : decode cL_law 1396 = .ok (.iload 6, 2) := by decide +kernel
theorem dL_law_1398 : decode cL_law 1398 = .ok (.ifCond .eq 7, 3) := by decide +kernel
theorem dL_law_1401 : decode cL_law 1401 = .ok (.lconst 1, 1) := by decide +kernel
theorem dL_law_1402 : decode cL_law 1402 = .ok (.goto 4, 3) := by decide +kernel
theorem dL_law_1405 : decode cL_law 1405 = .ok (.lconst 0, 1) := by decide +kernel
theorem dL_law_1406 : decode cL_law 1406 = .ok (.lcmp, 1) := by decide +kernel
theorem dL_law_1407 : decode cL_law 1407 = .ok (.ifCond .eq 5, 3) := by decide +kernel
theorem dL_law_1410 : decode cL_law 1410 = .ok (.iconst 0, 1) := by decide +kernel
theorem dL_law_1411 : decode cL_law 1411 = .ok (.ireturn, 1) := by decide +kernel
theorem dL_law_1412 : decode cL_law 1412 = .ok (.goto 179, 3) := by decide +kernel
theorem dL_law_1415 : decode cL_law 1415 = .ok (.aload_n 1, 1) := by decide +kernel
theorem dL_law_1416 : decode cL_law 1416 = .ok (.aload_n 0, 1) := by decide +kernel
theorem dL_law_1417 : decode cL_law 1417 = .ok (.iload 4, 2) := by decide +kernel
theorem dL_law_1419 : decode cL_law 1419 = .ok (.iconst 1, 1) := by decide +kernel
theorem dL_law_1420 : decode cL_law 1420 = .ok (.iadd, 1) := by decide +kernel
theorem dL_law_1421 : decode cL_law 1421 = .ok (.iaload, 1) := by decide +kernel
theorem dL_law_1422 : decode cL_law 1422 = .ok (.aload_n 0, 1) := by decide +kernel
theorem dL_law_1423 : decode cL_law 1423 = .ok (.iload 4, 2) := by decide +kernel
theorem dL_law_1425 : decode cL_law 1425 = .ok (.iconst 2, 1) := by decide +kernel
theorem dL_law_1426 : decode cL_law 1426 = .ok (.iadd, 1) := by decide +kernel
theorem dL_law_1427 : decode cL_law 1427 = .ok (.iaload, 1) := by decide +kernel
theorem dL_law_1428 : decode cL_law 1428 = .ok (.aload_n 0, 1) := by decide +kernel
theorem dL_law_1429 : decode cL_law 1429 = .ok (.iload 4, 2) := by decide +kernel
theorem dL_law_1431 : decode cL_law 1431 = .ok (.iconst 3, 1) := by decide +kernel
theorem dL_law_1432 : decode cL_law 1432 = .ok (.iadd, 1) := by decide +kernel
theorem dL_law_1433 : decode cL_law 1433 = .ok (.iaload, 1) := by decide +kernel
theorem dL_law_1434 : decode cL_law 1434 = .ok (.aload_n 3, 1) := by decide +kernel
theorem dL_law_1435 : decode cL_law 1435 = .ok (.invokestatic 161, 3) := by decide +kernel
theorem dL_law_1438 : decode cL_law 1438 = .ok (.istore 5, 2) := by decide +kernel
theorem dL_law_1440 : decode cL_law 1440 = .ok (.aload_n 2, 1) := by decide +kernel
theorem dL_law_1441 : decode cL_law 1441 = .ok (.aload_n 0, 1) := by decide +kernel
theorem dL_law_1442 : decode cL_law 1442 = .ok (.iload 4, 2) := by decide +kernel
theorem dL_law_1444 : decode cL_law 1444 = .ok (.iconst 1, 1) := by decide +kernel
theorem dL_law_1445 : decode cL_law 1445 = .ok (.iadd, 1) := by decide +kernel
theorem dL_law_1446 : decode cL_law 1446 = .ok (.iaload, 1) := by decide +kernel
theorem dL_law_1447 : decode cL_law 1447 = .ok (.aload_n 0, 1) := by decide +kernel
theorem dL_law_1448 : decode cL_law 1448 = .ok (.iload 4, 2) := by decide +kernel
theorem dL_law_1450 : decode cL_law 1450 = .ok (.iconst 2, 1) := by decide +kernel
theorem dL_law_1451 : decode cL_law 1451 = .ok (.iadd, 1) := by decide +kernel
theorem dL_law_1452 : decode cL_law 1452 = .ok (.iaload, 1) := by decide +kernel
theorem dL_law_1453 : decode cL_law 1453 = .ok (.aload_n 0, 1) := by decide +kernel
theorem dL_law_1454 : decode cL_law 1454 = .ok (.iload 4, 2) := by decide +kernel
theorem dL_law_1456 : decode cL_law 1456 = .ok (.iconst 3, 1) := by decide +kernel
theorem dL_law_1457 : decode cL_law 1457 = .ok (.iadd, 1) := by decide +kernel
theorem dL_law_1458 : decode cL_law 1458 = .ok (.iaload, 1) := by decide +kernel
theorem dL_law_1459 : decode cL_law 1459 = .ok (.invokevirtual 163, 3) := by decide +kernel
theorem dL_law_1462 : decode cL_law 1462 = .ok (.istore 6, 2) := by decide +kernel
theorem dL_law_1464 : decode cL_law 1464 = .ok (.aload_n 2, 1) := by decide +kernel
theorem dL_law_1465 : decode cL_law 1465 = .ok (.invokevirtual 92, 3) := by decide +kernel
theorem dL_law_1468 : decode cL_law 1468 = .ok (.iload 5, 2) := by decide +kernel
theorem dL_law_1470 : decode cL_law 1470 = .ok (.if_icmp .eq 5, 3) := by decide +kernel
theorem dL_law_1473 : decode cL_law 1473 = .ok (.iconst 0, 1) := by decide +kernel
theorem dL_law_1474 : decode cL_law 1474 = .ok (.ireturn, 1) := by decide +kernel
theorem dL_law_1475 : decode cL_law 1475 = .ok (.iload 5, 2) := by decide +kernel
theorem dL_law_1477 : decode cL_law 1477 = .ok (.ifCond .ne 15, 3) := by decide +kernel
theorem dL_law_1480 : decode cL_law 1480 = .ok (.aload_n 3, 1) := by decide +kernel
theorem dL_law_1481 : decode cL_law 1481 = .ok (.iconst 0, 1) := by decide +kernel
theorem dL_law_1482 : decode cL_law 1482 = .ok (.laload, 1) := by decide +kernel
theorem dL_law_1483 : decode cL_law 1483 = .ok (.iload 6, 2) := by decide +kernel
theorem dL_law_1485 : decode cL_law 1485 = .ok (.i2l, 1) := by decide +kernel
theorem dL_law_1486 : decode cL_law 1486 = .ok (.lcmp, 1) := by decide +kernel
theorem dL_law_1487 : decode cL_law 1487 = .ok (.ifCond .eq 5, 3) := by decide +kernel
theorem dL_law_1490 : decode cL_law 1490 = .ok (.iconst 0, 1) := by decide +kernel
theorem dL_law_1491 : decode cL_law 1491 = .ok (.ireturn, 1) := by decide +kernel
theorem dL_law_1492 : decode cL_law 1492 = .ok (.goto 99, 3) := by decide +kernel
theorem dL_law_1495 : decode cL_law 1495 = .ok (.aload_n 1, 1) := by decide +kernel
theorem dL_law_1496 : decode cL_law 1496 = .ok (.aload_n 0, 1) := by decide +kernel
theorem dL_law_1497 : decode cL_law 1497 = .ok (.iload 4, 2) := by decide +kernel
theorem dL_law_1499 : decode cL_law 1499 = .ok (.iconst 1, 1) := by decide +kernel
theorem dL_law_1500 : decode cL_law 1500 = .ok (.iadd, 1) := by decide +kernel
theorem dL_law_1501 : decode cL_law 1501 = .ok (.iaload, 1) := by decide +kernel
theorem dL_law_1502 : decode cL_law 1502 = .ok (.aload_n 3, 1) := by decide +kernel
theorem dL_law_1503 : decode cL_law 1503 = .ok (.invokestatic 164, 3) := by decide +kernel
theorem dL_law_1506 : decode cL_law 1506 = .ok (.istore 5, 2) := by decide +kernel
theorem dL_law_1508 : decode cL_law 1508 = .ok (.aload_n 2, 1) := by decide +kernel
theorem dL_law_1509 : decode cL_law 1509 = .ok (.aload_n 0, 1) := by decide +kernel
theorem dL_law_1510 : decode cL_law 1510 = .ok (.iload 4, 2) := by decide +kernel
theorem dL_law_1512 : decode cL_law 1512 = .ok (.iconst 1, 1) := by decide +kernel
theorem dL_law_1513 : decode cL_law 1513 = .ok (.iadd, 1) := by decide +kernel
theorem dL_law_1514 : decode cL_law 1514 = .ok (.iaload, 1) := by decide +kernel
theorem dL_law_1515 : decode cL_law 1515 = .ok (.invokevirtual 166, 3) := by decide +kernel
theorem dL_law_1518 : decode cL_law 1518 = .ok (.istore 6, 2) := by decide +kernel
theorem dL_law_1520 : decode cL_law 1520 = .ok (.aload_n 2, 1) := by decide +kernel
theorem dL_law_1521 : decode cL_law 1521 = .ok (.invokevirtual 92, 3) := by decide +kernel
theorem dL_law_1524 : decode cL_law 1524 = .ok (.iload 5, 2) := by decide +kernel
theorem dL_law_1526 : decode cL_law 1526 = .ok (.if_icmp .eq 5, 3) := by decide +kernel
theorem dL_law_1529 : decode cL_law 1529 = .ok (.iconst 0, 1) := by decide +kernel
theorem dL_law_1530 : decode cL_law 1530 = .ok (.ireturn, 1) := by decide +kernel
theorem dL_law_1531 : decode cL_law 1531 = .ok (.iload 5, 2) := by decide +kernel
theorem dL_law_1533 : decode cL_law 1533 = .ok (.ifCond .ne 15, 3) := by decide +kernel
theorem dL_law_1536 : decode cL_law 1536 = .ok (.aload_n 3, 1) := by decide +kernel
theorem dL_law_1537 : decode cL_law 1537 = .ok (.iconst 0, 1) := by decide +kernel
theorem dL_law_1538 : decode cL_law 1538 = .ok (.laload, 1) := by decide +kernel
theorem dL_law_1539 : decode cL_law 1539 = .ok (.iload 6, 2) := by decide +kernel
theorem dL_law_1541 : decode cL_law 1541 = .ok (.i2l, 1) := by decide +kernel
theorem dL_law_1542 : decode cL_law 1542 = .ok (.lcmp, 1) := by decide +kernel
theorem dL_law_1543 : decode cL_law 1543 = .ok (.ifCond .eq 5, 3) := by decide +kernel
theorem dL_law_1546 : decode cL_law 1546 = .ok (.iconst 0, 1) := by decide +kernel
theorem dL_law_1547 : decode cL_law 1547 = .ok (.ireturn, 1) := by decide +kernel
theorem dL_law_1548 : decode cL_law 1548 = .ok (.goto 43, 3) := by decide +kernel
theorem dL_law_1551 : decode cL_law 1551 = .ok (.aload_n 1, 1) := by decide +kernel
theorem dL_law_1552 : decode cL_law 1552 = .ok (.invokevirtual 167, 3) := by decide +kernel
theorem dL_law_1555 : decode cL_law 1555 = .ok (.aload_n 2, 1) := by decide +kernel
theorem dL_law_1556 : decode cL_law 1556 = .ok (.invokevirtual 170, 3) := by decide +kernel
theorem dL_law_1559 : decode cL_law 1559 = .ok (.if_icmp .eq 32, 3) := by decide +kernel
theorem dL_law_1562 : decode cL_law 1562 = .ok (.iconst 0, 1) := by decide +kernel
theorem dL_law_1563 : decode cL_law 1563 = .ok (.ireturn, 1) := by decide +kernel
theorem dL_law_1564 : decode cL_law 1564 = .ok (.aload_n 1, 1) := by decide +kernel
theorem dL_law_1565 : decode cL_law 1565 = .ok (.invokevirtual 171, 3) := by decide +kernel
theorem dL_law_1568 : decode cL_law 1568 = .ok (.aload_n 2, 1) := by decide +kernel
theorem dL_law_1569 : decode cL_law 1569 = .ok (.invokevirtual 174, 3) := by decide +kernel
theorem dL_law_1572 : decode cL_law 1572 = .ok (.if_icmp .eq 19, 3) := by decide +kernel
theorem dL_law_1575 : decode cL_law 1575 = .ok (.iconst 0, 1) := by decide +kernel
theorem dL_law_1576 : decode cL_law 1576 = .ok (.ireturn, 1) := by decide +kernel
theorem dL_law_1577 : decode cL_law 1577 = .ok (.aload_n 1, 1) := by decide +kernel
theorem dL_law_1578 : decode cL_law 1578 = .ok (.invokevirtual 175, 3) := by decide +kernel
theorem dL_law_1581 : decode cL_law 1581 = .ok (.aload_n 2, 1) := by decide +kernel
theorem dL_law_1582 : decode cL_law 1582 = .ok (.invokevirtual 179, 3) := by decide +kernel
theorem dL_law_1585 : decode cL_law 1585 = .ok (.lcmp, 1) := by decide +kernel
theorem dL_law_1586 : decode cL_law 1586 = .ok (.ifCond .eq 5, 3) := by decide +kernel
theorem dL_law_1589 : decode cL_law 1589 = .ok (.iconst 0, 1) := by decide +kernel
theorem dL_law_1590 : decode cL_law 1590 = .ok (.ireturn, 1) := by decide +kernel
theorem dL_law_1591 : decode cL_law 1591 = .ok (.iinc 4 6, 3) := by decide +kernel
theorem dL_law_1594 : decode cL_law 1594 = .ok (.goto (-1571), 3) := by decide +kernel
theorem dL_law_1597 : decode cL_law 1597 = .ok (.iconst 1, 1) := by decide +kernel
theorem dL_law_1598 : decode cL_law 1598 = .ok (.ireturn, 1) := by decide +kernel
