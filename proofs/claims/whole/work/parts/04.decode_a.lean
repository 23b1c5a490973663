theorem dX0_red_0 : decode cX0_red 0 = .ok (.iload_n 0, 1) := by decide +kernel
theorem dX0_red_1 : decode cX0_red 1 = .ok (.ldc 9, 2) := by decide +kernel
theorem dX0_red_3 : decode cX0_red 3 = .ok (.idiv, 1) := by decide +kernel
theorem dX0_red_4 : decode cX0_red 4 = .ok (.ireturn, 1) := by decide +kernel
theorem dX0_green_0 : decode cX0_green 0 = .ok (.iload_n 0, 1) := by decide +kernel
theorem dX0_green_1 : decode cX0_green 1 = .ok (.sipush 256, 3) := by decide +kernel
theorem dX0_green_4 : decode cX0_green 4 = .ok (.idiv, 1) := by decide +kernel
theorem dX0_green_5 : decode cX0_green 5 = .ok (.sipush 256, 3) := by decide +kernel
theorem dX0_green_8 : decode cX0_green 8 = .ok (.irem, 1) := by decide +kernel
theorem dX0_green_9 : decode cX0_green 9 = .ok (.ireturn, 1) := by decide +kernel
theorem dX0_blue_0 : decode cX0_blue 0 = .ok (.iload_n 0, 1) := by decide +kernel
theorem dX0_blue_1 : decode cX0_blue 1 = .ok (.sipush 256, 3) := by decide +kernel
theorem dX0_blue_4 : decode cX0_blue 4 = .ok (.irem, 1) := by decide +kernel
theorem dX0_blue_5 : decode cX0_blue 5 = .ok (.ireturn, 1) := by decide +kernel
theorem dX0_joined_0 : decode cX0_joined 0 = .ok (.ldc 9, 2) := by decide +kernel
theorem dX0_joined_2 : decode cX0_joined 2 = .ok (.iload_n 0, 1) := by decide +kernel
theorem dX0_joined_3 : decode cX0_joined 3 = .ok (.imul, 1) := by decide +kernel
theorem dX0_joined_4 : decode cX0_joined 4 = .ok (.sipush 256, 3) := by decide +kernel
theorem dX0_joined_7 : decode cX0_joined 7 = .ok (.iload_n 1, 1) := by decide +kernel
theorem dX0_joined_8 : decode cX0_joined 8 = .ok (.imul, 1) := by decide +kernel
theorem dX0_joined_9 : decode cX0_joined 9 = .ok (.iadd, 1) := by decide +kernel
theorem dX0_joined_10 : decode cX0_joined 10 = .ok (.iload_n 2, 1) := by decide +kernel
theorem dX0_joined_11 : decode cX0_joined 11 = .ok (.iadd, 1) := by decide +kernel
theorem dX0_joined_12 : decode cX0_joined 12 = .ok (.ireturn, 1) := by decide +kernel
theorem dX0_luminanceOf_0 : decode cX0_luminanceOf 0 = .ok (.iload_n 0, 1) := by decide +kernel
theorem dX0_luminanceOf_1 : decode cX0_luminanceOf 1 = .ok (.invokestatic 10, 3) := by decide +kernel
theorem dX0_luminanceOf_4 : decode cX0_luminanceOf 4 = .ok (.istore_n 1, 1) := by decide +kernel
theorem dX0_luminanceOf_5 : decode cX0_luminanceOf 5 = .ok (.iload_n 0, 1) := by decide +kernel
theorem dX0_luminanceOf_6 : decode cX0_luminanceOf 6 = .ok (.invokestatic 16, 3) := by decide +kernel
theorem dX0_luminanceOf_9 : decode cX0_luminanceOf 9 = .ok (.istore_n 2, 1) := by decide +kernel
theorem dX0_luminanceOf_10 : decode cX0_luminanceOf 10 = .ok (.iload_n 0, 1) := by decide +kernel
theorem dX0_luminanceOf_11 : decode cX0_luminanceOf 11 = .ok (.invokestatic 19, 3) := by decide +kernel
theorem dX0_luminanceOf_14 : decode cX0_luminanceOf 14 = .ok (.istore_n 3, 1) := by decide +kernel
theorem dX0_luminanceOf_15 : decode cX0_luminanceOf 15 = .ok (.sipush 2126, 3) := by decide +kernel
theorem dX0_luminanceOf_18 : decode cX0_luminanceOf 18 = .ok (.iload_n 1, 1) := by decide +kernel
theorem dX0_luminanceOf_19 : decode cX0_luminanceOf 19 = .ok (.imul, 1) := by decide +kernel
theorem dX0_luminanceOf_20 : decode cX0_luminanceOf 20 = .ok (.iload_n 1, 1) := by decide +kernel
theorem dX0_luminanceOf_21 : decode cX0_luminanceOf 21 = .ok (.imul, 1) := by decide +kernel
theorem dX0_luminanceOf_22 : decode cX0_luminanceOf 22 = .ok (.sipush 7152, 3) := by decide +kernel
theorem dX0_luminanceOf_25 : decode cX0_luminanceOf 25 = .ok (.iload_n 2, 1) := by decide +kernel
theorem dX0_luminanceOf_26 : decode cX0_luminanceOf 26 = .ok (.imul, 1) := by decide +kernel
theorem dX0_luminanceOf_27 : decode cX0_luminanceOf 27 = .ok (.iload_n 2, 1) := by decide +kernel
theorem dX0_luminanceOf_28 : decode cX0_luminanceOf 28 = .ok (.imul, 1) := by decide +kernel
theorem dX0_luminanceOf_29 : decode cX0_luminanceOf 29 = .ok (.iadd, 1) := by decide +kernel
theorem dX0_luminanceOf_30 : decode cX0_luminanceOf 30 = .ok (.sipush 722, 3) := by decide +kernel
theorem dX0_luminanceOf_33 : decode cX0_luminanceOf 33 = .ok (.iload_n 3, 1) := by decide +kernel
theorem dX0_luminanceOf_34 : decode cX0_luminanceOf 34 = .ok (.imul, 1) := by decide +kernel
theorem dX0_luminanceOf_35 : decode cX0_luminanceOf 35 = .ok (.iload_n 3, 1) := by decide +kernel
theorem dX0_luminanceOf_36 : decode cX0_luminanceOf 36 = .ok (.imul, 1) := by decide +kernel
theorem dX0_luminanceOf_37 : decode cX0_luminanceOf 37 = .ok (.iadd, 1) := by decide +kernel
theorem dX0_luminanceOf_38 : decode cX0_luminanceOf 38 = .ok (.sipush 10000, 3) := by decide +kernel
theorem dX0_luminanceOf_41 : decode cX0_luminanceOf 41 = .ok (.idiv, 1) := by decide +kernel
theorem dX0_luminanceOf_42 : decode cX0_luminanceOf 42 = .ok (.ireturn, 1) := by decide +kernel
theorem dX0_contrastOf_0 : decode cX0_contrastOf 0 = .ok (.iload_n 0, 1) := by decide +kernel
theorem dX0_contrastOf_1 : decode cX0_contrastOf 1 = .ok (.invokestatic 22, 3) := by decide +kernel
theorem dX0_contrastOf_4 : decode cX0_contrastOf 4 = .ok (.sipush 3251, 3) := by decide +kernel
theorem dX0_contrastOf_7 : decode cX0_contrastOf 7 = .ok (.iadd, 1) := by decide +kernel
theorem dX0_contrastOf_8 : decode cX0_contrastOf 8 = .ok (.istore_n 2, 1) := by decide +kernel
theorem dX0_contrastOf_9 : decode cX0_contrastOf 9 = .ok (.iload_n 1, 1) := by decide +kernel
theorem dX0_contrastOf_10 : decode cX0_contrastOf 10 = .ok (.invokestatic 22, 3) := by decide +kernel
theorem dX0_contrastOf_13 : decode cX0_contrastOf 13 = .ok (.sipush 3251, 3) := by decide +kernel
theorem dX0_contrastOf_16 : decode cX0_contrastOf 16 = .ok (.iadd, 1) := by decide +kernel
theorem dX0_contrastOf_17 : decode cX0_contrastOf 17 = .ok (.istore_n 3, 1) := by decide +kernel
theorem dX0_contrastOf_18 : decode cX0_contrastOf 18 = .ok (.iload_n 2, 1) := by decide +kernel
theorem dX0_contrastOf_19 : decode cX0_contrastOf 19 = .ok (.iload_n 3, 1) := by decide +kernel
theorem dX0_contrastOf_20 : decode cX0_contrastOf 20 = .ok (.invokestatic 25, 3) := by decide +kernel
theorem dX0_contrastOf_23 : decode cX0_contrastOf 23 = .ok (.istore 4, 2) := by decide +kernel
theorem dX0_contrastOf_25 : decode cX0_contrastOf 25 = .ok (.iload 4, 2) := by decide +kernel
theorem dX0_contrastOf_27 : decode cX0_contrastOf 27 = .ok (.ifCond .gt 7, 3) := by decide +kernel
theorem dX0_contrastOf_30 : decode cX0_contrastOf 30 = .ok (.iconst 0, 1) := by decide +kernel
theorem dX0_contrastOf_31 : decode cX0_contrastOf 31 = .ok (.goto 14, 3) := by decide +kernel
theorem dX0_contrastOf_34 : decode cX0_contrastOf 34 = .ok (.bipush 100, 2) := by decide +kernel
theorem dX0_contrastOf_36 : decode cX0_contrastOf 36 = .ok (.iload_n 2, 1) := by decide +kernel
theorem dX0_contrastOf_37 : decode cX0_contrastOf 37 = .ok (.iload_n 3, 1) := by decide +kernel
theorem dX0_contrastOf_38 : decode cX0_contrastOf 38 = .ok (.invokestatic 31, 3) := by decide +kernel
theorem dX0_contrastOf_41 : decode cX0_contrastOf 41 = .ok (.imul, 1) := by decide +kernel
theorem dX0_contrastOf_42 : decode cX0_contrastOf 42 = .ok (.iload 4, 2) := by decide +kernel
theorem dX0_contrastOf_44 : decode cX0_contrastOf 44 = .ok (.idiv, 1) := by decide +kernel
theorem dX0_contrastOf_45 : decode cX0_contrastOf 45 = .ok (.ireturn, 1) := by decide +kernel
theorem dX0_seenWith_0 : decode cX0_seenWith 0 = .ok (.bipush 9, 2) := by decide +kernel
theorem dX0_seenWith_2 : decode cX0_seenWith 2 = .ok (.iload_n 1, 1) := by decide +kernel
theorem dX0_seenWith_3 : decode cX0_seenWith 3 = .ok (.imul, 1) := by decide +kernel
theorem dX0_seenWith_4 : decode cX0_seenWith 4 = .ok (.istore_n 2, 1) := by decide +kernel
theorem dX0_seenWith_5 : decode cX0_seenWith 5 = .ok (.iload_n 0, 1) := by decide +kernel
theorem dX0_seenWith_6 : decode cX0_seenWith 6 = .ok (.iload_n 2, 1) := by decide +kernel
theorem dX0_seenWith_7 : decode cX0_seenWith 7 = .ok (.invokestatic 34, 3) := by decide +kernel
theorem dX0_seenWith_10 : decode cX0_seenWith 10 = .ok (.iload_n 0, 1) := by decide +kernel
theorem dX0_seenWith_11 : decode cX0_seenWith 11 = .ok (.iload_n 2, 1) := by decide +kernel
theorem dX0_seenWith_12 : decode cX0_seenWith 12 = .ok (.iconst 3, 1) := by decide +kernel
theorem dX0_seenWith_13 : decode cX0_seenWith 13 = .ok (.iadd, 1) := by decide +kernel
theorem dX0_seenWith_14 : decode cX0_seenWith 14 = .ok (.invokestatic 34, 3) := by decide +kernel
theorem dX0_seenWith_17 : decode cX0_seenWith 17 = .ok (.iload_n 0, 1) := by decide +kernel
theorem dX0_seenWith_18 : decode cX0_seenWith 18 = .ok (.iload_n 2, 1) := by decide +kernel
theorem dX0_seenWith_19 : decode cX0_seenWith 19 = .ok (.bipush 6, 2) := by decide +kernel
theorem dX0_seenWith_21 : decode cX0_seenWith 21 = .ok (.iadd, 1) := by decide +kernel
theorem dX0_seenWith_22 : decode cX0_seenWith 22 = .ok (.invokestatic 34, 3) := by decide +kernel
theorem dX0_seenWith_25 : decode cX0_seenWith 25 = .ok (.invokestatic 37, 3) := by decide +kernel
theorem dX0_seenWith_28 : decode cX0_seenWith 28 = .ok (.ireturn, 1) := by decide +kernel
theorem dX0_seenChannel_0 : decode cX0_seenChannel 0 = .ok (.getstatic 41, 3) := by decide +kernel
theorem dX0_seenChannel_3 : decode cX0_seenChannel 3 = .ok (.iload_n 1, 1) := by decide +kernel
theorem dX0_seenChannel_4 : decode cX0_seenChannel 4 = .ok (.iaload, 1) := by decide +kernel
theorem dX0_seenChannel_5 : decode cX0_seenChannel 5 = .ok (.iload_n 0, 1) := by decide +kernel
theorem dX0_seenChannel_6 : decode cX0_seenChannel 6 = .ok (.invokestatic 10, 3) := by decide +kernel
theorem dX0_seenChannel_9 : decode cX0_seenChannel 9 = .ok (.imul, 1) := by decide +kernel
theorem dX0_seenChannel_10 : decode cX0_seenChannel 10 = .ok (.getstatic 41, 3) := by decide +kernel
theorem dX0_seenChannel_13 : decode cX0_seenChannel 13 = .ok (.iload_n 1, 1) := by decide +kernel
theorem dX0_seenChannel_14 : decode cX0_seenChannel 14 = .ok (.iconst 1, 1) := by decide +kernel
theorem dX0_seenChannel_15 : decode cX0_seenChannel 15 = .ok (.iadd, 1) := by decide +kernel
theorem dX0_seenChannel_16 : decode cX0_seenChannel 16 = .ok (.iaload, 1) := by decide +kernel
theorem dX0_seenChannel_17 : decode cX0_seenChannel 17 = .ok (.iload_n 0, 1) := by decide +kernel
theorem dX0_seenChannel_18 : decode cX0_seenChannel 18 = .ok (.invokestatic 16, 3) := by decide +kernel
theorem dX0_seenChannel_21 : decode cX0_seenChannel 21 = .ok (.imul, 1) := by decide +kernel
theorem dX0_seenChannel_22 : decode cX0_seenChannel 22 = .ok (.iadd, 1) := by decide +kernel
theorem dX0_seenChannel_23 : decode cX0_seenChannel 23 = .ok (.getstatic 41, 3) := by decide +kernel
theorem dX0_seenChannel_26 : decode cX0_seenChannel 26 = .ok (.iload_n 1, 1) := by decide +kernel
theorem dX0_seenChannel_27 : decode cX0_seenChannel 27 = .ok (.iconst 2, 1) := by decide +kernel
theorem dX0_seenChannel_28 : decode cX0_seenChannel 28 = .ok (.iadd, 1) := by decide +kernel
theorem dX0_seenChannel_29 : decode cX0_seenChannel 29 = .ok (.iaload, 1) := by decide +kernel
theorem dX0_seenChannel_30 : decode cX0_seenChannel 30 = .ok (.iload_n 0, 1) := by decide +kernel
theorem dX0_seenChannel_31 : decode cX0_seenChannel 31 = .ok (.invokestatic 19, 3) := by decide +kernel
theorem dX0_seenChannel_34 : decode cX0_seenChannel 34 = .ok (.imul, 1) := by decide +kernel
theorem dX0_seenChannel_35 : decode cX0_seenChannel 35 = .ok (.iadd, 1) := by decide +kernel
theorem dX0_seenChannel_36 : decode cX0_seenChannel 36 = .ok (.istore_n 2, 1) := by decide +kernel
theorem dX0_seenChannel_37 : decode cX0_seenChannel 37 = .ok (.iload_n 2, 1) := by decide +kernel
theorem dX0_seenChannel_38 : decode cX0_seenChannel 38 = .ok (.sipush 1000, 3) := by decide +kernel
theorem dX0_seenChannel_41 : decode cX0_seenChannel 41 = .ok (.idiv, 1) := by decide +kernel
theorem dX0_seenChannel_42 : decode cX0_seenChannel 42 = .ok (.iconst 0, 1) := by decide +kernel
theorem dX0_seenChannel_43 : decode cX0_seenChannel 43 = .ok (.sipush 255, 3) := by decide +kernel
theorem dX0_seenChannel_46 : decode cX0_seenChannel 46 = .ok (.invokestatic 45, 3) := by decide +kernel
theorem dX0_seenChannel_49 : decode cX0_seenChannel 49 = .ok (.ireturn, 1) := by decide +kernel
theorem dX0_differenceOf_0 : decode cX0_differenceOf 0 = .ok (.bipush 9, 2) := by decide +kernel
theorem dX0_differenceOf_2 : decode cX0_differenceOf 2 = .ok (.iload_n 2, 1) := by decide +kernel
theorem dX0_differenceOf_3 : decode cX0_differenceOf 3 = .ok (.imul, 1) := by decide +kernel
theorem dX0_differenceOf_4 : decode cX0_differenceOf 4 = .ok (.istore_n 3, 1) := by decide +kernel
theorem dX0_differenceOf_5 : decode cX0_differenceOf 5 = .ok (.iconst 3, 1) := by decide +kernel
theorem dX0_differenceOf_6 : decode cX0_differenceOf 6 = .ok (.iload_n 0, 1) := by decide +kernel
theorem dX0_differenceOf_7 : decode cX0_differenceOf 7 = .ok (.iload_n 3, 1) := by decide +kernel
theorem dX0_differenceOf_8 : decode cX0_differenceOf 8 = .ok (.invokestatic 34, 3) := by decide +kernel
theorem dX0_differenceOf_11 : decode cX0_differenceOf 11 = .ok (.iload_n 1, 1) := by decide +kernel
theorem dX0_differenceOf_12 : decode cX0_differenceOf 12 = .ok (.iload_n 3, 1) := by decide +kernel
theorem dX0_differenceOf_13 : decode cX0_differenceOf 13 = .ok (.invokestatic 34, 3) := by decide +kernel
theorem dX0_differenceOf_16 : decode cX0_differenceOf 16 = .ok (.isub, 1) := by decide +kernel
theorem dX0_differenceOf_17 : decode cX0_differenceOf 17 = .ok (.invokestatic 48, 3) := by decide +kernel
theorem dX0_differenceOf_20 : decode cX0_differenceOf 20 = .ok (.imul, 1) := by decide +kernel
theorem dX0_differenceOf_21 : decode cX0_differenceOf 21 = .ok (.iconst 4, 1) := by decide +kernel
theorem dX0_differenceOf_22 : decode cX0_differenceOf 22 = .ok (.iload_n 0, 1) := by decide +kernel
theorem dX0_differenceOf_23 : decode cX0_differenceOf 23 = .ok (.iload_n 3, 1) := by decide +kernel
theorem dX0_differenceOf_24 : decode cX0_differenceOf 24 = .ok (.iconst 3, 1) := by decide +kernel
theorem dX0_differenceOf_25 : decode cX0_differenceOf 25 = .ok (.iadd, 1) := by decide +kernel
theorem dX0_differenceOf_26 : decode cX0_differenceOf 26 = .ok (.invokestatic 34, 3) := by decide +kernel
theorem dX0_differenceOf_29 : decode cX0_differenceOf 29 = .ok (.iload_n 1, 1) := by decide +kernel
theorem dX0_differenceOf_30 : decode cX0_differenceOf 30 = .ok (.iload_n 3, 1) := by decide +kernel
theorem dX0_differenceOf_31 : decode cX0_differenceOf 31 = .ok (.iconst 3, 1) := by decide +kernel
theorem dX0_differenceOf_32 : decode cX0_differenceOf 32 = .ok (.iadd, 1) := by decide +kernel
theorem dX0_differenceOf_33 : decode cX0_differenceOf 33 = .ok (.invokestatic 34, 3) := by decide +kernel
theorem dX0_differenceOf_36 : decode cX0_differenceOf 36 = .ok (.isub, 1) := by decide +kernel
theorem dX0_differenceOf_37 : decode cX0_differenceOf 37 = .ok (.invokestatic 48, 3) := by decide +kernel
theorem dX0_differenceOf_40 : decode cX0_differenceOf 40 = .ok (.imul, 1) := by decide +kernel
theorem dX0_differenceOf_41 : decode cX0_differenceOf 41 = .ok (.iadd, 1) := by decide +kernel
theorem dX0_differenceOf_42 : decode cX0_differenceOf 42 = .ok (.iconst 2, 1) := by decide +kernel
theorem dX0_differenceOf_43 : decode cX0_differenceOf 43 = .ok (.iload_n 0, 1) := by decide +kernel
theorem dX0_differenceOf_44 : decode cX0_differenceOf 44 = .ok (.iload_n 3, 1) := by decide +kernel
theorem dX0_differenceOf_45 : decode cX0_differenceOf 45 = .ok (.bipush 6, 2) := by decide +kernel
theorem dX0_differenceOf_47 : decode cX0_differenceOf 47 = .ok (.iadd, 1) := by decide +kernel
theorem dX0_differenceOf_48 : decode cX0_differenceOf 48 = .ok (.invokestatic 34, 3) := by decide +kernel
theorem dX0_differenceOf_51 : decode cX0_differenceOf 51 = .ok (.iload_n 1, 1) := by decide +kernel
theorem dX0_differenceOf_52 : decode cX0_differenceOf 52 = .ok (.iload_n 3, 1) := by decide +kernel
theorem dX0_differenceOf_53 : decode cX0_differenceOf 53 = .ok (.bipush 6, 2) := by decide +kernel
theorem dX0_differenceOf_55 : decode cX0_differenceOf 55 = .ok (.iadd, 1) := by decide +kernel
theorem dX0_differenceOf_56 : decode cX0_differenceOf 56 = .ok (.invokestatic 34, 3) := by decide +kernel
theorem dX0_differenceOf_59 : decode cX0_differenceOf 59 = .ok (.isub, 1) := by decide +kernel
theorem dX0_differenceOf_60 : decode cX0_differenceOf 60 = .ok (.invokestatic 48, 3) := by decide +kernel
theorem dX0_differenceOf_63 : decode cX0_differenceOf 63 = .ok (.imul, 1) := by decide +kernel
theorem dX0_differenceOf_64 : decode cX0_differenceOf 64 = .ok (.iadd, 1) := by decide +kernel
theorem dX0_differenceOf_65 : decode cX0_differenceOf 65 = .ok (.ireturn, 1) := by decide +kernel
theorem dX0_shifted_0 : decode cX0_shifted 0 = .ok (.iload_n 0, 1) := by decide +kernel
theorem dX0_shifted_1 : decode cX0_shifted 1 = .ok (.invokestatic 10, 3) := by decide +kernel
theorem dX0_shifted_4 : decode cX0_shifted 4 = .ok (.iload_n 1, 1) := by decide +kernel
theorem dX0_shifted_5 : decode cX0_shifted 5 = .ok (.iadd, 1) := by decide +kernel
theorem dX0_shifted_6 : decode cX0_shifted 6 = .ok (.iconst 0, 1) := by decide +kernel
theorem dX0_shifted_7 : decode cX0_shifted 7 = .ok (.sipush 255, 3) := by decide +kernel
theorem dX0_shifted_10 : decode cX0_shifted 10 = .ok (.invokestatic 45, 3) := by decide +kernel
theorem dX0_shifted_13 : decode cX0_shifted 13 = .ok (.iload_n 0, 1) := by decide +kernel
theorem dX0_shifted_14 : decode cX0_shifted 14 = .ok (.invokestatic 16, 3) := by decide +kernel
theorem dX0_shifted_17 : decode cX0_shifted 17 = .ok (.iload_n 1, 1) := by decide +kernel
theorem dX0_shifted_18 : decode cX0_shifted 18 = .ok (.iadd, 1) := by decide +kernel
theorem dX0_shifted_19 : decode cX0_shifted 19 = .ok (.iconst 0, 1) := by decide +kernel
theorem dX0_shifted_20 : decode cX0_shifted 20 = .ok (.sipush 255, 3) := by decide +kernel
theorem dX0_shifted_23 : decode cX0_shifted 23 = .ok (.invokestatic 45, 3) := by decide +kernel
theorem dX0_shifted_26 : decode cX0_shifted 26 = .ok (.iload_n 0, 1) := by decide +kernel
theorem dX0_shifted_27 : decode cX0_shifted 27 = .ok (.invokestatic 19, 3) := by decide +kernel
theorem dX0_shifted_30 : decode cX0_shifted 30 = .ok (.iload_n 1, 1) := by decide +kernel
theorem dX0_shifted_31 : decode cX0_shifted 31 = .ok (.iadd, 1) := by decide +kernel
theorem dX0_shifted_32 : decode cX0_shifted 32 = .ok (.iconst 0, 1) := by decide +kernel
theorem dX0_shifted_33 : decode cX0_shifted 33 = .ok (.sipush 255, 3) := by decide +kernel
theorem dX0_shifted_36 : decode cX0_shifted 36 = .ok (.invokestatic 45, 3) := by decide +kernel
theorem dX0_shifted_39 : decode cX0_shifted 39 = .ok (.invokestatic 37, 3) := by decide +kernel
theorem dX0_shifted_42 : decode cX0_shifted 42 = .ok (.ireturn, 1) := by decide +kernel
theorem dX1_init_0 : decode cX1_init 0 = .ok (.aload_n 0, 1) := by decide +kernel
theorem dX1_init_1 : decode cX1_init 1 = .ok (.invokespecial 3, 3) := by decide +kernel
theorem dX1_init_4 : decode cX1_init 4 = .ok (.aload_n 0, 1) := by decide +kernel
theorem dX1_init_5 : decode cX1_init 5 = .ok (.iconst 0, 1) := by decide +kernel
theorem dX1_init_6 : decode cX1_init 6 = .ok (.putfield 9, 3) := by decide +kernel
theorem dX1_init_9 : decode cX1_init 9 = .ok (.aload_n 0, 1) := by decide +kernel
theorem dX1_init_10 : decode cX1_init 10 = .ok (.iconst 2, 1) := by decide +kernel
theorem dX1_init_11 : decode cX1_init 11 = .ok (.bipush 10, 2) := by decide +kernel
theorem dX1_init_13 : decode cX1_init 13 = .ok (.multianewarray 15 2, 4) := by decide +kernel
theorem dX1_init_17 : decode cX1_init 17 = .ok (.putfield 17, 3) := by decide +kernel
theorem dX1_init_20 : decode cX1_init 20 = .ok (.aload_n 0, 1) := by decide +kernel
theorem dX1_init_21 : decode cX1_init 21 = .ok (.bipush 10, 2) := by decide +kernel
theorem dX1_init_23 : decode cX1_init 23 = .ok (.newarray .boolean, 2) := by decide +kernel
theorem dX1_init_25 : decode cX1_init 25 = .ok (.putfield 20, 3) := by decide +kernel
theorem dX1_init_28 : decode cX1_init 28 = .ok (.aload_n 0, 1) := by decide +kernel
theorem dX1_init_29 : decode cX1_init 29 = .ok (.iconst 0, 1) := by decide +kernel
theorem dX1_init_30 : decode cX1_init 30 = .ok (.putfield 24, 3) := by decide +kernel
theorem dX1_init_33 : decode cX1_init 33 = .ok (.aload_n 0, 1) := by decide +kernel
theorem dX1_init_34 : decode cX1_init 34 = .ok (.bipush 12, 2) := by decide +kernel
theorem dX1_init_36 : decode cX1_init 36 = .ok (.newarray .int, 2) := by decide +kernel
theorem dX1_init_38 : decode cX1_init 38 = .ok (.putfield 27, 3) := by decide +kernel
theorem dX1_init_41 : decode cX1_init 41 = .ok (.aload_n 0, 1) := by decide +kernel
theorem dX1_init_42 : decode cX1_init 42 = .ok (.bipush 12, 2) := by decide +kernel
theorem dX1_init_44 : decode cX1_init 44 = .ok (.newarray .int, 2) := by decide +kernel
theorem dX1_init_46 : decode cX1_init 46 = .ok (.putfield 31, 3) := by decide +kernel
theorem dX1_init_49 : decode cX1_init 49 = .ok (.aload_n 0, 1) := by decide +kernel
theorem dX1_init_50 : decode cX1_init 50 = .ok (.bipush 12, 2) := by decide +kernel
theorem dX1_init_52 : decode cX1_init 52 = .ok (.newarray .int, 2) := by decide +kernel
theorem dX1_init_54 : decode cX1_init 54 = .ok (.putfield 34, 3) := by decide +kernel
theorem dX1_init_57 : decode cX1_init 57 = .ok (.aload_n 0, 1) := by decide +kernel
theorem dX1_init_58 : decode cX1_init 58 = .ok (.iconst 2, 1) := by decide +kernel
theorem dX1_init_59 : decode cX1_init 59 = .ok (.bipush 12, 2) := by decide +kernel
theorem dX1_init_61 : decode cX1_init 61 = .ok (.multianewarray 15 2, 4) := by decide +kernel
theorem dX1_init_65 : decode cX1_init 65 = .ok (.putfield 37, 3) := by decide +kernel
theorem dX1_init_68 : decode cX1_init 68 = .ok (.return_, 1) := by decide +kernel
theorem dX1_clear_0 : decode cX1_clear 0 = .ok (.aload_n 0, 1) := by decide +kernel
theorem dX1_clear_1 : decode cX1_clear 1 = .ok (.iconst 0, 1) := by decide +kernel
theorem dX1_clear_2 : decode cX1_clear 2 = .ok (.putfield 9, 3) := by decide +kernel
theorem dX1_clear_5 : decode cX1_clear 5 = .ok (.aload_n 0, 1) := by decide +kernel
theorem dX1_clear_6 : decode cX1_clear 6 = .ok (.iconst 0, 1) := by decide +kernel
theorem dX1_clear_7 : decode cX1_clear 7 = .ok (.putfield 24, 3) := by decide +kernel
theorem dX1_clear_10 : decode cX1_clear 10 = .ok (.return_, 1) := by decide +kernel
theorem dX1_addRole_0 : decode cX1_addRole 0 = .ok (.aload_n 0, 1) := by decide +kernel
theorem dX1_addRole_1 : decode cX1_addRole 1 = .ok (.getfield 9, 3) := by decide +kernel
theorem dX1_addRole_4 : decode cX1_addRole 4 = .ok (.bipush 10, 2) := by decide +kernel
theorem dX1_addRole_6 : decode cX1_addRole 6 = .ok (.if_icmp .ge 47, 3) := by decide +kernel
theorem dX1_addRole_9 : decode cX1_addRole 9 = .ok (.aload_n 0, 1) := by decide +kernel
theorem dX1_addRole_10 : decode cX1_addRole 10 = .ok (.getfield 17, 3) := by decide +kernel
theorem dX1_addRole_13 : decode cX1_addRole 13 = .ok (.iconst 0, 1) := by decide +kernel
theorem dX1_addRole_14 : decode cX1_addRole 14 = .ok (.aaload, 1) := by decide +kernel
theorem dX1_addRole_15 : decode cX1_addRole 15 = .ok (.aload_n 0, 1) := by decide +kernel
theorem dX1_addRole_16 : decode cX1_addRole 16 = .ok (.getfield 9, 3) := by decide +kernel
theorem dX1_addRole_19 : decode cX1_addRole 19 = .ok (.iload_n 1, 1) := by decide +kernel
theorem dX1_addRole_20 : decode cX1_addRole 20 = .ok (.iastore, 1) := by decide +kernel
theorem dX1_addRole_21 : decode cX1_addRole 21 = .ok (.aload_n 0, 1) := by decide +kernel
theorem dX1_addRole_22 : decode cX1_addRole 22 = .ok (.getfield 17, 3) := by decide +kernel
theorem dX1_addRole_25 : decode cX1_addRole 25 = .ok (.iconst 1, 1) := by decide +kernel
theorem dX1_addRole_26 : decode cX1_addRole 26 = .ok (.aaload, 1) := by decide +kernel
theorem dX1_addRole_27 : decode cX1_addRole 27 = .ok (.aload_n 0, 1) := by decide +kernel
theorem dX1_addRole_28 : decode cX1_addRole 28 = .ok (.getfield 9, 3) := by decide +kernel
theorem dX1_addRole_31 : decode cX1_addRole 31 = .ok (.iload_n 2, 1) := by decide +kernel
theorem dX1_addRole_32 : decode cX1_addRole 32 = .ok (.iastore, 1) := by decide +kernel
theorem dX1_addRole_33 : decode cX1_addRole 33 = .ok (.aload_n 0, 1) := by decide +kernel
theorem dX1_addRole_34 : decode cX1_addRole 34 = .ok (.getfield 20, 3) := by decide +kernel
theorem dX1_addRole_37 : decode cX1_addRole 37 = .ok (.aload_n 0, 1) := by decide +kernel
theorem dX1_addRole_38 : decode cX1_addRole 38 = .ok (.getfield 9, 3) := by decide +kernel
theorem dX1_addRole_41 : decode cX1_addRole 41 = .ok (.iload_n 3, 1) := by decide +kernel
theorem dX1_addRole_42 : decode cX1_addRole 42 = .ok (.bastore, 1) := by decide +kernel
theorem dX1_addRole_43 : decode cX1_addRole 43 = .ok (.aload_n 0, 1) := by decide +kernel
theorem dX1_addRole_44 : decode cX1_addRole 44 = .ok (.dup, 1) := by decide +kernel
theorem dX1_addRole_45 : decode cX1_addRole 45 = .ok (.getfield 9, 3) := by decide +kernel
theorem dX1_addRole_48 : decode cX1_addRole 48 = .ok (.iconst 1, 1) := by decide +kernel
theorem dX1_addRole_49 : decode cX1_addRole 49 = .ok (.iadd, 1) := by decide +kernel
theorem dX1_addRole_50 : decode cX1_addRole 50 = .ok (.putfield 9, 3) := by decide +kernel
theorem dX1_addRole_53 : decode cX1_addRole 53 = .ok (.return_, 1) := by decide +kernel
theorem dX1_addRule_0 : decode cX1_addRule 0 = .ok (.aload_n 0, 1) := by decide +kernel
theorem dX1_addRule_1 : decode cX1_addRule 1 = .ok (.getfield 24, 3) := by decide +kernel
theorem dX1_addRule_4 : decode cX1_addRule 4 = .ok (.bipush 12, 2) := by decide +kernel
theorem dX1_addRule_6 : decode cX1_addRule 6 = .ok (.if_icmp .ge 69, 3) := by decide +kernel
theorem dX1_addRule_9 : decode cX1_addRule 9 = .ok (.aload_n 0, 1) := by decide +kernel
theorem dX1_addRule_10 : decode cX1_addRule 10 = .ok (.getfield 27, 3) := by decide +kernel
theorem dX1_addRule_13 : decode cX1_addRule 13 = .ok (.aload_n 0, 1) := by decide +kernel
theorem dX1_addRule_14 : decode cX1_addRule 14 = .ok (.getfield 24, 3) := by decide +kernel
theorem dX1_addRule_17 : decode cX1_addRule 17 = .ok (.iload_n 1, 1) := by decide +kernel
theorem dX1_addRule_18 : decode cX1_addRule 18 = .ok (.iastore, 1) := by decide +kernel
theorem dX1_addRule_19 : decode cX1_addRule 19 = .ok (.aload_n 0, 1) := by decide +kernel
theorem dX1_addRule_20 : decode cX1_addRule 20 = .ok (.getfield 31, 3) := by decide +kernel
theorem dX1_addRule_23 : decode cX1_addRule 23 = .ok (.aload_n 0, 1) := by decide +kernel
theorem dX1_addRule_24 : decode cX1_addRule 24 = .ok (.getfield 24, 3) := by decide +kernel
theorem dX1_addRule_27 : decode cX1_addRule 27 = .ok (.iload_n 2, 1) := by decide +kernel
theorem dX1_addRule_28 : decode cX1_addRule 28 = .ok (.iastore, 1) := by decide +kernel
theorem dX1_addRule_29 : decode cX1_addRule 29 = .ok (.aload_n 0, 1) := by decide +kernel
theorem dX1_addRule_30 : decode cX1_addRule 30 = .ok (.getfield 34, 3) := by decide +kernel
theorem dX1_addRule_33 : decode cX1_addRule 33 = .ok (.aload_n 0, 1) := by decide +kernel
theorem dX1_addRule_34 : decode cX1_addRule 34 = .ok (.getfield 24, 3) := by decide +kernel
theorem dX1_addRule_37 : decode cX1_addRule 37 = .ok (.iload_n 3, 1) := by decide +kernel
theorem dX1_addRule_38 : decode cX1_addRule 38 = .ok (.iastore, 1) := by decide +kernel
theorem dX1_addRule_39 : decode cX1_addRule 39 = .ok (.aload_n 0, 1) := by decide +kernel
theorem dX1_addRule_40 : decode cX1_addRule 40 = .ok (.getfield 37, 3) := by decide +kernel
theorem dX1_addRule_43 : decode cX1_addRule 43 = .ok (.iconst 0, 1) := by decide +kernel
theorem dX1_addRule_44 : decode cX1_addRule 44 = .ok (.aaload, 1) := by decide +kernel
theorem dX1_addRule_45 : decode cX1_addRule 45 = .ok (.aload_n 0, 1) := by decide +kernel
theorem dX1_addRule_46 : decode cX1_addRule 46 = .ok (.getfield 24, 3) := by decide +kernel
theorem dX1_addRule_49 : decode cX1_addRule 49 = .ok (.iload 4, 2) := by decide +kernel
theorem dX1_addRule_51 : decode cX1_addRule 51 = .ok (.iastore, 1) := by decide +kernel
theorem dX1_addRule_52 : decode cX1_addRule 52 = .ok (.aload_n 0, 1) := by decide +kernel
theorem dX1_addRule_53 : decode cX1_addRule 53 = .ok (.getfield 37, 3) := by decide +kernel
theorem dX1_addRule_56 : decode cX1_addRule 56 = .ok (.iconst 1, 1) := by decide +kernel
theorem dX1_addRule_57 : decode cX1_addRule 57 = .ok (.aaload, 1) := by decide +kernel
theorem dX1_addRule_58 : decode cX1_addRule 58 = .ok (.aload_n 0, 1) := by decide +kernel
theorem dX1_addRule_59 : decode cX1_addRule 59 = .ok (.getfield 24, 3) := by decide +kernel
theorem dX1_addRule_62 : decode cX1_addRule 62 = .ok (.iload 4, 2) := by decide +kernel
theorem dX1_addRule_64 : decode cX1_addRule 64 = .ok (.iastore, 1) := by decide +kernel
theorem dX1_addRule_65 : decode cX1_addRule 65 = .ok (.aload_n 0, 1) := by decide +kernel
theorem dX1_addRule_66 : decode cX1_addRule 66 = .ok (.dup, 1) := by decide +kernel
theorem dX1_addRule_67 : decode cX1_addRule 67 = .ok (.getfield 24, 3) := by decide +kernel
theorem dX1_addRule_70 : decode cX1_addRule 70 = .ok (.iconst 1, 1) := by decide +kernel
theorem dX1_addRule_71 : decode cX1_addRule 71 = .ok (.iadd, 1) := by decide +kernel
theorem dX1_addRule_72 : decode cX1_addRule 72 = .ok (.putfield 24, 3) := by decide +kernel
theorem dX1_addRule_75 : decode cX1_addRule 75 = .ok (.return_, 1) := by decide +kernel
theorem dX1_copyFrom_0 : decode cX1_copyFrom 0 = .ok (.aload_n 0, 1) := by decide +kernel
theorem dX1_copyFrom_1 : decode cX1_copyFrom 1 = .ok (.aload_n 1, 1) := by decide +kernel
theorem dX1_copyFrom_2 : decode cX1_copyFrom 2 = .ok (.getfield 9, 3) := by decide +kernel
theorem dX1_copyFrom_5 : decode cX1_copyFrom 5 = .ok (.putfield 9, 3) := by decide +kernel
theorem dX1_copyFrom_8 : decode cX1_copyFrom 8 = .ok (.aload_n 0, 1) := by decide +kernel
theorem dX1_copyFrom_9 : decode cX1_copyFrom 9 = .ok (.aload_n 1, 1) := by decide +kernel
theorem dX1_copyFrom_10 : decode cX1_copyFrom 10 = .ok (.getfield 24, 3) := by decide +kernel
theorem dX1_copyFrom_13 : decode cX1_copyFrom 13 = .ok (.putfield 24, 3) := by decide +kernel
theorem dX1_copyFrom_16 : decode cX1_copyFrom 16 = .ok (.iconst 0, 1) := by decide +kernel
theorem dX1_copyFrom_17 : decode cX1_copyFrom 17 = .ok (.istore_n 2, 1) := by decide +kernel
theorem dX1_copyFrom_18 : decode cX1_copyFrom 18 = .ok (.iload_n 2, 1) := by decide +kernel
theorem dX1_copyFrom_19 : decode cX1_copyFrom 19 = .ok (.iconst 2, 1) := by decide +kernel
theorem dX1_copyFrom_20 : decode cX1_copyFrom 20 = .ok (.if_icmp .ge 47, 3) := by decide +kernel
theorem dX1_copyFrom_23 : decode cX1_copyFrom 23 = .ok (.aload_n 1, 1) := by decide +kernel
theorem dX1_copyFrom_24 : decode cX1_copyFrom 24 = .ok (.getfield 17, 3) := by decide +kernel
theorem dX1_copyFrom_27 : decode cX1_copyFrom 27 = .ok (.iload_n 2, 1) := by decide +kernel
theorem dX1_copyFrom_28 : decode cX1_copyFrom 28 = .ok (.aaload, 1) := by decide +kernel
theorem dX1_copyFrom_29 : decode cX1_copyFrom 29 = .ok (.iconst 0, 1) := by decide +kernel
theorem dX1_copyFrom_30 : decode cX1_copyFrom 30 = .ok (.aload_n 0, 1) := by decide +kernel
theorem dX1_copyFrom_31 : decode cX1_copyFrom 31 = .ok (.getfield 17, 3) := by decide +kernel
theorem dX1_copyFrom_34 : decode cX1_copyFrom 34 = .ok (.iload_n 2, 1) := by decide +kernel
theorem dX1_copyFrom_35 : decode cX1_copyFrom 35 = .ok (.aaload, 1) := by decide +kernel
theorem dX1_copyFrom_36 : decode cX1_copyFrom 36 = .ok (.iconst 0, 1) := by decide +kernel
theorem dX1_copyFrom_37 : decode cX1_copyFrom 37 = .ok (.bipush 10, 2) := by decide +kernel
theorem dX1_copyFrom_39 : decode cX1_copyFrom 39 = .ok (.invokestatic 40, 3) := by decide +kernel
theorem dX1_copyFrom_42 : decode cX1_copyFrom 42 = .ok (.aload_n 1, 1) := by decide +kernel
theorem dX1_copyFrom_43 : decode cX1_copyFrom 43 = .ok (.getfield 37, 3) := by decide +kernel
theorem dX1_copyFrom_46 : decode cX1_copyFrom 46 = .ok (.iload_n 2, 1) := by decide +kernel
theorem dX1_copyFrom_47 : decode cX1_copyFrom 47 = .ok (.aaload, 1) := by decide +kernel
theorem dX1_copyFrom_48 : decode cX1_copyFrom 48 = .ok (.iconst 0, 1) := by decide +kernel
theorem dX1_copyFrom_49 : decode cX1_copyFrom 49 = .ok (.aload_n 0, 1) := by decide +kernel
theorem dX1_copyFrom_50 : decode cX1_copyFrom 50 = .ok (.getfield 37, 3) := by decide +kernel
theorem dX1_copyFrom_53 : decode cX1_copyFrom 53 = .ok (.iload_n 2, 1) := by decide +kernel
theorem dX1_copyFrom_54 : decode cX1_copyFrom 54 = .ok (.aaload, 1) := by decide +kernel
theorem dX1_copyFrom_55 : decode cX1_copyFrom 55 = .ok (.iconst 0, 1) := by decide +kernel
theorem dX1_copyFrom_56 : decode cX1_copyFrom 56 = .ok (.bipush 12, 2) := by decide +kernel
theorem dX1_copyFrom_58 : decode cX1_copyFrom 58 = .ok (.invokestatic 40, 3) := by decide +kernel
theorem dX1_copyFrom_61 : decode cX1_copyFrom 61 = .ok (.iinc 2 1, 3) := by decide +kernel
theorem dX1_copyFrom_64 : decode cX1_copyFrom 64 = .ok (.goto (-46), 3) := by decide +kernel
theorem dX1_copyFrom_67 : decode cX1_copyFrom 67 = .ok (.iconst 0, 1) := by decide +kernel
theorem dX1_copyFrom_68 : decode cX1_copyFrom 68 = .ok (.istore_n 2, 1) := by decide +kernel
theorem dX1_copyFrom_69 : decode cX1_copyFrom 69 = .ok (.iload_n 2, 1) := by decide +kernel
theorem dX1_copyFrom_70 : decode cX1_copyFrom 70 = .ok (.bipush 10, 2) := by decide +kernel
theorem dX1_copyFrom_72 : decode cX1_copyFrom 72 = .ok (.if_icmp .ge 21, 3) := by decide +kernel
theorem dX1_copyFrom_75 : decode cX1_copyFrom 75 = .ok (.aload_n 0, 1) := by decide +kernel
theorem dX1_copyFrom_76 : decode cX1_copyFrom 76 = .ok (.getfield 20, 3) := by decide +kernel
theorem dX1_copyFrom_79 : decode cX1_copyFrom 79 = .ok (.iload_n 2, 1) := by decide +kernel
theorem dX1_copyFrom_80 : decode cX1_copyFrom 80 = .ok (.aload_n 1, 1) := by decide +kernel
theorem dX1_copyFrom_81 : decode cX1_copyFrom 81 = .ok (.getfield 20, 3) := by decide +kernel
theorem dX1_copyFrom_84 : decode cX1_copyFrom 84 = .ok (.iload_n 2, 1) := by decide +kernel
theorem dX1_copyFrom_85 : decode cX1_copyFrom 85 = .ok (.baload, 1) := by decide +kernel
theorem dX1_copyFrom_86 : decode cX1_copyFrom 86 = .ok (.bastore, 1) := by decide +kernel
theorem dX1_copyFrom_87 : decode cX1_copyFrom 87 = .ok (.iinc 2 1, 3) := by decide +kernel
theorem dX1_copyFrom_90 : decode cX1_copyFrom 90 = .ok (.goto (-21), 3) := by decide +kernel
theorem dX1_copyFrom_93 : decode cX1_copyFrom 93 = .ok (.aload_n 1, 1) := by decide +kernel
theorem dX1_copyFrom_94 : decode cX1_copyFrom 94 = .ok (.getfield 27, 3) := by decide +kernel
theorem dX1_copyFrom_97 : decode cX1_copyFrom 97 = .ok (.iconst 0, 1) := by decide +kernel
theorem dX1_copyFrom_98 : decode cX1_copyFrom 98 = .ok (.aload_n 0, 1) := by decide +kernel
theorem dX1_copyFrom_99 : decode cX1_copyFrom 99 = .ok (.getfield 27, 3) := by decide +kernel
theorem dX1_copyFrom_102 : decode cX1_copyFrom 102 = .ok (.iconst 0, 1) := by decide +kernel
theorem dX1_copyFrom_103 : decode cX1_copyFrom 103 = .ok (.bipush 12, 2) := by decide +kernel
theorem dX1_copyFrom_105 : decode cX1_copyFrom 105 = .ok (.invokestatic 40, 3) := by decide +kernel
theorem dX1_copyFrom_108 : decode cX1_copyFrom 108 = .ok (.aload_n 1, 1) := by decide +kernel
theorem dX1_copyFrom_109 : decode cX1_copyFrom 109 = .ok (.getfield 31, 3) := by decide +kernel
theorem dX1_copyFrom_112 : decode cX1_copyFrom 112 = .ok (.iconst 0, 1) := by decide +kernel
theorem dX1_copyFrom_113 : decode cX1_copyFrom 113 = .ok (.aload_n 0, 1) := by decide +kernel
theorem dX1_copyFrom_114 : decode cX1_copyFrom 114 = .ok (.getfield 31, 3) := by decide +kernel
theorem dX1_copyFrom_117 : decode cX1_copyFrom 117 = .ok (.iconst 0, 1) := by decide +kernel
theorem dX1_copyFrom_118 : decode cX1_copyFrom 118 = .ok (.bipush 12, 2) := by decide +kernel
theorem dX1_copyFrom_120 : decode cX1_copyFrom 120 = .ok (.invokestatic 40, 3) := by decide +kernel
theorem dX1_copyFrom_123 : decode cX1_copyFrom 123 = .ok (.aload_n 1, 1) := by decide +kernel
theorem dX1_copyFrom_124 : decode cX1_copyFrom 124 = .ok (.getfield 34, 3) := by decide +kernel
theorem dX1_copyFrom_127 : decode cX1_copyFrom 127 = .ok (.iconst 0, 1) := by decide +kernel
theorem dX1_copyFrom_128 : decode cX1_copyFrom 128 = .ok (.aload_n 0, 1) := by decide +kernel
theorem dX1_copyFrom_129 : decode cX1_copyFrom 129 = .ok (.getfield 34, 3) := by decide +kernel
theorem dX1_copyFrom_132 : decode cX1_copyFrom 132 = .ok (.iconst 0, 1) := by decide +kernel
theorem dX1_copyFrom_133 : decode cX1_copyFrom 133 = .ok (.bipush 12, 2) := by decide +kernel
theorem dX1_copyFrom_135 : decode cX1_copyFrom 135 = .ok (.invokestatic 40, 3) := by decide +kernel
theorem dX1_copyFrom_138 : decode cX1_copyFrom 138 = .ok (.return_, 1) := by decide +kernel
theorem dX1_exchangeColours_0 : decode cX1_exchangeColours 0 = .ok (.iconst 0, 1) := by decide +kernel
theorem dX1_exchangeColours_1 : decode cX1_exchangeColours 1 = .ok (.istore_n 1, 1) := by decide +kernel
theorem dX1_exchangeColours_2 : decode cX1_exchangeColours 2 = .ok (.iload_n 1, 1) := by decide +kernel
theorem dX1_exchangeColours_3 : decode cX1_exchangeColours 3 = .ok (.aload_n 0, 1) := by decide +kernel
theorem dX1_exchangeColours_4 : decode cX1_exchangeColours 4 = .ok (.getfield 9, 3) := by decide +kernel
theorem dX1_exchangeColours_7 : decode cX1_exchangeColours 7 = .ok (.if_icmp .ge 43, 3) := by decide +kernel
theorem dX1_exchangeColours_10 : decode cX1_exchangeColours 10 = .ok (.aload_n 0, 1) := by decide +kernel
theorem dX1_exchangeColours_11 : decode cX1_exchangeColours 11 = .ok (.getfield 17, 3) := by decide +kernel
theorem dX1_exchangeColours_14 : decode cX1_exchangeColours 14 = .ok (.iconst 0, 1) := by decide +kernel
theorem dX1_exchangeColours_15 : decode cX1_exchangeColours 15 = .ok (.aaload, 1) := by decide +kernel
theorem dX1_exchangeColours_16 : decode cX1_exchangeColours 16 = .ok (.iload_n 1, 1) := by decide +kernel
theorem dX1_exchangeColours_17 : decode cX1_exchangeColours 17 = .ok (.iaload, 1) := by decide +kernel
theorem dX1_exchangeColours_18 : decode cX1_exchangeColours 18 = .ok (.istore_n 2, 1) := by decide +kernel
theorem dX1_exchangeColours_19 : decode cX1_exchangeColours 19 = .ok (.aload_n 0, 1) := by decide +kernel
theorem dX1_exchangeColours_20 : decode cX1_exchangeColours 20 = .ok (.getfield 17, 3) := by decide +kernel
theorem dX1_exchangeColours_23 : decode cX1_exchangeColours 23 = .ok (.iconst 0, 1) := by decide +kernel
theorem dX1_exchangeColours_24 : decode cX1_exchangeColours 24 = .ok (.aaload, 1) := by decide +kernel
theorem dX1_exchangeColours_25 : decode cX1_exchangeColours 25 = .ok (.iload_n 1, 1) := by decide +kernel
theorem dX1_exchangeColours_26 : decode cX1_exchangeColours 26 = .ok (.aload_n 0, 1) := by decide +kernel
theorem dX1_exchangeColours_27 : decode cX1_exchangeColours 27 = .ok (.getfield 17, 3) := by decide +kernel
theorem dX1_exchangeColours_30 : decode cX1_exchangeColours 30 = .ok (.iconst 1, 1) := by decide +kernel
theorem dX1_exchangeColours_31 : decode cX1_exchangeColours 31 = .ok (.aaload, 1) := by decide +kernel
theorem dX1_exchangeColours_32 : decode cX1_exchangeColours 32 = .ok (.iload_n 1, 1) := by decide +kernel
theorem dX1_exchangeColours_33 : decode cX1_exchangeColours 33 = .ok (.iaload, 1) := by decide +kernel
theorem dX1_exchangeColours_34 : decode cX1_exchangeColours 34 = .ok (.iastore, 1) := by decide +kernel
theorem dX1_exchangeColours_35 : decode cX1_exchangeColours 35 = .ok (.aload_n 0, 1) := by decide +kernel
theorem dX1_exchangeColours_36 : decode cX1_exchangeColours 36 = .ok (.getfield 17, 3) := by decide +kernel
theorem dX1_exchangeColours_39 : decode cX1_exchangeColours 39 = .ok (.iconst 1, 1) := by decide +kernel
theorem dX1_exchangeColours_40 : decode cX1_exchangeColours 40 = .ok (.aaload, 1) := by decide +kernel
theorem dX1_exchangeColours_41 : decode cX1_exchangeColours 41 = .ok (.iload_n 1, 1) := by decide +kernel
theorem dX1_exchangeColours_42 : decode cX1_exchangeColours 42 = .ok (.iload_n 2, 1) := by decide +kernel
theorem dX1_exchangeColours_43 : decode cX1_exchangeColours 43 = .ok (.iastore, 1) := by decide +kernel
theorem dX1_exchangeColours_44 : decode cX1_exchangeColours 44 = .ok (.iinc 1 1, 3) := by decide +kernel
theorem dX1_exchangeColours_47 : decode cX1_exchangeColours 47 = .ok (.goto (-45), 3) := by decide +kernel
theorem dX1_exchangeColours_50 : decode cX1_exchangeColours 50 = .ok (.return_, 1) := by decide +kernel
theorem dX1_nearestRole_0 : decode cX1_nearestRole 0 = .ok (.iconst (-1), 1) := by decide +kernel
theorem dX1_nearestRole_1 : decode cX1_nearestRole 1 = .ok (.istore_n 3, 1) := by decide +kernel
theorem dX1_nearestRole_2 : decode cX1_nearestRole 2 = .ok (.sipush 2296, 3) := by decide +kernel
theorem dX1_nearestRole_5 : decode cX1_nearestRole 5 = .ok (.istore 4, 2) := by decide +kernel
theorem dX1_nearestRole_7 : decode cX1_nearestRole 7 = .ok (.iconst 0, 1) := by decide +kernel
theorem dX1_nearestRole_8 : decode cX1_nearestRole 8 = .ok (.istore 5, 2) := by decide +kernel
theorem dX1_nearestRole_10 : decode cX1_nearestRole 10 = .ok (.iload 5, 2) := by decide +kernel
theorem dX1_nearestRole_12 : decode cX1_nearestRole 12 = .ok (.aload_n 0, 1) := by decide +kernel
theorem dX1_nearestRole_13 : decode cX1_nearestRole 13 = .ok (.getfield 9, 3) := by decide +kernel
theorem dX1_nearestRole_16 : decode cX1_nearestRole 16 = .ok (.if_icmp .ge 39, 3) := by decide +kernel
theorem dX1_nearestRole_19 : decode cX1_nearestRole 19 = .ok (.aload_n 0, 1) := by decide +kernel
theorem dX1_nearestRole_20 : decode cX1_nearestRole 20 = .ok (.getfield 17, 3) := by decide +kernel
theorem dX1_nearestRole_23 : decode cX1_nearestRole 23 = .ok (.iload_n 2, 1) := by decide +kernel
theorem dX1_nearestRole_24 : decode cX1_nearestRole 24 = .ok (.aaload, 1) := by decide +kernel
theorem dX1_nearestRole_25 : decode cX1_nearestRole 25 = .ok (.iload 5, 2) := by decide +kernel
theorem dX1_nearestRole_27 : decode cX1_nearestRole 27 = .ok (.iaload, 1) := by decide +kernel
theorem dX1_nearestRole_28 : decode cX1_nearestRole 28 = .ok (.iload_n 1, 1) := by decide +kernel
theorem dX1_nearestRole_29 : decode cX1_nearestRole 29 = .ok (.iconst 0, 1) := by decide +kernel
theorem dX1_nearestRole_30 : decode cX1_nearestRole 30 = .ok (.invokestatic 46, 3) := by decide +kernel
theorem dX1_nearestRole_33 : decode cX1_nearestRole 33 = .ok (.istore 6, 2) := by decide +kernel
theorem dX1_nearestRole_35 : decode cX1_nearestRole 35 = .ok (.iload 6, 2) := by decide +kernel
theorem dX1_nearestRole_37 : decode cX1_nearestRole 37 = .ok (.iload 4, 2) := by decide +kernel
theorem dX1_nearestRole_39 : decode cX1_nearestRole 39 = .ok (.if_icmp .ge 10, 3) := by decide +kernel
theorem dX1_nearestRole_42 : decode cX1_nearestRole 42 = .ok (.iload 5, 2) := by decide +kernel
theorem dX1_nearestRole_44 : decode cX1_nearestRole 44 = .ok (.istore_n 3, 1) := by decide +kernel
theorem dX1_nearestRole_45 : decode cX1_nearestRole 45 = .ok (.iload 6, 2) := by decide +kernel
theorem dX1_nearestRole_47 : decode cX1_nearestRole 47 = .ok (.istore 4, 2) := by decide +kernel
theorem dX1_nearestRole_49 : decode cX1_nearestRole 49 = .ok (.iinc 5 1, 3) := by decide +kernel
theorem dX1_nearestRole_52 : decode cX1_nearestRole 52 = .ok (.goto (-42), 3) := by decide +kernel
theorem dX1_nearestRole_55 : decode cX1_nearestRole 55 = .ok (.iload_n 3, 1) := by decide +kernel
theorem dX1_nearestRole_56 : decode cX1_nearestRole 56 = .ok (.ireturn, 1) := by decide +kernel
theorem dX1_ruleValue_0 : decode cX1_ruleValue 0 = .ok (.aload_n 0, 1) := by decide +kernel
theorem dX1_ruleValue_1 : decode cX1_ruleValue 1 = .ok (.getfield 17, 3) := by decide +kernel
theorem dX1_ruleValue_4 : decode cX1_ruleValue 4 = .ok (.iload_n 2, 1) := by decide +kernel
theorem dX1_ruleValue_5 : decode cX1_ruleValue 5 = .ok (.aaload, 1) := by decide +kernel
theorem dX1_ruleValue_6 : decode cX1_ruleValue 6 = .ok (.aload_n 0, 1) := by decide +kernel
theorem dX1_ruleValue_7 : decode cX1_ruleValue 7 = .ok (.getfield 27, 3) := by decide +kernel
theorem dX1_ruleValue_10 : decode cX1_ruleValue 10 = .ok (.iload_n 1, 1) := by decide +kernel
theorem dX1_ruleValue_11 : decode cX1_ruleValue 11 = .ok (.iaload, 1) := by decide +kernel
theorem dX1_ruleValue_12 : decode cX1_ruleValue 12 = .ok (.iaload, 1) := by decide +kernel
theorem dX1_ruleValue_13 : decode cX1_ruleValue 13 = .ok (.istore_n 3, 1) := by decide +kernel
theorem dX1_ruleValue_14 : decode cX1_ruleValue 14 = .ok (.aload_n 0, 1) := by decide +kernel
theorem dX1_ruleValue_15 : decode cX1_ruleValue 15 = .ok (.getfield 17, 3) := by decide +kernel
theorem dX1_ruleValue_18 : decode cX1_ruleValue 18 = .ok (.iload_n 2, 1) := by decide +kernel
theorem dX1_ruleValue_19 : decode cX1_ruleValue 19 = .ok (.aaload, 1) := by decide +kernel
theorem dX1_ruleValue_20 : decode cX1_ruleValue 20 = .ok (.aload_n 0, 1) := by decide +kernel
theorem dX1_ruleValue_21 : decode cX1_ruleValue 21 = .ok (.getfield 31, 3) := by decide +kernel
theorem dX1_ruleValue_24 : decode cX1_ruleValue 24 = .ok (.iload_n 1, 1) := by decide +kernel
theorem dX1_ruleValue_25 : decode cX1_ruleValue 25 = .ok (.iaload, 1) := by decide +kernel
theorem dX1_ruleValue_26 : decode cX1_ruleValue 26 = .ok (.iaload, 1) := by decide +kernel
theorem dX1_ruleValue_27 : decode cX1_ruleValue 27 = .ok (.istore 4, 2) := by decide +kernel
theorem dX1_ruleValue_29 : decode cX1_ruleValue 29 = .ok (.aload_n 0, 1) := by decide +kernel
theorem dX1_ruleValue_30 : decode cX1_ruleValue 30 = .ok (.getfield 34, 3) := by decide +kernel
theorem dX1_ruleValue_33 : decode cX1_ruleValue 33 = .ok (.iload_n 1, 1) := by decide +kernel
theorem dX1_ruleValue_34 : decode cX1_ruleValue 34 = .ok (.iaload, 1) := by decide +kernel
theorem dX1_ruleValue_35 : decode cX1_ruleValue 35 = .ok (.iconst (-1), 1) := by decide +kernel
theorem dX1_ruleValue_36 : decode cX1_ruleValue 36 = .ok (.if_icmp .ne 10, 3) := by decide +kernel
theorem dX1_ruleValue_39 : decode cX1_ruleValue 39 = .ok (.iload_n 3, 1) := by decide +kernel
theorem dX1_ruleValue_40 : decode cX1_ruleValue 40 = .ok (.iload 4, 2) := by decide +kernel
theorem dX1_ruleValue_42 : decode cX1_ruleValue 42 = .ok (.invokestatic 52, 3) := by decide +kernel
theorem dX1_ruleValue_45 : decode cX1_ruleValue 45 = .ok (.ireturn, 1) := by decide +kernel
theorem dX1_ruleValue_46 : decode cX1_ruleValue 46 = .ok (.iload_n 3, 1) := by decide +kernel
theorem dX1_ruleValue_47 : decode cX1_ruleValue 47 = .ok (.iload 4, 2) := by decide +kernel
theorem dX1_ruleValue_49 : decode cX1_ruleValue 49 = .ok (.aload_n 0, 1) := by decide +kernel
theorem dX1_ruleValue_50 : decode cX1_ruleValue 50 = .ok (.getfield 34, 3) := by decide +kernel
theorem dX1_ruleValue_53 : decode cX1_ruleValue 53 = .ok (.iload_n 1, 1) := by decide +kernel
theorem dX1_ruleValue_54 : decode cX1_ruleValue 54 = .ok (.iaload, 1) := by decide +kernel
theorem dX1_ruleValue_55 : decode cX1_ruleValue 55 = .ok (.invokestatic 46, 3) := by decide +kernel
theorem dX1_ruleValue_58 : decode cX1_ruleValue 58 = .ok (.ireturn, 1) := by decide +kernel
theorem dX1_isKept_0 : decode cX1_isKept 0 = .ok (.aload_n 0, 1) := by decide +kernel
theorem dX1_isKept_1 : decode cX1_isKept 1 = .ok (.iload_n 1, 1) := by decide +kernel
theorem dX1_isKept_2 : decode cX1_isKept 2 = .ok (.iload_n 2, 1) := by decide +kernel
theorem dX1_isKept_3 : decode cX1_isKept 3 = .ok (.invokevirtual 56, 3) := by decide +kernel
theorem dX1_isKept_6 : decode cX1_isKept 6 = .ok (.aload_n 0, 1) := by decide +kernel
theorem dX1_isKept_7 : decode cX1_isKept 7 = .ok (.getfield 37, 3) := by decide +kernel
theorem dX1_isKept_10 : decode cX1_isKept 10 = .ok (.iload_n 2, 1) := by decide +kernel
theorem dX1_isKept_11 : decode cX1_isKept 11 = .ok (.aaload, 1) := by decide +kernel
theorem dX1_isKept_12 : decode cX1_isKept 12 = .ok (.iload_n 1, 1) := by decide +kernel
theorem dX1_isKept_13 : decode cX1_isKept 13 = .ok (.iaload, 1) := by decide +kernel
theorem dX1_isKept_14 : decode cX1_isKept 14 = .ok (.if_icmp .lt 7, 3) := by decide +kernel
theorem dX1_isKept_17 : decode cX1_isKept 17 = .ok (.iconst 1, 1) := by decide +kernel
theorem dX1_isKept_18 : decode cX1_isKept 18 = .ok (.goto 4, 3) := by decide +kernel
theorem dX1_isKept_21 : decode cX1_isKept 21 = .ok (.iconst 0, 1) := by decide +kernel
theorem dX1_isKept_22 : decode cX1_isKept 22 = .ok (.ireturn, 1) := by decide +kernel
theorem dX1_leastMargin_0 : decode cX1_leastMargin 0 = .ok (.sipush 9999, 3) := by decide +kernel
theorem dX1_leastMargin_3 : decode cX1_leastMargin 3 = .ok (.istore_n 2, 1) := by decide +kernel
theorem dX1_leastMargin_4 : decode cX1_leastMargin 4 = .ok (.iconst 0, 1) := by decide +kernel
theorem dX1_leastMargin_5 : decode cX1_leastMargin 5 = .ok (.istore_n 3, 1) := by decide +kernel
theorem dX1_leastMargin_6 : decode cX1_leastMargin 6 = .ok (.iload_n 3, 1) := by decide +kernel
theorem dX1_leastMargin_7 : decode cX1_leastMargin 7 = .ok (.aload_n 0, 1) := by decide +kernel
theorem dX1_leastMargin_8 : decode cX1_leastMargin 8 = .ok (.getfield 24, 3) := by decide +kernel
theorem dX1_leastMargin_11 : decode cX1_leastMargin 11 = .ok (.if_icmp .ge 29, 3) := by decide +kernel
theorem dX1_leastMargin_14 : decode cX1_leastMargin 14 = .ok (.iload_n 2, 1) := by decide +kernel
theorem dX1_leastMargin_15 : decode cX1_leastMargin 15 = .ok (.aload_n 0, 1) := by decide +kernel
theorem dX1_leastMargin_16 : decode cX1_leastMargin 16 = .ok (.iload_n 3, 1) := by decide +kernel
theorem dX1_leastMargin_17 : decode cX1_leastMargin 17 = .ok (.iload_n 1, 1) := by decide +kernel
theorem dX1_leastMargin_18 : decode cX1_leastMargin 18 = .ok (.invokevirtual 56, 3) := by decide +kernel
theorem dX1_leastMargin_21 : decode cX1_leastMargin 21 = .ok (.aload_n 0, 1) := by decide +kernel
theorem dX1_leastMargin_22 : decode cX1_leastMargin 22 = .ok (.getfield 37, 3) := by decide +kernel
theorem dX1_leastMargin_25 : decode cX1_leastMargin 25 = .ok (.iload_n 1, 1) := by decide +kernel
theorem dX1_leastMargin_26 : decode cX1_leastMargin 26 = .ok (.aaload, 1) := by decide +kernel
theorem dX1_leastMargin_27 : decode cX1_leastMargin 27 = .ok (.iload_n 3, 1) := by decide +kernel
theorem dX1_leastMargin_28 : decode cX1_leastMargin 28 = .ok (.iaload, 1) := by decide +kernel
theorem dX1_leastMargin_29 : decode cX1_leastMargin 29 = .ok (.isub, 1) := by decide +kernel
theorem dX1_leastMargin_30 : decode cX1_leastMargin 30 = .ok (.invokestatic 59, 3) := by decide +kernel
theorem dX1_leastMargin_33 : decode cX1_leastMargin 33 = .ok (.istore_n 2, 1) := by decide +kernel
theorem dX1_leastMargin_34 : decode cX1_leastMargin 34 = .ok (.iinc 3 1, 3) := by decide +kernel
theorem dX1_leastMargin_37 : decode cX1_leastMargin 37 = .ok (.goto (-31), 3) := by decide +kernel
theorem dX1_leastMargin_40 : decode cX1_leastMargin 40 = .ok (.iload_n 2, 1) := by decide +kernel
theorem dX1_leastMargin_41 : decode cX1_leastMargin 41 = .ok (.ireturn, 1) := by decide +kernel
theorem dX1_violatedIn_0 : decode cX1_violatedIn 0 = .ok (.iconst 0, 1) := by decide +kernel
theorem dX1_violatedIn_1 : decode cX1_violatedIn 1 = .ok (.istore_n 2, 1) := by decide +kernel
theorem dX1_violatedIn_2 : decode cX1_violatedIn 2 = .ok (.iconst 0, 1) := by decide +kernel
theorem dX1_violatedIn_3 : decode cX1_violatedIn 3 = .ok (.istore_n 3, 1) := by decide +kernel
theorem dX1_violatedIn_4 : decode cX1_violatedIn 4 = .ok (.iload_n 3, 1) := by decide +kernel
theorem dX1_violatedIn_5 : decode cX1_violatedIn 5 = .ok (.aload_n 0, 1) := by decide +kernel
theorem dX1_violatedIn_6 : decode cX1_violatedIn 6 = .ok (.getfield 24, 3) := by decide +kernel
theorem dX1_violatedIn_9 : decode cX1_violatedIn 9 = .ok (.if_icmp .ge 29, 3) := by decide +kernel
theorem dX1_violatedIn_12 : decode cX1_violatedIn 12 = .ok (.aload_n 0, 1) := by decide +kernel
theorem dX1_violatedIn_13 : decode cX1_violatedIn 13 = .ok (.iload_n 3, 1) := by decide +kernel
theorem dX1_violatedIn_14 : decode cX1_violatedIn 14 = .ok (.iload_n 1, 1) := by decide +kernel
theorem dX1_violatedIn_15 : decode cX1_violatedIn 15 = .ok (.invokevirtual 56, 3) := by decide +kernel
theorem dX1_violatedIn_18 : decode cX1_violatedIn 18 = .ok (.aload_n 0, 1) := by decide +kernel
theorem dX1_violatedIn_19 : decode cX1_violatedIn 19 = .ok (.getfield 37, 3) := by decide +kernel
theorem dX1_violatedIn_22 : decode cX1_violatedIn 22 = .ok (.iload_n 1, 1) := by decide +kernel
theorem dX1_violatedIn_23 : decode cX1_violatedIn 23 = .ok (.aaload, 1) := by decide +kernel
theorem dX1_violatedIn_24 : decode cX1_violatedIn 24 = .ok (.iload_n 3, 1) := by decide +kernel
theorem dX1_violatedIn_25 : decode cX1_violatedIn 25 = .ok (.iaload, 1) := by decide +kernel
theorem dX1_violatedIn_26 : decode cX1_violatedIn 26 = .ok (.if_icmp .ge 6, 3) := by decide +kernel
theorem dX1_violatedIn_29 : decode cX1_violatedIn 29 = .ok (.iinc 2 1, 3) := by decide +kernel
theorem dX1_violatedIn_32 : decode cX1_violatedIn 32 = .ok (.iinc 3 1, 3) := by decide +kernel
theorem dX1_violatedIn_35 : decode cX1_violatedIn 35 = .ok (.goto (-31), 3) := by decide +kernel
theorem dX1_violatedIn_38 : decode cX1_violatedIn 38 = .ok (.iload_n 2, 1) := by decide +kernel
theorem dX1_violatedIn_39 : decode cX1_violatedIn 39 = .ok (.ireturn, 1) := by decide +kernel
theorem dX1_violationPlace_0 : decode cX1_violationPlace 0 = .ok (.iconst 0, 1) := by decide +kernel
theorem dX1_violationPlace_1 : decode cX1_violationPlace 1 = .ok (.istore_n 2, 1) := by decide +kernel
theorem dX1_violationPlace_2 : decode cX1_violationPlace 2 = .ok (.iconst 0, 1) := by decide +kernel
theorem dX1_violationPlace_3 : decode cX1_violationPlace 3 = .ok (.istore_n 3, 1) := by decide +kernel
theorem dX1_violationPlace_4 : decode cX1_violationPlace 4 = .ok (.iload_n 3, 1) := by decide +kernel
theorem dX1_violationPlace_5 : decode cX1_violationPlace 5 = .ok (.iconst 2, 1) := by decide +kernel
theorem dX1_violationPlace_6 : decode cX1_violationPlace 6 = .ok (.aload_n 0, 1) := by decide +kernel
theorem dX1_violationPlace_7 : decode cX1_violationPlace 7 = .ok (.getfield 24, 3) := by decide +kernel
theorem dX1_violationPlace_10 : decode cX1_violationPlace 10 = .ok (.imul, 1) := by decide +kernel
theorem dX1_violationPlace_11 : decode cX1_violationPlace 11 = .ok (.if_icmp .ge 32, 3) := by decide +kernel
theorem dX1_violationPlace_14 : decode cX1_violationPlace 14 = .ok (.aload_n 0, 1) := by decide +kernel
theorem dX1_violationPlace_15 : decode cX1_violationPlace 15 = .ok (.iload_n 3, 1) := by decide +kernel
theorem dX1_violationPlace_16 : decode cX1_violationPlace 16 = .ok (.iconst 2, 1) := by decide +kernel
theorem dX1_violationPlace_17 : decode cX1_violationPlace 17 = .ok (.idiv, 1) := by decide +kernel
theorem dX1_violationPlace_18 : decode cX1_violationPlace 18 = .ok (.iload_n 3, 1) := by decide +kernel
theorem dX1_violationPlace_19 : decode cX1_violationPlace 19 = .ok (.iconst 2, 1) := by decide +kernel
theorem dX1_violationPlace_20 : decode cX1_violationPlace 20 = .ok (.irem, 1) := by decide +kernel
theorem dX1_violationPlace_21 : decode cX1_violationPlace 21 = .ok (.invokevirtual 64, 3) := by decide +kernel
theorem dX1_violationPlace_24 : decode cX1_violationPlace 24 = .ok (.ifCond .ne 13, 3) := by decide +kernel
theorem dX1_violationPlace_27 : decode cX1_violationPlace 27 = .ok (.iload_n 2, 1) := by decide +kernel
theorem dX1_violationPlace_28 : decode cX1_violationPlace 28 = .ok (.iload_n 1, 1) := by decide +kernel
theorem dX1_violationPlace_29 : decode cX1_violationPlace 29 = .ok (.if_icmp .ne 5, 3) := by decide +kernel
theorem dX1_violationPlace_32 : decode cX1_violationPlace 32 = .ok (.iload_n 3, 1) := by decide +kernel
theorem dX1_violationPlace_33 : decode cX1_violationPlace 33 = .ok (.ireturn, 1) := by decide +kernel
theorem dX1_violationPlace_34 : decode cX1_violationPlace 34 = .ok (.iinc 2 1, 3) := by decide +kernel
theorem dX1_violationPlace_37 : decode cX1_violationPlace 37 = .ok (.iinc 3 1, 3) := by decide +kernel
theorem dX1_violationPlace_40 : decode cX1_violationPlace 40 = .ok (.goto (-36), 3) := by decide +kernel
theorem dX1_violationPlace_43 : decode cX1_violationPlace 43 = .ok (.iconst (-1), 1) := by decide +kernel
theorem dX1_violationPlace_44 : decode cX1_violationPlace 44 = .ok (.ireturn, 1) := by decide +kernel
theorem dX1_bestChoice_0 : decode cX1_bestChoice 0 = .ok (.aload_n 0, 1) := by decide +kernel
theorem dX1_bestChoice_1 : decode cX1_bestChoice 1 = .ok (.iload_n 2, 1) := by decide +kernel
theorem dX1_bestChoice_2 : decode cX1_bestChoice 2 = .ok (.invokevirtual 68, 3) := by decide +kernel
theorem dX1_bestChoice_5 : decode cX1_bestChoice 5 = .ok (.istore_n 3, 1) := by decide +kernel
theorem dX1_bestChoice_6 : decode cX1_bestChoice 6 = .ok (.iconst (-1), 1) := by decide +kernel
theorem dX1_bestChoice_7 : decode cX1_bestChoice 7 = .ok (.istore 4, 2) := by decide +kernel
theorem dX1_bestChoice_9 : decode cX1_bestChoice 9 = .ok (.iconst 0, 1) := by decide +kernel
theorem dX1_bestChoice_10 : decode cX1_bestChoice 10 = .ok (.istore 5, 2) := by decide +kernel
theorem dX1_bestChoice_12 : decode cX1_bestChoice 12 = .ok (.iload 5, 2) := by decide +kernel
theorem dX1_bestChoice_14 : decode cX1_bestChoice 14 = .ok (.sipush 1020, 3) := by decide +kernel
theorem dX1_bestChoice_17 : decode cX1_bestChoice 17 = .ok (.if_icmp .ge 96, 3) := by decide +kernel
theorem dX1_bestChoice_20 : decode cX1_bestChoice 20 = .ok (.iload 4, 2) := by decide +kernel
theorem dX1_bestChoice_22 : decode cX1_bestChoice 22 = .ok (.ifCond .ge 91, 3) := by decide +kernel
theorem dX1_bestChoice_25 : decode cX1_bestChoice 25 = .ok (.aload_n 0, 1) := by decide +kernel
theorem dX1_bestChoice_26 : decode cX1_bestChoice 26 = .ok (.iload_n 1, 1) := by decide +kernel
theorem dX1_bestChoice_27 : decode cX1_bestChoice 27 = .ok (.iload 5, 2) := by decide +kernel
theorem dX1_bestChoice_29 : decode cX1_bestChoice 29 = .ok (.invokevirtual 72, 3) := by decide +kernel
theorem dX1_bestChoice_32 : decode cX1_bestChoice 32 = .ok (.istore 6, 2) := by decide +kernel
theorem dX1_bestChoice_34 : decode cX1_bestChoice 34 = .ok (.aload_n 0, 1) := by decide +kernel
theorem dX1_bestChoice_35 : decode cX1_bestChoice 35 = .ok (.getfield 20, 3) := by decide +kernel
theorem dX1_bestChoice_38 : decode cX1_bestChoice 38 = .ok (.iload 6, 2) := by decide +kernel
theorem dX1_bestChoice_40 : decode cX1_bestChoice 40 = .ok (.baload, 1) := by decide +kernel
theorem dX1_bestChoice_41 : decode cX1_bestChoice 41 = .ok (.ifCond .ne 66, 3) := by decide +kernel
theorem dX1_bestChoice_44 : decode cX1_bestChoice 44 = .ok (.aload_n 0, 1) := by decide +kernel
theorem dX1_bestChoice_45 : decode cX1_bestChoice 45 = .ok (.getfield 17, 3) := by decide +kernel
theorem dX1_bestChoice_48 : decode cX1_bestChoice 48 = .ok (.iload_n 2, 1) := by decide +kernel
theorem dX1_bestChoice_49 : decode cX1_bestChoice 49 = .ok (.aaload, 1) := by decide +kernel
theorem dX1_bestChoice_50 : decode cX1_bestChoice 50 = .ok (.iload 6, 2) := by decide +kernel
theorem dX1_bestChoice_52 : decode cX1_bestChoice 52 = .ok (.iaload, 1) := by decide +kernel
theorem dX1_bestChoice_53 : decode cX1_bestChoice 53 = .ok (.istore 7, 2) := by decide +kernel
theorem dX1_bestChoice_55 : decode cX1_bestChoice 55 = .ok (.aload_n 0, 1) := by decide +kernel
theorem dX1_bestChoice_56 : decode cX1_bestChoice 56 = .ok (.getfield 17, 3) := by decide +kernel
theorem dX1_bestChoice_59 : decode cX1_bestChoice 59 = .ok (.iload_n 2, 1) := by decide +kernel
theorem dX1_bestChoice_60 : decode cX1_bestChoice 60 = .ok (.aaload, 1) := by decide +kernel
theorem dX1_bestChoice_61 : decode cX1_bestChoice 61 = .ok (.iload 6, 2) := by decide +kernel
theorem dX1_bestChoice_63 : decode cX1_bestChoice 63 = .ok (.iload 7, 2) := by decide +kernel
theorem dX1_bestChoice_65 : decode cX1_bestChoice 65 = .ok (.iload 5, 2) := by decide +kernel
theorem dX1_bestChoice_67 : decode cX1_bestChoice 67 = .ok (.invokestatic 75, 3) := by decide +kernel
theorem dX1_bestChoice_70 : decode cX1_bestChoice 70 = .ok (.invokestatic 78, 3) := by decide +kernel
theorem dX1_bestChoice_73 : decode cX1_bestChoice 73 = .ok (.iastore, 1) := by decide +kernel
theorem dX1_bestChoice_74 : decode cX1_bestChoice 74 = .ok (.aload_n 0, 1) := by decide +kernel
theorem dX1_bestChoice_75 : decode cX1_bestChoice 75 = .ok (.iload_n 1, 1) := by decide +kernel
theorem dX1_bestChoice_76 : decode cX1_bestChoice 76 = .ok (.iload_n 2, 1) := by decide +kernel
theorem dX1_bestChoice_77 : decode cX1_bestChoice 77 = .ok (.invokevirtual 64, 3) := by decide +kernel
theorem dX1_bestChoice_80 : decode cX1_bestChoice 80 = .ok (.ifCond .eq 16, 3) := by decide +kernel
theorem dX1_bestChoice_83 : decode cX1_bestChoice 83 = .ok (.aload_n 0, 1) := by decide +kernel
theorem dX1_bestChoice_84 : decode cX1_bestChoice 84 = .ok (.iload_n 2, 1) := by decide +kernel
theorem dX1_bestChoice_85 : decode cX1_bestChoice 85 = .ok (.invokevirtual 68, 3) := by decide +kernel
theorem dX1_bestChoice_88 : decode cX1_bestChoice 88 = .ok (.iload_n 3, 1) := by decide +kernel
theorem dX1_bestChoice_89 : decode cX1_bestChoice 89 = .ok (.if_icmp .ge 7, 3) := by decide +kernel
theorem dX1_bestChoice_92 : decode cX1_bestChoice 92 = .ok (.iload 5, 2) := by decide +kernel
theorem dX1_bestChoice_94 : decode cX1_bestChoice 94 = .ok (.istore 4, 2) := by decide +kernel
theorem dX1_bestChoice_96 : decode cX1_bestChoice 96 = .ok (.aload_n 0, 1) := by decide +kernel
theorem dX1_bestChoice_97 : decode cX1_bestChoice 97 = .ok (.getfield 17, 3) := by decide +kernel
theorem dX1_bestChoice_100 : decode cX1_bestChoice 100 = .ok (.iload_n 2, 1) := by decide +kernel
theorem dX1_bestChoice_101 : decode cX1_bestChoice 101 = .ok (.aaload, 1) := by decide +kernel
theorem dX1_bestChoice_102 : decode cX1_bestChoice 102 = .ok (.iload 6, 2) := by decide +kernel
theorem dX1_bestChoice_104 : decode cX1_bestChoice 104 = .ok (.iload 7, 2) := by decide +kernel
theorem dX1_bestChoice_106 : decode cX1_bestChoice 106 = .ok (.iastore, 1) := by decide +kernel
theorem dX1_bestChoice_107 : decode cX1_bestChoice 107 = .ok (.iinc 5 1, 3) := by decide +kernel
theorem dX1_bestChoice_110 : decode cX1_bestChoice 110 = .ok (.goto (-98), 3) := by decide +kernel
theorem dX1_bestChoice_113 : decode cX1_bestChoice 113 = .ok (.iload 4, 2) := by decide +kernel
theorem dX1_bestChoice_115 : decode cX1_bestChoice 115 = .ok (.ireturn, 1) := by decide +kernel
theorem dX1_choiceAmount_0 : decode cX1_choiceAmount 0 = .ok (.iload_n 0, 1) := by decide +kernel
theorem dX1_choiceAmount_1 : decode cX1_choiceAmount 1 = .ok (.iconst 4, 1) := by decide +kernel
theorem dX1_choiceAmount_2 : decode cX1_choiceAmount 2 = .ok (.idiv, 1) := by decide +kernel
theorem dX1_choiceAmount_3 : decode cX1_choiceAmount 3 = .ok (.iconst 1, 1) := by decide +kernel
theorem dX1_choiceAmount_4 : decode cX1_choiceAmount 4 = .ok (.iadd, 1) := by decide +kernel
theorem dX1_choiceAmount_5 : decode cX1_choiceAmount 5 = .ok (.istore_n 1, 1) := by decide +kernel
theorem dX1_choiceAmount_6 : decode cX1_choiceAmount 6 = .ok (.iload_n 0, 1) := by decide +kernel
theorem dX1_choiceAmount_7 : decode cX1_choiceAmount 7 = .ok (.iconst 2, 1) := by decide +kernel
theorem dX1_choiceAmount_8 : decode cX1_choiceAmount 8 = .ok (.idiv, 1) := by decide +kernel
theorem dX1_choiceAmount_9 : decode cX1_choiceAmount 9 = .ok (.iconst 2, 1) := by decide +kernel
theorem dX1_choiceAmount_10 : decode cX1_choiceAmount 10 = .ok (.irem, 1) := by decide +kernel
theorem dX1_choiceAmount_11 : decode cX1_choiceAmount 11 = .ok (.ifCond .ne 7, 3) := by decide +kernel
theorem dX1_choiceAmount_14 : decode cX1_choiceAmount 14 = .ok (.iload_n 1, 1) := by decide +kernel
theorem dX1_choiceAmount_15 : decode cX1_choiceAmount 15 = .ok (.goto 5, 3) := by decide +kernel
theorem dX1_choiceAmount_18 : decode cX1_choiceAmount 18 = .ok (.iload_n 1, 1) := by decide +kernel
theorem dX1_choiceAmount_19 : decode cX1_choiceAmount 19 = .ok (.ineg, 1) := by decide +kernel
theorem dX1_choiceAmount_20 : decode cX1_choiceAmount 20 = .ok (.ireturn, 1) := by decide +kernel
theorem dX1_choiceRole_0 : decode cX1_choiceRole 0 = .ok (.iload_n 2, 1) := by decide +kernel
theorem dX1_choiceRole_1 : decode cX1_choiceRole 1 = .ok (.iconst 2, 1) := by decide +kernel
theorem dX1_choiceRole_2 : decode cX1_choiceRole 2 = .ok (.irem, 1) := by decide +kernel
theorem dX1_choiceRole_3 : decode cX1_choiceRole 3 = .ok (.ifCond .ne 12, 3) := by decide +kernel
theorem dX1_choiceRole_6 : decode cX1_choiceRole 6 = .ok (.aload_n 0, 1) := by decide +kernel
theorem dX1_choiceRole_7 : decode cX1_choiceRole 7 = .ok (.getfield 27, 3) := by decide +kernel
theorem dX1_choiceRole_10 : decode cX1_choiceRole 10 = .ok (.iload_n 1, 1) := by decide +kernel
theorem dX1_choiceRole_11 : decode cX1_choiceRole 11 = .ok (.iaload, 1) := by decide +kernel
theorem dX1_choiceRole_12 : decode cX1_choiceRole 12 = .ok (.goto 9, 3) := by decide +kernel
theorem dX1_choiceRole_15 : decode cX1_choiceRole 15 = .ok (.aload_n 0, 1) := by decide +kernel
theorem dX1_choiceRole_16 : decode cX1_choiceRole 16 = .ok (.getfield 31, 3) := by decide +kernel
theorem dX1_choiceRole_19 : decode cX1_choiceRole 19 = .ok (.iload_n 1, 1) := by decide +kernel
theorem dX1_choiceRole_20 : decode cX1_choiceRole 20 = .ok (.iaload, 1) := by decide +kernel
theorem dX1_choiceRole_21 : decode cX1_choiceRole 21 = .ok (.ireturn, 1) := by decide +kernel
theorem dX1_mendFirst_0 : decode cX1_mendFirst 0 = .ok (.iconst 0, 1) := by decide +kernel
theorem dX1_mendFirst_1 : decode cX1_mendFirst 1 = .ok (.istore_n 1, 1) := by decide +kernel
theorem dX1_mendFirst_2 : decode cX1_mendFirst 2 = .ok (.iload_n 1, 1) := by decide +kernel
theorem dX1_mendFirst_3 : decode cX1_mendFirst 3 = .ok (.iconst 2, 1) := by decide +kernel
theorem dX1_mendFirst_4 : decode cX1_mendFirst 4 = .ok (.aload_n 0, 1) := by decide +kernel
theorem dX1_mendFirst_5 : decode cX1_mendFirst 5 = .ok (.getfield 24, 3) := by decide +kernel
theorem dX1_mendFirst_8 : decode cX1_mendFirst 8 = .ok (.imul, 1) := by decide +kernel
theorem dX1_mendFirst_9 : decode cX1_mendFirst 9 = .ok (.if_icmp .ge 80, 3) := by decide +kernel
theorem dX1_mendFirst_12 : decode cX1_mendFirst 12 = .ok (.iload_n 1, 1) := by decide +kernel
theorem dX1_mendFirst_13 : decode cX1_mendFirst 13 = .ok (.iconst 2, 1) := by decide +kernel
theorem dX1_mendFirst_14 : decode cX1_mendFirst 14 = .ok (.idiv, 1) := by decide +kernel
theorem dX1_mendFirst_15 : decode cX1_mendFirst 15 = .ok (.istore_n 2, 1) := by decide +kernel
theorem dX1_mendFirst_16 : decode cX1_mendFirst 16 = .ok (.iload_n 1, 1) := by decide +kernel
theorem dX1_mendFirst_17 : decode cX1_mendFirst 17 = .ok (.iconst 2, 1) := by decide +kernel
theorem dX1_mendFirst_18 : decode cX1_mendFirst 18 = .ok (.irem, 1) := by decide +kernel
theorem dX1_mendFirst_19 : decode cX1_mendFirst 19 = .ok (.istore_n 3, 1) := by decide +kernel
theorem dX1_mendFirst_20 : decode cX1_mendFirst 20 = .ok (.aload_n 0, 1) := by decide +kernel
theorem dX1_mendFirst_21 : decode cX1_mendFirst 21 = .ok (.iload_n 2, 1) := by decide +kernel
theorem dX1_mendFirst_22 : decode cX1_mendFirst 22 = .ok (.iload_n 3, 1) := by decide +kernel
theorem dX1_mendFirst_23 : decode cX1_mendFirst 23 = .ok (.invokevirtual 64, 3) := by decide +kernel
theorem dX1_mendFirst_26 : decode cX1_mendFirst 26 = .ok (.ifCond .eq 7, 3) := by decide +kernel
theorem dX1_mendFirst_29 : decode cX1_mendFirst 29 = .ok (.iconst (-1), 1) := by decide +kernel
theorem dX1_mendFirst_30 : decode cX1_mendFirst 30 = .ok (.goto 9, 3) := by decide +kernel
theorem dX1_mendFirst_33 : decode cX1_mendFirst 33 = .ok (.aload_n 0, 1) := by decide +kernel
theorem dX1_mendFirst_34 : decode cX1_mendFirst 34 = .ok (.iload_n 2, 1) := by decide +kernel
theorem dX1_mendFirst_35 : decode cX1_mendFirst 35 = .ok (.iload_n 3, 1) := by decide +kernel
theorem dX1_mendFirst_36 : decode cX1_mendFirst 36 = .ok (.invokevirtual 81, 3) := by decide +kernel
theorem dX1_mendFirst_39 : decode cX1_mendFirst 39 = .ok (.istore 4, 2) := by decide +kernel
theorem dX1_mendFirst_41 : decode cX1_mendFirst 41 = .ok (.iload 4, 2) := by decide +kernel
theorem dX1_mendFirst_43 : decode cX1_mendFirst 43 = .ok (.ifCond .lt 40, 3) := by decide +kernel
theorem dX1_mendFirst_46 : decode cX1_mendFirst 46 = .ok (.aload_n 0, 1) := by decide +kernel
theorem dX1_mendFirst_47 : decode cX1_mendFirst 47 = .ok (.iload_n 2, 1) := by decide +kernel
theorem dX1_mendFirst_48 : decode cX1_mendFirst 48 = .ok (.iload 4, 2) := by decide +kernel
theorem dX1_mendFirst_50 : decode cX1_mendFirst 50 = .ok (.invokevirtual 72, 3) := by decide +kernel
theorem dX1_mendFirst_53 : decode cX1_mendFirst 53 = .ok (.istore 5, 2) := by decide +kernel
theorem dX1_mendFirst_55 : decode cX1_mendFirst 55 = .ok (.aload_n 0, 1) := by decide +kernel
theorem dX1_mendFirst_56 : decode cX1_mendFirst 56 = .ok (.getfield 17, 3) := by decide +kernel
theorem dX1_mendFirst_59 : decode cX1_mendFirst 59 = .ok (.iload_n 3, 1) := by decide +kernel
theorem dX1_mendFirst_60 : decode cX1_mendFirst 60 = .ok (.aaload, 1) := by decide +kernel
theorem dX1_mendFirst_61 : decode cX1_mendFirst 61 = .ok (.iload 5, 2) := by decide +kernel
theorem dX1_mendFirst_63 : decode cX1_mendFirst 63 = .ok (.aload_n 0, 1) := by decide +kernel
theorem dX1_mendFirst_64 : decode cX1_mendFirst 64 = .ok (.getfield 17, 3) := by decide +kernel
theorem dX1_mendFirst_67 : decode cX1_mendFirst 67 = .ok (.iload_n 3, 1) := by decide +kernel
theorem dX1_mendFirst_68 : decode cX1_mendFirst 68 = .ok (.aaload, 1) := by decide +kernel
theorem dX1_mendFirst_69 : decode cX1_mendFirst 69 = .ok (.iload 5, 2) := by decide +kernel
theorem dX1_mendFirst_71 : decode cX1_mendFirst 71 = .ok (.iaload, 1) := by decide +kernel
theorem dX1_mendFirst_72 : decode cX1_mendFirst 72 = .ok (.iload 4, 2) := by decide +kernel
theorem dX1_mendFirst_74 : decode cX1_mendFirst 74 = .ok (.invokestatic 75, 3) := by decide +kernel
theorem dX1_mendFirst_77 : decode cX1_mendFirst 77 = .ok (.invokestatic 78, 3) := by decide +kernel
theorem dX1_mendFirst_80 : decode cX1_mendFirst 80 = .ok (.iastore, 1) := by decide +kernel
theorem dX1_mendFirst_81 : decode cX1_mendFirst 81 = .ok (.iconst 1, 1) := by decide +kernel
theorem dX1_mendFirst_82 : decode cX1_mendFirst 82 = .ok (.ireturn, 1) := by decide +kernel
theorem dX1_mendFirst_83 : decode cX1_mendFirst 83 = .ok (.iinc 1 1, 3) := by decide +kernel
theorem dX1_mendFirst_86 : decode cX1_mendFirst 86 = .ok (.goto (-84), 3) := by decide +kernel
theorem dX1_mendFirst_89 : decode cX1_mendFirst 89 = .ok (.iconst 0, 1) := by decide +kernel
theorem dX1_mendFirst_90 : decode cX1_mendFirst 90 = .ok (.ireturn, 1) := by decide +kernel
theorem dX2_init_0 : decode cX2_init 0 = .ok (.aload_n 0, 1) := by decide +kernel
theorem dX2_init_1 : decode cX2_init 1 = .ok (.invokespecial 3, 3) := by decide +kernel
theorem dX2_init_4 : decode cX2_init 4 = .ok (.aload_n 0, 1) := by decide +kernel
theorem dX2_init_5 : decode cX2_init 5 = .ok (.iconst (-1), 1) := by decide +kernel
theorem dX2_init_6 : decode cX2_init 6 = .ok (.putfield 11, 3) := by decide +kernel
theorem dX2_init_9 : decode cX2_init 9 = .ok (.aload_n 0, 1) := by decide +kernel
theorem dX2_init_10 : decode cX2_init 10 = .ok (.iconst 0, 1) := by decide +kernel
theorem dX2_init_11 : decode cX2_init 11 = .ok (.putfield 15, 3) := by decide +kernel
theorem dX2_init_14 : decode cX2_init 14 = .ok (.aload_n 0, 1) := by decide +kernel
theorem dX2_init_15 : decode cX2_init 15 = .ok (.iconst 0, 1) := by decide +kernel
theorem dX2_init_16 : decode cX2_init 16 = .ok (.putfield 18, 3) := by decide +kernel
theorem dX2_init_19 : decode cX2_init 19 = .ok (.aload_n 0, 1) := by decide +kernel
theorem dX2_init_20 : decode cX2_init 20 = .ok (.aload_n 1, 1) := by decide +kernel
theorem dX2_init_21 : decode cX2_init 21 = .ok (.putfield 21, 3) := by decide +kernel
theorem dX2_init_24 : decode cX2_init 24 = .ok (.return_, 1) := by decide +kernel
theorem dX2_forget_0 : decode cX2_forget 0 = .ok (.aload_n 0, 1) := by decide +kernel
theorem dX2_forget_1 : decode cX2_forget 1 = .ok (.iconst (-1), 1) := by decide +kernel
theorem dX2_forget_2 : decode cX2_forget 2 = .ok (.putfield 11, 3) := by decide +kernel
theorem dX2_forget_5 : decode cX2_forget 5 = .ok (.return_, 1) := by decide +kernel
theorem dX2_isThere_0 : decode cX2_isThere 0 = .ok (.aload_n 0, 1) := by decide +kernel
theorem dX2_isThere_1 : decode cX2_isThere 1 = .ok (.getfield 11, 3) := by decide +kernel
theorem dX2_isThere_4 : decode cX2_isThere 4 = .ok (.iconst (-1), 1) := by decide +kernel
theorem dX2_isThere_5 : decode cX2_isThere 5 = .ok (.if_icmp .eq 7, 3) := by decide +kernel
theorem dX2_isThere_8 : decode cX2_isThere 8 = .ok (.iconst 1, 1) := by decide +kernel
theorem dX2_isThere_9 : decode cX2_isThere 9 = .ok (.goto 4, 3) := by decide +kernel
theorem dX2_isThere_12 : decode cX2_isThere 12 = .ok (.iconst 0, 1) := by decide +kernel
theorem dX2_isThere_13 : decode cX2_isThere 13 = .ok (.ireturn, 1) := by decide +kernel
theorem dX2_readSum_0 : decode cX2_readSum 0 = .ok (.aload_n 0, 1) := by decide +kernel
theorem dX2_readSum_1 : decode cX2_readSum 1 = .ok (.aload_n 0, 1) := by decide +kernel
theorem dX2_readSum_2 : decode cX2_readSum 2 = .ok (.getfield 21, 3) := by decide +kernel
theorem dX2_readSum_5 : decode cX2_readSum 5 = .ok (.invokevirtual 25, 3) := by decide +kernel
theorem dX2_readSum_8 : decode cX2_readSum 8 = .ok (.putfield 11, 3) := by decide +kernel
theorem dX2_readSum_11 : decode cX2_readSum 11 = .ok (.aload_n 0, 1) := by decide +kernel
theorem dX2_readSum_12 : decode cX2_readSum 12 = .ok (.getfield 21, 3) := by decide +kernel
theorem dX2_readSum_15 : decode cX2_readSum 15 = .ok (.invokevirtual 31, 3) := by decide +kernel
theorem dX2_readSum_18 : decode cX2_readSum 18 = .ok (.aload_n 0, 1) := by decide +kernel
theorem dX2_readSum_19 : decode cX2_readSum 19 = .ok (.iconst 0, 1) := by decide +kernel
theorem dX2_readSum_20 : decode cX2_readSum 20 = .ok (.invokevirtual 34, 3) := by decide +kernel
theorem dX2_readSum_23 : decode cX2_readSum 23 = .ok (.pop, 1) := by decide +kernel
theorem dX2_readSum_24 : decode cX2_readSum 24 = .ok (.return_, 1) := by decide +kernel
theorem dX2_textNeed_0 : decode cX2_textNeed 0 = .ok (.aload_n 0, 1) := by decide +kernel
theorem dX2_textNeed_1 : decode cX2_textNeed 1 = .ok (.getfield 11, 3) := by decide +kernel
theorem dX2_textNeed_4 : decode cX2_textNeed 4 = .ok (.iconst (-1), 1) := by decide +kernel
theorem dX2_textNeed_5 : decode cX2_textNeed 5 = .ok (.if_icmp .ne 7, 3) := by decide +kernel
theorem dX2_textNeed_8 : decode cX2_textNeed 8 = .ok (.sipush 450, 3) := by decide +kernel
theorem dX2_textNeed_11 : decode cX2_textNeed 11 = .ok (.ireturn, 1) := by decide +kernel
theorem dX2_textNeed_12 : decode cX2_textNeed 12 = .ok (.aload_n 0, 1) := by decide +kernel
theorem dX2_textNeed_13 : decode cX2_textNeed 13 = .ok (.iload_n 1, 1) := by decide +kernel
theorem dX2_textNeed_14 : decode cX2_textNeed 14 = .ok (.putfield 15, 3) := by decide +kernel
theorem dX2_textNeed_17 : decode cX2_textNeed 17 = .ok (.aload_n 0, 1) := by decide +kernel
theorem dX2_textNeed_18 : decode cX2_textNeed 18 = .ok (.iload_n 2, 1) := by decide +kernel
theorem dX2_textNeed_19 : decode cX2_textNeed 19 = .ok (.putfield 18, 3) := by decide +kernel
theorem dX2_textNeed_22 : decode cX2_textNeed 22 = .ok (.aload_n 0, 1) := by decide +kernel
theorem dX2_textNeed_23 : decode cX2_textNeed 23 = .ok (.getfield 21, 3) := by decide +kernel
theorem dX2_textNeed_26 : decode cX2_textNeed 26 = .ok (.aload_n 0, 1) := by decide +kernel
theorem dX2_textNeed_27 : decode cX2_textNeed 27 = .ok (.getfield 11, 3) := by decide +kernel
theorem dX2_textNeed_30 : decode cX2_textNeed 30 = .ok (.invokevirtual 38, 3) := by decide +kernel
theorem dX2_textNeed_33 : decode cX2_textNeed 33 = .ok (.aload_n 0, 1) := by decide +kernel
theorem dX2_textNeed_34 : decode cX2_textNeed 34 = .ok (.iconst 0, 1) := by decide +kernel
theorem dX2_textNeed_35 : decode cX2_textNeed 35 = .ok (.invokevirtual 34, 3) := by decide +kernel
theorem dX2_textNeed_38 : decode cX2_textNeed 38 = .ok (.bipush 100, 2) := by decide +kernel
theorem dX2_textNeed_40 : decode cX2_textNeed 40 = .ok (.sipush 2100, 3) := by decide +kernel
theorem dX2_textNeed_43 : decode cX2_textNeed 43 = .ok (.invokestatic 42, 3) := by decide +kernel
theorem dX2_textNeed_46 : decode cX2_textNeed 46 = .ok (.ireturn, 1) := by decide +kernel
theorem dX2_sum_0 : decode cX2_sum 0 = .ok (.aload_n 0, 1) := by decide +kernel
theorem dX2_sum_1 : decode cX2_sum 1 = .ok (.iload_n 1, 1) := by decide +kernel
theorem dX2_sum_2 : decode cX2_sum 2 = .ok (.invokevirtual 46, 3) := by decide +kernel
theorem dX2_sum_5 : decode cX2_sum 5 = .ok (.istore_n 2, 1) := by decide +kernel
theorem dX2_sum_6 : decode cX2_sum 6 = .ok (.iconst 0, 1) := by decide +kernel
theorem dX2_sum_7 : decode cX2_sum 7 = .ok (.istore_n 3, 1) := by decide +kernel
theorem dX2_sum_8 : decode cX2_sum 8 = .ok (.iload_n 3, 1) := by decide +kernel
theorem dX2_sum_9 : decode cX2_sum 9 = .ok (.sipush 700, 3) := by decide +kernel
theorem dX2_sum_12 : decode cX2_sum 12 = .ok (.if_icmp .ge 66, 3) := by decide +kernel
theorem dX2_sum_15 : decode cX2_sum 15 = .ok (.aload_n 0, 1) := by decide +kernel
theorem dX2_sum_16 : decode cX2_sum 16 = .ok (.getfield 21, 3) := by decide +kernel
theorem dX2_sum_19 : decode cX2_sum 19 = .ok (.bipush 43, 2) := by decide +kernel
theorem dX2_sum_21 : decode cX2_sum 21 = .ok (.invokevirtual 49, 3) := by decide +kernel
theorem dX2_sum_24 : decode cX2_sum 24 = .ok (.ifCond .eq 21, 3) := by decide +kernel
theorem dX2_sum_27 : decode cX2_sum 27 = .ok (.iload_n 2, 1) := by decide +kernel
theorem dX2_sum_28 : decode cX2_sum 28 = .ok (.aload_n 0, 1) := by decide +kernel
theorem dX2_sum_29 : decode cX2_sum 29 = .ok (.iload_n 1, 1) := by decide +kernel
theorem dX2_sum_30 : decode cX2_sum 30 = .ok (.invokevirtual 46, 3) := by decide +kernel
theorem dX2_sum_33 : decode cX2_sum 33 = .ok (.iadd, 1) := by decide +kernel
theorem dX2_sum_34 : decode cX2_sum 34 = .ok (.ldc 53, 2) := by decide +kernel
theorem dX2_sum_36 : decode cX2_sum 36 = .ok (.ldc 54, 2) := by decide +kernel
theorem dX2_sum_38 : decode cX2_sum 38 = .ok (.invokestatic 42, 3) := by decide +kernel
theorem dX2_sum_41 : decode cX2_sum 41 = .ok (.istore_n 2, 1) := by decide +kernel
theorem dX2_sum_42 : decode cX2_sum 42 = .ok (.goto 30, 3) := by decide +kernel
theorem dX2_sum_45 : decode cX2_sum 45 = .ok (.aload_n 0, 1) := by decide +kernel
theorem dX2_sum_46 : decode cX2_sum 46 = .ok (.getfield 21, 3) := by decide +kernel
theorem dX2_sum_49 : decode cX2_sum 49 = .ok (.bipush 45, 2) := by decide +kernel
theorem dX2_sum_51 : decode cX2_sum 51 = .ok (.invokevirtual 49, 3) := by decide +kernel
theorem dX2_sum_54 : decode cX2_sum 54 = .ok (.ifCond .eq 24, 3) := by decide +kernel
theorem dX2_sum_57 : decode cX2_sum 57 = .ok (.iload_n 2, 1) := by decide +kernel
theorem dX2_sum_58 : decode cX2_sum 58 = .ok (.aload_n 0, 1) := by decide +kernel
theorem dX2_sum_59 : decode cX2_sum 59 = .ok (.iload_n 1, 1) := by decide +kernel
theorem dX2_sum_60 : decode cX2_sum 60 = .ok (.invokevirtual 46, 3) := by decide +kernel
theorem dX2_sum_63 : decode cX2_sum 63 = .ok (.isub, 1) := by decide +kernel
theorem dX2_sum_64 : decode cX2_sum 64 = .ok (.ldc 53, 2) := by decide +kernel
theorem dX2_sum_66 : decode cX2_sum 66 = .ok (.ldc 54, 2) := by decide +kernel
theorem dX2_sum_68 : decode cX2_sum 68 = .ok (.invokestatic 42, 3) := by decide +kernel
theorem dX2_sum_71 : decode cX2_sum 71 = .ok (.istore_n 2, 1) := by decide +kernel
theorem dX2_sum_72 : decode cX2_sum 72 = .ok (.iinc 3 1, 3) := by decide +kernel
theorem dX2_sum_75 : decode cX2_sum 75 = .ok (.goto (-67), 3) := by decide +kernel
theorem dX2_sum_78 : decode cX2_sum 78 = .ok (.iload_n 2, 1) := by decide +kernel
theorem dX2_sum_79 : decode cX2_sum 79 = .ok (.ireturn, 1) := by decide +kernel
theorem dX2_term_0 : decode cX2_term 0 = .ok (.aload_n 0, 1) := by decide +kernel
theorem dX2_term_1 : decode cX2_term 1 = .ok (.iload_n 1, 1) := by decide +kernel
theorem dX2_term_2 : decode cX2_term 2 = .ok (.invokevirtual 55, 3) := by decide +kernel
theorem dX2_term_5 : decode cX2_term 5 = .ok (.istore_n 2, 1) := by decide +kernel
theorem dX2_term_6 : decode cX2_term 6 = .ok (.iconst 0, 1) := by decide +kernel
theorem dX2_term_7 : decode cX2_term 7 = .ok (.istore_n 3, 1) := by decide +kernel
theorem dX2_term_8 : decode cX2_term 8 = .ok (.iload_n 3, 1) := by decide +kernel
theorem dX2_term_9 : decode cX2_term 9 = .ok (.sipush 700, 3) := by decide +kernel
theorem dX2_term_12 : decode cX2_term 12 = .ok (.if_icmp .ge 56, 3) := by decide +kernel
theorem dX2_term_15 : decode cX2_term 15 = .ok (.aload_n 0, 1) := by decide +kernel
theorem dX2_term_16 : decode cX2_term 16 = .ok (.getfield 21, 3) := by decide +kernel
theorem dX2_term_19 : decode cX2_term 19 = .ok (.bipush 42, 2) := by decide +kernel
theorem dX2_term_21 : decode cX2_term 21 = .ok (.invokevirtual 49, 3) := by decide +kernel
theorem dX2_term_24 : decode cX2_term 24 = .ok (.ifCond .eq 16, 3) := by decide +kernel
theorem dX2_term_27 : decode cX2_term 27 = .ok (.iload_n 2, 1) := by decide +kernel
theorem dX2_term_28 : decode cX2_term 28 = .ok (.aload_n 0, 1) := by decide +kernel
theorem dX2_term_29 : decode cX2_term 29 = .ok (.iload_n 1, 1) := by decide +kernel
theorem dX2_term_30 : decode cX2_term 30 = .ok (.invokevirtual 55, 3) := by decide +kernel
theorem dX2_term_33 : decode cX2_term 33 = .ok (.invokestatic 58, 3) := by decide +kernel
theorem dX2_term_36 : decode cX2_term 36 = .ok (.istore_n 2, 1) := by decide +kernel
theorem dX2_term_37 : decode cX2_term 37 = .ok (.goto 25, 3) := by decide +kernel
theorem dX2_term_40 : decode cX2_term 40 = .ok (.aload_n 0, 1) := by decide +kernel
theorem dX2_term_41 : decode cX2_term 41 = .ok (.getfield 21, 3) := by decide +kernel
theorem dX2_term_44 : decode cX2_term 44 = .ok (.bipush 47, 2) := by decide +kernel
theorem dX2_term_46 : decode cX2_term 46 = .ok (.invokevirtual 49, 3) := by decide +kernel
theorem dX2_term_49 : decode cX2_term 49 = .ok (.ifCond .eq 19, 3) := by decide +kernel
theorem dX2_term_52 : decode cX2_term 52 = .ok (.iload_n 2, 1) := by decide +kernel
theorem dX2_term_53 : decode cX2_term 53 = .ok (.aload_n 0, 1) := by decide +kernel
theorem dX2_term_54 : decode cX2_term 54 = .ok (.iload_n 1, 1) := by decide +kernel
theorem dX2_term_55 : decode cX2_term 55 = .ok (.invokevirtual 55, 3) := by decide +kernel
theorem dX2_term_58 : decode cX2_term 58 = .ok (.invokestatic 62, 3) := by decide +kernel
theorem dX2_term_61 : decode cX2_term 61 = .ok (.istore_n 2, 1) := by decide +kernel
theorem dX2_term_62 : decode cX2_term 62 = .ok (.iinc 3 1, 3) := by decide +kernel
theorem dX2_term_65 : decode cX2_term 65 = .ok (.goto (-57), 3) := by decide +kernel
theorem dX2_term_68 : decode cX2_term 68 = .ok (.iload_n 2, 1) := by decide +kernel
theorem dX2_term_69 : decode cX2_term 69 = .ok (.ireturn, 1) := by decide +kernel
theorem dX2_factor_0 : decode cX2_factor 0 = .ok (.aload_n 0, 1) := by decide +kernel
theorem dX2_factor_1 : decode cX2_factor 1 = .ok (.getfield 21, 3) := by decide +kernel
theorem dX2_factor_4 : decode cX2_factor 4 = .ok (.invokevirtual 65, 3) := by decide +kernel
theorem dX2_factor_7 : decode cX2_factor 7 = .ok (.ifCond .eq 15, 3) := by decide +kernel
theorem dX2_factor_10 : decode cX2_factor 10 = .ok (.aload_n 0, 1) := by decide +kernel
theorem dX2_factor_11 : decode cX2_factor 11 = .ok (.getfield 21, 3) := by decide +kernel
theorem dX2_factor_14 : decode cX2_factor 14 = .ok (.iconst 0, 1) := by decide +kernel
theorem dX2_factor_15 : decode cX2_factor 15 = .ok (.sipush 9999, 3) := by decide +kernel
theorem dX2_factor_18 : decode cX2_factor 18 = .ok (.invokevirtual 69, 3) := by decide +kernel
theorem dX2_factor_21 : decode cX2_factor 21 = .ok (.ireturn, 1) := by decide +kernel
theorem dX2_factor_22 : decode cX2_factor 22 = .ok (.aload_n 0, 1) := by decide +kernel
theorem dX2_factor_23 : decode cX2_factor 23 = .ok (.getfield 21, 3) := by decide +kernel
theorem dX2_factor_26 : decode cX2_factor 26 = .ok (.ldc 72, 2) := by decide +kernel
theorem dX2_factor_28 : decode cX2_factor 28 = .ok (.invokevirtual 73, 3) := by decide +kernel
theorem dX2_factor_31 : decode cX2_factor 31 = .ok (.ifCond .eq 8, 3) := by decide +kernel
theorem dX2_factor_34 : decode cX2_factor 34 = .ok (.aload_n 0, 1) := by decide +kernel
theorem dX2_factor_35 : decode cX2_factor 35 = .ok (.getfield 15, 3) := by decide +kernel
theorem dX2_factor_38 : decode cX2_factor 38 = .ok (.ireturn, 1) := by decide +kernel
theorem dX2_factor_39 : decode cX2_factor 39 = .ok (.aload_n 0, 1) := by decide +kernel
theorem dX2_factor_40 : decode cX2_factor 40 = .ok (.getfield 21, 3) := by decide +kernel
theorem dX2_factor_43 : decode cX2_factor 43 = .ok (.ldc 77, 2) := by decide +kernel
theorem dX2_factor_45 : decode cX2_factor 45 = .ok (.invokevirtual 73, 3) := by decide +kernel
theorem dX2_factor_48 : decode cX2_factor 48 = .ok (.ifCond .eq 8, 3) := by decide +kernel
theorem dX2_factor_51 : decode cX2_factor 51 = .ok (.aload_n 0, 1) := by decide +kernel
theorem dX2_factor_52 : decode cX2_factor 52 = .ok (.getfield 18, 3) := by decide +kernel
theorem dX2_factor_55 : decode cX2_factor 55 = .ok (.ireturn, 1) := by decide +kernel
theorem dX2_factor_56 : decode cX2_factor 56 = .ok (.aload_n 0, 1) := by decide +kernel
theorem dX2_factor_57 : decode cX2_factor 57 = .ok (.getfield 21, 3) := by decide +kernel
theorem dX2_factor_60 : decode cX2_factor 60 = .ok (.bipush 40, 2) := by decide +kernel
theorem dX2_factor_62 : decode cX2_factor 62 = .ok (.invokevirtual 78, 3) := by decide +kernel
theorem dX2_factor_65 : decode cX2_factor 65 = .ok (.ifCond .ne 14, 3) := by decide +kernel
theorem dX2_factor_68 : decode cX2_factor 68 = .ok (.aload_n 0, 1) := by decide +kernel
theorem dX2_factor_69 : decode cX2_factor 69 = .ok (.getfield 21, 3) := by decide +kernel
theorem dX2_factor_72 : decode cX2_factor 72 = .ok (.bipush (-2), 2) := by decide +kernel
theorem dX2_factor_74 : decode cX2_factor 74 = .ok (.invokevirtual 81, 3) := by decide +kernel
theorem dX2_factor_77 : decode cX2_factor 77 = .ok (.iconst 0, 1) := by decide +kernel
theorem dX2_factor_78 : decode cX2_factor 78 = .ok (.ireturn, 1) := by decide +kernel
theorem dX2_factor_79 : decode cX2_factor 79 = .ok (.iload_n 1, 1) := by decide +kernel
theorem dX2_factor_80 : decode cX2_factor 80 = .ok (.iconst 4, 1) := by decide +kernel
theorem dX2_factor_81 : decode cX2_factor 81 = .ok (.if_icmp .lt 14, 3) := by decide +kernel
theorem dX2_factor_84 : decode cX2_factor 84 = .ok (.aload_n 0, 1) := by decide +kernel
theorem dX2_factor_85 : decode cX2_factor 85 = .ok (.getfield 21, 3) := by decide +kernel
theorem dX2_factor_88 : decode cX2_factor 88 = .ok (.bipush (-5), 2) := by decide +kernel
theorem dX2_factor_90 : decode cX2_factor 90 = .ok (.invokevirtual 81, 3) := by decide +kernel
theorem dX2_factor_93 : decode cX2_factor 93 = .ok (.iconst 0, 1) := by decide +kernel
theorem dX2_factor_94 : decode cX2_factor 94 = .ok (.ireturn, 1) := by decide +kernel
theorem dX2_factor_95 : decode cX2_factor 95 = .ok (.aload_n 0, 1) := by decide +kernel
theorem dX2_factor_96 : decode cX2_factor 96 = .ok (.getfield 21, 3) := by decide +kernel
theorem dX2_factor_99 : decode cX2_factor 99 = .ok (.invokevirtual 31, 3) := by decide +kernel
theorem dX2_factor_102 : decode cX2_factor 102 = .ok (.aload_n 0, 1) := by decide +kernel
theorem dX2_factor_103 : decode cX2_factor 103 = .ok (.iload_n 1, 1) := by decide +kernel
theorem dX2_factor_104 : decode cX2_factor 104 = .ok (.iconst 1, 1) := by decide +kernel
theorem dX2_factor_105 : decode cX2_factor 105 = .ok (.iadd, 1) := by decide +kernel
theorem dX2_factor_106 : decode cX2_factor 106 = .ok (.invokevirtual 34, 3) := by decide +kernel
theorem dX2_factor_109 : decode cX2_factor 109 = .ok (.istore_n 2, 1) := by decide +kernel
theorem dX2_factor_110 : decode cX2_factor 110 = .ok (.aload_n 0, 1) := by decide +kernel
theorem dX2_factor_111 : decode cX2_factor 111 = .ok (.getfield 21, 3) := by decide +kernel
theorem dX2_factor_114 : decode cX2_factor 114 = .ok (.bipush 41, 2) := by decide +kernel
theorem dX2_factor_116 : decode cX2_factor 116 = .ok (.invokevirtual 84, 3) := by decide +kernel
theorem dX2_factor_119 : decode cX2_factor 119 = .ok (.iload_n 2, 1) := by decide +kernel
theorem dX2_factor_120 : decode cX2_factor 120 = .ok (.ireturn, 1) := by decide +kernel
theorem dX2_product_0 : decode cX2_product 0 = .ok (.iload_n 0, 1) := by decide +kernel
theorem dX2_product_1 : decode cX2_product 1 = .ok (.i2l, 1) := by decide +kernel
theorem dX2_product_2 : decode cX2_product 2 = .ok (.iload_n 1, 1) := by decide +kernel
theorem dX2_product_3 : decode cX2_product 3 = .ok (.i2l, 1) := by decide +kernel
theorem dX2_product_4 : decode cX2_product 4 = .ok (.lmul, 1) := by decide +kernel
theorem dX2_product_5 : decode cX2_product 5 = .ok (.lstore_n 2, 1) := by decide +kernel
theorem dX2_product_6 : decode cX2_product 6 = .ok (.ldc2_w 88, 3) := by decide +kernel
theorem dX2_product_9 : decode cX2_product 9 = .ok (.ldc2_w 90, 3) := by decide +kernel
theorem dX2_product_12 : decode cX2_product 12 = .ok (.lload_n 2, 1) := by decide +kernel
theorem dX2_product_13 : decode cX2_product 13 = .ok (.invokestatic 92, 3) := by decide +kernel
theorem dX2_product_16 : decode cX2_product 16 = .ok (.invokestatic 98, 3) := by decide +kernel
theorem dX2_product_19 : decode cX2_product 19 = .ok (.l2i, 1) := by decide +kernel
theorem dX2_product_20 : decode cX2_product 20 = .ok (.ireturn, 1) := by decide +kernel
theorem dX2_quotient_0 : decode cX2_quotient 0 = .ok (.iload_n 1, 1) := by decide +kernel
theorem dX2_quotient_1 : decode cX2_quotient 1 = .ok (.ifCond .ne 7, 3) := by decide +kernel
theorem dX2_quotient_4 : decode cX2_quotient 4 = .ok (.iconst 0, 1) := by decide +kernel
theorem dX2_quotient_5 : decode cX2_quotient 5 = .ok (.goto 6, 3) := by decide +kernel
theorem dX2_quotient_8 : decode cX2_quotient 8 = .ok (.iload_n 0, 1) := by decide +kernel
theorem dX2_quotient_9 : decode cX2_quotient 9 = .ok (.iload_n 1, 1) := by decide +kernel
theorem dX2_quotient_10 : decode cX2_quotient 10 = .ok (.idiv, 1) := by decide +kernel
theorem dX2_quotient_11 : decode cX2_quotient 11 = .ok (.ireturn, 1) := by decide +kernel
theorem dX3_init_0 : decode cX3_init 0 = .ok (.aload_n 0, 1) := by decide +kernel
theorem dX3_init_1 : decode cX3_init 1 = .ok (.invokespecial 3, 3) := by decide +kernel
theorem dX3_init_4 : decode cX3_init 4 = .ok (.aload_n 0, 1) := by decide +kernel
theorem dX3_init_5 : decode cX3_init 5 = .ok (.bipush 8, 2) := by decide +kernel
theorem dX3_init_7 : decode cX3_init 7 = .ok (.anewarray 9, 3) := by decide +kernel
theorem dX3_init_10 : decode cX3_init 10 = .ok (.putfield 11, 3) := by decide +kernel
theorem dX3_init_13 : decode cX3_init 13 = .ok (.aload_n 0, 1) := by decide +kernel
theorem dX3_init_14 : decode cX3_init 14 = .ok (.iconst 0, 1) := by decide +kernel
theorem dX3_init_15 : decode cX3_init 15 = .ok (.putfield 17, 3) := by decide +kernel
theorem dX3_init_18 : decode cX3_init 18 = .ok (.aload_n 0, 1) := by decide +kernel
theorem dX3_init_19 : decode cX3_init 19 = .ok (.iconst 0, 1) := by decide +kernel
theorem dX3_init_20 : decode cX3_init 20 = .ok (.putfield 21, 3) := by decide +kernel
theorem dX3_init_23 : decode cX3_init 23 = .ok (.iconst 0, 1) := by decide +kernel
theorem dX3_init_24 : decode cX3_init 24 = .ok (.istore_n 1, 1) := by decide +kernel
theorem dX3_init_25 : decode cX3_init 25 = .ok (.iload_n 1, 1) := by decide +kernel
theorem dX3_init_26 : decode cX3_init 26 = .ok (.bipush 8, 2) := by decide +kernel
theorem dX3_init_28 : decode cX3_init 28 = .ok (.if_icmp .ge 22, 3) := by decide +kernel
theorem dX3_init_31 : decode cX3_init 31 = .ok (.aload_n 0, 1) := by decide +kernel
theorem dX3_init_32 : decode cX3_init 32 = .ok (.getfield 11, 3) := by decide +kernel
theorem dX3_init_35 : decode cX3_init 35 = .ok (.iload_n 1, 1) := by decide +kernel
theorem dX3_init_36 : decode cX3_init 36 = .ok (.new 9, 3) := by decide +kernel
theorem dX3_init_39 : decode cX3_init 39 = .ok (.dup, 1) := by decide +kernel
theorem dX3_init_40 : decode cX3_init 40 = .ok (.invokespecial 24, 3) := by decide +kernel
theorem dX3_init_43 : decode cX3_init 43 = .ok (.aastore, 1) := by decide +kernel
theorem dX3_init_44 : decode cX3_init 44 = .ok (.iinc 1 1, 3) := by decide +kernel
theorem dX3_init_47 : decode cX3_init 47 = .ok (.goto (-22), 3) := by decide +kernel
theorem dX3_init_50 : decode cX3_init 50 = .ok (.return_, 1) := by decide +kernel
theorem dX3_keep_0 : decode cX3_keep 0 = .ok (.aload_n 0, 1) := by decide +kernel
theorem dX3_keep_1 : decode cX3_keep 1 = .ok (.getfield 11, 3) := by decide +kernel
theorem dX3_keep_4 : decode cX3_keep 4 = .ok (.aload_n 0, 1) := by decide +kernel
theorem dX3_keep_5 : decode cX3_keep 5 = .ok (.getfield 17, 3) := by decide +kernel
theorem dX3_keep_8 : decode cX3_keep 8 = .ok (.aaload, 1) := by decide +kernel
theorem dX3_keep_9 : decode cX3_keep 9 = .ok (.aload_n 1, 1) := by decide +kernel
theorem dX3_keep_10 : decode cX3_keep 10 = .ok (.invokevirtual 25, 3) := by decide +kernel
theorem dX3_keep_13 : decode cX3_keep 13 = .ok (.aload_n 0, 1) := by decide +kernel
theorem dX3_keep_14 : decode cX3_keep 14 = .ok (.aload_n 0, 1) := by decide +kernel
theorem dX3_keep_15 : decode cX3_keep 15 = .ok (.getfield 17, 3) := by decide +kernel
theorem dX3_keep_18 : decode cX3_keep 18 = .ok (.iconst 1, 1) := by decide +kernel
theorem dX3_keep_19 : decode cX3_keep 19 = .ok (.iadd, 1) := by decide +kernel
theorem dX3_keep_20 : decode cX3_keep 20 = .ok (.bipush 8, 2) := by decide +kernel
theorem dX3_keep_22 : decode cX3_keep 22 = .ok (.irem, 1) := by decide +kernel
theorem dX3_keep_23 : decode cX3_keep 23 = .ok (.putfield 17, 3) := by decide +kernel
theorem dX3_keep_26 : decode cX3_keep 26 = .ok (.aload_n 0, 1) := by decide +kernel
theorem dX3_keep_27 : decode cX3_keep 27 = .ok (.aload_n 0, 1) := by decide +kernel
theorem dX3_keep_28 : decode cX3_keep 28 = .ok (.getfield 21, 3) := by decide +kernel
theorem dX3_keep_31 : decode cX3_keep 31 = .ok (.iconst 1, 1) := by decide +kernel
theorem dX3_keep_32 : decode cX3_keep 32 = .ok (.iadd, 1) := by decide +kernel
theorem dX3_keep_33 : decode cX3_keep 33 = .ok (.bipush 8, 2) := by decide +kernel
theorem dX3_keep_35 : decode cX3_keep 35 = .ok (.invokestatic 29, 3) := by decide +kernel
theorem dX3_keep_38 : decode cX3_keep 38 = .ok (.putfield 21, 3) := by decide +kernel
theorem dX3_keep_41 : decode cX3_keep 41 = .ok (.return_, 1) := by decide +kernel
theorem dX3_takeBack_0 : decode cX3_takeBack 0 = .ok (.aload_n 0, 1) := by decide +kernel
theorem dX3_takeBack_1 : decode cX3_takeBack 1 = .ok (.getfield 21, 3) := by decide +kernel
theorem dX3_takeBack_4 : decode cX3_takeBack 4 = .ok (.ifCond .le 42, 3) := by decide +kernel
theorem dX3_takeBack_7 : decode cX3_takeBack 7 = .ok (.aload_n 0, 1) := by decide +kernel
theorem dX3_takeBack_8 : decode cX3_takeBack 8 = .ok (.dup, 1) := by decide +kernel
theorem dX3_takeBack_9 : decode cX3_takeBack 9 = .ok (.getfield 21, 3) := by decide +kernel
theorem dX3_takeBack_12 : decode cX3_takeBack 12 = .ok (.iconst 1, 1) := by decide +kernel
theorem dX3_takeBack_13 : decode cX3_takeBack 13 = .ok (.isub, 1) := by decide +kernel
theorem dX3_takeBack_14 : decode cX3_takeBack 14 = .ok (.putfield 21, 3) := by decide +kernel
theorem dX3_takeBack_17 : decode cX3_takeBack 17 = .ok (.aload_n 0, 1) := by decide +kernel
theorem dX3_takeBack_18 : decode cX3_takeBack 18 = .ok (.aload_n 0, 1) := by decide +kernel
theorem dX3_takeBack_19 : decode cX3_takeBack 19 = .ok (.getfield 17, 3) := by decide +kernel
theorem dX3_takeBack_22 : decode cX3_takeBack 22 = .ok (.bipush 8, 2) := by decide +kernel
theorem dX3_takeBack_24 : decode cX3_takeBack 24 = .ok (.iadd, 1) := by decide +kernel
theorem dX3_takeBack_25 : decode cX3_takeBack 25 = .ok (.iconst 1, 1) := by decide +kernel
theorem dX3_takeBack_26 : decode cX3_takeBack 26 = .ok (.isub, 1) := by decide +kernel
theorem dX3_takeBack_27 : decode cX3_takeBack 27 = .ok (.bipush 8, 2) := by decide +kernel
theorem dX3_takeBack_29 : decode cX3_takeBack 29 = .ok (.irem, 1) := by decide +kernel
theorem dX3_takeBack_30 : decode cX3_takeBack 30 = .ok (.putfield 17, 3) := by decide +kernel
theorem dX3_takeBack_33 : decode cX3_takeBack 33 = .ok (.aload_n 1, 1) := by decide +kernel
theorem dX3_takeBack_34 : decode cX3_takeBack 34 = .ok (.aload_n 0, 1) := by decide +kernel
theorem dX3_takeBack_35 : decode cX3_takeBack 35 = .ok (.getfield 11, 3) := by decide +kernel
theorem dX3_takeBack_38 : decode cX3_takeBack 38 = .ok (.aload_n 0, 1) := by decide +kernel
theorem dX3_takeBack_39 : decode cX3_takeBack 39 = .ok (.getfield 17, 3) := by decide +kernel
theorem dX3_takeBack_42 : decode cX3_takeBack 42 = .ok (.aaload, 1) := by decide +kernel
theorem dX3_takeBack_43 : decode cX3_takeBack 43 = .ok (.invokevirtual 25, 3) := by decide +kernel
theorem dX3_takeBack_46 : decode cX3_takeBack 46 = .ok (.return_, 1) := by decide +kernel
theorem dX4_init_0 : decode cX4_init 0 = .ok (.aload_n 0, 1) := by decide +kernel
theorem dX4_init_1 : decode cX4_init 1 = .ok (.invokespecial 3, 3) := by decide +kernel
theorem dX4_init_4 : decode cX4_init 4 = .ok (.aload_n 0, 1) := by decide +kernel
theorem dX4_init_5 : decode cX4_init 5 = .ok (.bipush 12, 2) := by decide +kernel
theorem dX4_init_7 : decode cX4_init 7 = .ok (.newarray .int, 2) := by decide +kernel
theorem dX4_init_9 : decode cX4_init 9 = .ok (.putfield 9, 3) := by decide +kernel
theorem dX4_init_12 : decode cX4_init 12 = .ok (.aload_n 0, 1) := by decide +kernel
theorem dX4_init_13 : decode cX4_init 13 = .ok (.iconst (-1), 1) := by decide +kernel
theorem dX4_init_14 : decode cX4_init 14 = .ok (.putfield 15, 3) := by decide +kernel
theorem dX4_init_17 : decode cX4_init 17 = .ok (.aload_n 0, 1) := by decide +kernel
theorem dX4_init_18 : decode cX4_init 18 = .ok (.new 19, 3) := by decide +kernel
theorem dX4_init_21 : decode cX4_init 21 = .ok (.dup, 1) := by decide +kernel
theorem dX4_init_22 : decode cX4_init 22 = .ok (.aload_n 1, 1) := by decide +kernel
theorem dX4_init_23 : decode cX4_init 23 = .ok (.invokespecial 21, 3) := by decide +kernel
theorem dX4_init_26 : decode cX4_init 26 = .ok (.putfield 24, 3) := by decide +kernel
theorem dX4_init_29 : decode cX4_init 29 = .ok (.aload_n 0, 1) := by decide +kernel
theorem dX4_init_30 : decode cX4_init 30 = .ok (.new 28, 3) := by decide +kernel
theorem dX4_init_33 : decode cX4_init 33 = .ok (.dup, 1) := by decide +kernel
theorem dX4_init_34 : decode cX4_init 34 = .ok (.aload_n 0, 1) := by decide +kernel
theorem dX4_init_35 : decode cX4_init 35 = .ok (.getfield 24, 3) := by decide +kernel
theorem dX4_init_38 : decode cX4_init 38 = .ok (.invokespecial 30, 3) := by decide +kernel
theorem dX4_init_41 : decode cX4_init 41 = .ok (.putfield 33, 3) := by decide +kernel
theorem dX4_init_44 : decode cX4_init 44 = .ok (.return_, 1) := by decide +kernel
theorem dX4_errorStart_0 : decode cX4_errorStart 0 = .ok (.aload_n 0, 1) := by decide +kernel
theorem dX4_errorStart_1 : decode cX4_errorStart 1 = .ok (.getfield 15, 3) := by decide +kernel
theorem dX4_errorStart_4 : decode cX4_errorStart 4 = .ok (.ireturn, 1) := by decide +kernel
theorem dX4_read_0 : decode cX4_read 0 = .ok (.aload_n 2, 1) := by decide +kernel
theorem dX4_read_1 : decode cX4_read 1 = .ok (.invokevirtual 37, 3) := by decide +kernel
theorem dX4_read_4 : decode cX4_read 4 = .ok (.aload_n 0, 1) := by decide +kernel
theorem dX4_read_5 : decode cX4_read 5 = .ok (.getfield 33, 3) := by decide +kernel
theorem dX4_read_8 : decode cX4_read 8 = .ok (.invokevirtual 42, 3) := by decide +kernel
theorem dX4_read_11 : decode cX4_read 11 = .ok (.aload_n 0, 1) := by decide +kernel
theorem dX4_read_12 : decode cX4_read 12 = .ok (.getfield 24, 3) := by decide +kernel
theorem dX4_read_15 : decode cX4_read 15 = .ok (.iload_n 1, 1) := by decide +kernel
theorem dX4_read_16 : decode cX4_read 16 = .ok (.invokevirtual 45, 3) := by decide +kernel
theorem dX4_read_19 : decode cX4_read 19 = .ok (.aload_n 0, 1) := by decide +kernel
theorem dX4_read_20 : decode cX4_read 20 = .ok (.getfield 24, 3) := by decide +kernel
theorem dX4_read_23 : decode cX4_read 23 = .ok (.ldc 49, 2) := by decide +kernel
theorem dX4_read_25 : decode cX4_read 25 = .ok (.invokevirtual 51, 3) := by decide +kernel
theorem dX4_read_28 : decode cX4_read 28 = .ok (.aload_n 0, 1) := by decide +kernel
theorem dX4_read_29 : decode cX4_read 29 = .ok (.getfield 24, 3) := by decide +kernel
theorem dX4_read_32 : decode cX4_read 32 = .ok (.bipush 59, 2) := by decide +kernel
theorem dX4_read_34 : decode cX4_read 34 = .ok (.invokevirtual 55, 3) := by decide +kernel
theorem dX4_read_37 : decode cX4_read 37 = .ok (.iconst 0, 1) := by decide +kernel
theorem dX4_read_38 : decode cX4_read 38 = .ok (.istore_n 3, 1) := by decide +kernel
theorem dX4_read_39 : decode cX4_read 39 = .ok (.iload_n 3, 1) := by decide +kernel
theorem dX4_read_40 : decode cX4_read 40 = .ok (.sipush 700, 3) := by decide +kernel
theorem dX4_read_43 : decode cX4_read 43 = .ok (.if_icmp .ge 33, 3) := by decide +kernel
theorem dX4_read_46 : decode cX4_read 46 = .ok (.aload_n 0, 1) := by decide +kernel
theorem dX4_read_47 : decode cX4_read 47 = .ok (.getfield 24, 3) := by decide +kernel
theorem dX4_read_50 : decode cX4_read 50 = .ok (.invokevirtual 59, 3) := by decide +kernel
theorem dX4_read_53 : decode cX4_read 53 = .ok (.ifCond .eq 23, 3) := by decide +kernel
theorem dX4_read_56 : decode cX4_read 56 = .ok (.aload_n 0, 1) := by decide +kernel
theorem dX4_read_57 : decode cX4_read 57 = .ok (.aload_n 2, 1) := by decide +kernel
theorem dX4_read_58 : decode cX4_read 58 = .ok (.invokevirtual 63, 3) := by decide +kernel
theorem dX4_read_61 : decode cX4_read 61 = .ok (.aload_n 0, 1) := by decide +kernel
theorem dX4_read_62 : decode cX4_read 62 = .ok (.getfield 24, 3) := by decide +kernel
theorem dX4_read_65 : decode cX4_read 65 = .ok (.bipush 59, 2) := by decide +kernel
theorem dX4_read_67 : decode cX4_read 67 = .ok (.invokevirtual 55, 3) := by decide +kernel
theorem dX4_read_70 : decode cX4_read 70 = .ok (.iinc 3 1, 3) := by decide +kernel
theorem dX4_read_73 : decode cX4_read 73 = .ok (.goto (-34), 3) := by decide +kernel
theorem dX4_read_76 : decode cX4_read 76 = .ok (.aload_n 0, 1) := by decide +kernel
theorem dX4_read_77 : decode cX4_read 77 = .ok (.getfield 24, 3) := by decide +kernel
theorem dX4_read_80 : decode cX4_read 80 = .ok (.invokevirtual 67, 3) := by decide +kernel
theorem dX4_read_83 : decode cX4_read 83 = .ok (.istore_n 3, 1) := by decide +kernel
theorem dX4_read_84 : decode cX4_read 84 = .ok (.aload_n 0, 1) := by decide +kernel
theorem dX4_read_85 : decode cX4_read 85 = .ok (.iload_n 3, 1) := by decide +kernel
theorem dX4_read_86 : decode cX4_read 86 = .ok (.ifCond .ne 7, 3) := by decide +kernel
theorem dX4_read_89 : decode cX4_read 89 = .ok (.iconst (-1), 1) := by decide +kernel
theorem dX4_read_90 : decode cX4_read 90 = .ok (.goto 10, 3) := by decide +kernel
theorem dX4_read_93 : decode cX4_read 93 = .ok (.aload_n 0, 1) := by decide +kernel
theorem dX4_read_94 : decode cX4_read 94 = .ok (.getfield 24, 3) := by decide +kernel
theorem dX4_read_97 : decode cX4_read 97 = .ok (.invokevirtual 71, 3) := by decide +kernel
theorem dX4_read_100 : decode cX4_read 100 = .ok (.putfield 15, 3) := by decide +kernel
theorem dX4_read_103 : decode cX4_read 103 = .ok (.iload_n 3, 1) := by decide +kernel
theorem dX4_read_104 : decode cX4_read 104 = .ok (.ifCond .ne 8, 3) := by decide +kernel
theorem dX4_read_107 : decode cX4_read 107 = .ok (.aload_n 0, 1) := by decide +kernel
theorem dX4_read_108 : decode cX4_read 108 = .ok (.aload_n 2, 1) := by decide +kernel
theorem dX4_read_109 : decode cX4_read 109 = .ok (.invokevirtual 74, 3) := by decide +kernel
theorem dX4_read_112 : decode cX4_read 112 = .ok (.iload_n 3, 1) := by decide +kernel
theorem dX4_read_113 : decode cX4_read 113 = .ok (.ireturn, 1) := by decide +kernel
theorem dX4_readStatement_0 : decode cX4_readStatement 0 = .ok (.aload_n 0, 1) := by decide +kernel
theorem dX4_readStatement_1 : decode cX4_readStatement 1 = .ok (.getfield 24, 3) := by decide +kernel
theorem dX4_readStatement_4 : decode cX4_readStatement 4 = .ok (.ldc 77, 2) := by decide +kernel
theorem dX4_readStatement_6 : decode cX4_readStatement 6 = .ok (.invokevirtual 79, 3) := by decide +kernel
theorem dX4_readStatement_9 : decode cX4_readStatement 9 = .ok (.ifCond .eq 11, 3) := by decide +kernel
theorem dX4_readStatement_12 : decode cX4_readStatement 12 = .ok (.aload_n 0, 1) := by decide +kernel
theorem dX4_readStatement_13 : decode cX4_readStatement 13 = .ok (.aload_n 1, 1) := by decide +kernel
theorem dX4_readStatement_14 : decode cX4_readStatement 14 = .ok (.invokevirtual 83, 3) := by decide +kernel
theorem dX4_readStatement_17 : decode cX4_readStatement 17 = .ok (.goto 86, 3) := by decide +kernel
theorem dX4_readStatement_20 : decode cX4_readStatement 20 = .ok (.aload_n 0, 1) := by decide +kernel
theorem dX4_readStatement_21 : decode cX4_readStatement 21 = .ok (.getfield 24, 3) := by decide +kernel
theorem dX4_readStatement_24 : decode cX4_readStatement 24 = .ok (.ldc 86, 2) := by decide +kernel
theorem dX4_readStatement_26 : decode cX4_readStatement 26 = .ok (.invokevirtual 79, 3) := by decide +kernel
theorem dX4_readStatement_29 : decode cX4_readStatement 29 = .ok (.ifCond .eq 12, 3) := by decide +kernel
theorem dX4_readStatement_32 : decode cX4_readStatement 32 = .ok (.aload_n 0, 1) := by decide +kernel
theorem dX4_readStatement_33 : decode cX4_readStatement 33 = .ok (.aload_n 1, 1) := by decide +kernel
theorem dX4_readStatement_34 : decode cX4_readStatement 34 = .ok (.iconst 1, 1) := by decide +kernel
theorem dX4_readStatement_35 : decode cX4_readStatement 35 = .ok (.invokevirtual 88, 3) := by decide +kernel
theorem dX4_readStatement_38 : decode cX4_readStatement 38 = .ok (.goto 65, 3) := by decide +kernel
theorem dX4_readStatement_41 : decode cX4_readStatement 41 = .ok (.aload_n 0, 1) := by decide +kernel
theorem dX4_readStatement_42 : decode cX4_readStatement 42 = .ok (.getfield 24, 3) := by decide +kernel
theorem dX4_readStatement_45 : decode cX4_readStatement 45 = .ok (.ldc 92, 2) := by decide +kernel
theorem dX4_readStatement_47 : decode cX4_readStatement 47 = .ok (.invokevirtual 79, 3) := by decide +kernel
theorem dX4_readStatement_50 : decode cX4_readStatement 50 = .ok (.ifCond .eq 12, 3) := by decide +kernel
theorem dX4_readStatement_53 : decode cX4_readStatement 53 = .ok (.aload_n 0, 1) := by decide +kernel
theorem dX4_readStatement_54 : decode cX4_readStatement 54 = .ok (.aload_n 1, 1) := by decide +kernel
theorem dX4_readStatement_55 : decode cX4_readStatement 55 = .ok (.iconst 0, 1) := by decide +kernel
theorem dX4_readStatement_56 : decode cX4_readStatement 56 = .ok (.invokevirtual 88, 3) := by decide +kernel
theorem dX4_readStatement_59 : decode cX4_readStatement 59 = .ok (.goto 44, 3) := by decide +kernel
theorem dX4_readStatement_62 : decode cX4_readStatement 62 = .ok (.aload_n 0, 1) := by decide +kernel
theorem dX4_readStatement_63 : decode cX4_readStatement 63 = .ok (.getfield 24, 3) := by decide +kernel
theorem dX4_readStatement_66 : decode cX4_readStatement 66 = .ok (.ldc 94, 2) := by decide +kernel
theorem dX4_readStatement_68 : decode cX4_readStatement 68 = .ok (.invokevirtual 79, 3) := by decide +kernel
theorem dX4_readStatement_71 : decode cX4_readStatement 71 = .ok (.ifCond .eq 23, 3) := by decide +kernel
theorem dX4_readStatement_74 : decode cX4_readStatement 74 = .ok (.aload_n 0, 1) := by decide +kernel
theorem dX4_readStatement_75 : decode cX4_readStatement 75 = .ok (.getfield 33, 3) := by decide +kernel
theorem dX4_readStatement_78 : decode cX4_readStatement 78 = .ok (.invokevirtual 95, 3) := by decide +kernel
theorem dX4_readStatement_81 : decode cX4_readStatement 81 = .ok (.ifCond .ne 13, 3) := by decide +kernel
theorem dX4_readStatement_84 : decode cX4_readStatement 84 = .ok (.aload_n 0, 1) := by decide +kernel
theorem dX4_readStatement_85 : decode cX4_readStatement 85 = .ok (.getfield 33, 3) := by decide +kernel
theorem dX4_readStatement_88 : decode cX4_readStatement 88 = .ok (.invokevirtual 98, 3) := by decide +kernel
theorem dX4_readStatement_91 : decode cX4_readStatement 91 = .ok (.goto 12, 3) := by decide +kernel
theorem dX4_readStatement_94 : decode cX4_readStatement 94 = .ok (.aload_n 0, 1) := by decide +kernel
theorem dX4_readStatement_95 : decode cX4_readStatement 95 = .ok (.getfield 24, 3) := by decide +kernel
theorem dX4_readStatement_98 : decode cX4_readStatement 98 = .ok (.bipush (-2), 2) := by decide +kernel
theorem dX4_readStatement_100 : decode cX4_readStatement 100 = .ok (.invokevirtual 101, 3) := by decide +kernel
theorem dX4_readStatement_103 : decode cX4_readStatement 103 = .ok (.return_, 1) := by decide +kernel
theorem dX4_readRole_0 : decode cX4_readRole 0 = .ok (.aload_n 1, 1) := by decide +kernel
theorem dX4_readRole_1 : decode cX4_readRole 1 = .ok (.getfield 104, 3) := by decide +kernel
theorem dX4_readRole_4 : decode cX4_readRole 4 = .ok (.bipush 10, 2) := by decide +kernel
theorem dX4_readRole_6 : decode cX4_readRole 6 = .ok (.if_icmp .lt 13, 3) := by decide +kernel
theorem dX4_readRole_9 : decode cX4_readRole 9 = .ok (.aload_n 0, 1) := by decide +kernel
theorem dX4_readRole_10 : decode cX4_readRole 10 = .ok (.getfield 24, 3) := by decide +kernel
theorem dX4_readRole_13 : decode cX4_readRole 13 = .ok (.bipush (-4), 2) := by decide +kernel
theorem dX4_readRole_15 : decode cX4_readRole 15 = .ok (.invokevirtual 101, 3) := by decide +kernel
theorem dX4_readRole_18 : decode cX4_readRole 18 = .ok (.return_, 1) := by decide +kernel
theorem dX4_readRole_19 : decode cX4_readRole 19 = .ok (.aload_n 0, 1) := by decide +kernel
theorem dX4_readRole_20 : decode cX4_readRole 20 = .ok (.getfield 24, 3) := by decide +kernel
theorem dX4_readRole_23 : decode cX4_readRole 23 = .ok (.invokevirtual 107, 3) := by decide +kernel
theorem dX4_readRole_26 : decode cX4_readRole 26 = .ok (.aload_n 0, 1) := by decide +kernel
theorem dX4_readRole_27 : decode cX4_readRole 27 = .ok (.invokevirtual 110, 3) := by decide +kernel
theorem dX4_readRole_30 : decode cX4_readRole 30 = .ok (.istore_n 2, 1) := by decide +kernel
theorem dX4_readRole_31 : decode cX4_readRole 31 = .ok (.ldc 113, 2) := by decide +kernel
theorem dX4_readRole_33 : decode cX4_readRole 33 = .ok (.iload_n 2, 1) := by decide +kernel
theorem dX4_readRole_34 : decode cX4_readRole 34 = .ok (.isub, 1) := by decide +kernel
theorem dX4_readRole_35 : decode cX4_readRole 35 = .ok (.istore_n 3, 1) := by decide +kernel
theorem dX4_readRole_36 : decode cX4_readRole 36 = .ok (.aload_n 0, 1) := by decide +kernel
theorem dX4_readRole_37 : decode cX4_readRole 37 = .ok (.getfield 24, 3) := by decide +kernel
theorem dX4_readRole_40 : decode cX4_readRole 40 = .ok (.ldc 114, 2) := by decide +kernel
theorem dX4_readRole_42 : decode cX4_readRole 42 = .ok (.invokevirtual 116, 3) := by decide +kernel
theorem dX4_readRole_45 : decode cX4_readRole 45 = .ok (.ifCond .eq 8, 3) := by decide +kernel
theorem dX4_readRole_48 : decode cX4_readRole 48 = .ok (.aload_n 0, 1) := by decide +kernel
theorem dX4_readRole_49 : decode cX4_readRole 49 = .ok (.invokevirtual 110, 3) := by decide +kernel
theorem dX4_readRole_52 : decode cX4_readRole 52 = .ok (.istore_n 3, 1) := by decide +kernel
theorem dX4_readRole_53 : decode cX4_readRole 53 = .ok (.aload_n 0, 1) := by decide +kernel
theorem dX4_readRole_54 : decode cX4_readRole 54 = .ok (.getfield 24, 3) := by decide +kernel
theorem dX4_readRole_57 : decode cX4_readRole 57 = .ok (.ldc 119, 2) := by decide +kernel
theorem dX4_readRole_59 : decode cX4_readRole 59 = .ok (.invokevirtual 116, 3) := by decide +kernel
theorem dX4_readRole_62 : decode cX4_readRole 62 = .ok (.istore 4, 2) := by decide +kernel
theorem dX4_readRole_64 : decode cX4_readRole 64 = .ok (.aload_n 0, 1) := by decide +kernel
theorem dX4_readRole_65 : decode cX4_readRole 65 = .ok (.getfield 24, 3) := by decide +kernel
theorem dX4_readRole_68 : decode cX4_readRole 68 = .ok (.invokevirtual 67, 3) := by decide +kernel
theorem dX4_readRole_71 : decode cX4_readRole 71 = .ok (.ifCond .ne 11, 3) := by decide +kernel
theorem dX4_readRole_74 : decode cX4_readRole 74 = .ok (.aload_n 1, 1) := by decide +kernel
theorem dX4_readRole_75 : decode cX4_readRole 75 = .ok (.iload_n 2, 1) := by decide +kernel
theorem dX4_readRole_76 : decode cX4_readRole 76 = .ok (.iload_n 3, 1) := by decide +kernel
theorem dX4_readRole_77 : decode cX4_readRole 77 = .ok (.iload 4, 2) := by decide +kernel
theorem dX4_readRole_79 : decode cX4_readRole 79 = .ok (.invokevirtual 121, 3) := by decide +kernel
theorem dX4_readRole_82 : decode cX4_readRole 82 = .ok (.return_, 1) := by decide +kernel
theorem dX4_readColour_0 : decode cX4_readColour 0 = .ok (.aload_n 0, 1) := by decide +kernel
theorem dX4_readColour_1 : decode cX4_readColour 1 = .ok (.getfield 24, 3) := by decide +kernel
theorem dX4_readColour_4 : decode cX4_readColour 4 = .ok (.iconst 0, 1) := by decide +kernel
theorem dX4_readColour_5 : decode cX4_readColour 5 = .ok (.sipush 255, 3) := by decide +kernel
theorem dX4_readColour_8 : decode cX4_readColour 8 = .ok (.invokevirtual 125, 3) := by decide +kernel
theorem dX4_readColour_11 : decode cX4_readColour 11 = .ok (.istore_n 1, 1) := by decide +kernel
theorem dX4_readColour_12 : decode cX4_readColour 12 = .ok (.aload_n 0, 1) := by decide +kernel
theorem dX4_readColour_13 : decode cX4_readColour 13 = .ok (.getfield 24, 3) := by decide +kernel
theorem dX4_readColour_16 : decode cX4_readColour 16 = .ok (.iconst 0, 1) := by decide +kernel
theorem dX4_readColour_17 : decode cX4_readColour 17 = .ok (.sipush 255, 3) := by decide +kernel
theorem dX4_readColour_20 : decode cX4_readColour 20 = .ok (.invokevirtual 125, 3) := by decide +kernel
theorem dX4_readColour_23 : decode cX4_readColour 23 = .ok (.istore_n 2, 1) := by decide +kernel
theorem dX4_readColour_24 : decode cX4_readColour 24 = .ok (.aload_n 0, 1) := by decide +kernel
theorem dX4_readColour_25 : decode cX4_readColour 25 = .ok (.getfield 24, 3) := by decide +kernel
theorem dX4_readColour_28 : decode cX4_readColour 28 = .ok (.iconst 0, 1) := by decide +kernel
theorem dX4_readColour_29 : decode cX4_readColour 29 = .ok (.sipush 255, 3) := by decide +kernel
theorem dX4_readColour_32 : decode cX4_readColour 32 = .ok (.invokevirtual 125, 3) := by decide +kernel
theorem dX4_readColour_35 : decode cX4_readColour 35 = .ok (.istore_n 3, 1) := by decide +kernel
theorem dX4_readColour_36 : decode cX4_readColour 36 = .ok (.iload_n 1, 1) := by decide +kernel
theorem dX4_readColour_37 : decode cX4_readColour 37 = .ok (.iload_n 2, 1) := by decide +kernel
theorem dX4_readColour_38 : decode cX4_readColour 38 = .ok (.iload_n 3, 1) := by decide +kernel
theorem dX4_readColour_39 : decode cX4_readColour 39 = .ok (.invokestatic 129, 3) := by decide +kernel
theorem dX4_readColour_42 : decode cX4_readColour 42 = .ok (.ireturn, 1) := by decide +kernel
theorem dX4_readRule_0 : decode cX4_readRule 0 = .ok (.aload_n 1, 1) := by decide +kernel
theorem dX4_readRule_1 : decode cX4_readRule 1 = .ok (.getfield 135, 3) := by decide +kernel
theorem dX4_readRule_4 : decode cX4_readRule 4 = .ok (.bipush 12, 2) := by decide +kernel
theorem dX4_readRule_6 : decode cX4_readRule 6 = .ok (.if_icmp .lt 13, 3) := by decide +kernel
theorem dX4_readRule_9 : decode cX4_readRule 9 = .ok (.aload_n 0, 1) := by decide +kernel
theorem dX4_readRule_10 : decode cX4_readRule 10 = .ok (.getfield 24, 3) := by decide +kernel
theorem dX4_readRule_13 : decode cX4_readRule 13 = .ok (.bipush (-4), 2) := by decide +kernel
theorem dX4_readRule_15 : decode cX4_readRule 15 = .ok (.invokevirtual 101, 3) := by decide +kernel
theorem dX4_readRule_18 : decode cX4_readRule 18 = .ok (.return_, 1) := by decide +kernel
theorem dX4_readRule_19 : decode cX4_readRule 19 = .ok (.aload_n 0, 1) := by decide +kernel
theorem dX4_readRule_20 : decode cX4_readRule 20 = .ok (.getfield 24, 3) := by decide +kernel
theorem dX4_readRule_23 : decode cX4_readRule 23 = .ok (.invokevirtual 107, 3) := by decide +kernel
theorem dX4_readRule_26 : decode cX4_readRule 26 = .ok (.aload_n 0, 1) := by decide +kernel
theorem dX4_readRule_27 : decode cX4_readRule 27 = .ok (.getfield 24, 3) := by decide +kernel
theorem dX4_readRule_30 : decode cX4_readRule 30 = .ok (.iconst 0, 1) := by decide +kernel
theorem dX4_readRule_31 : decode cX4_readRule 31 = .ok (.aload_n 1, 1) := by decide +kernel
theorem dX4_readRule_32 : decode cX4_readRule 32 = .ok (.getfield 104, 3) := by decide +kernel
theorem dX4_readRule_35 : decode cX4_readRule 35 = .ok (.iconst 1, 1) := by decide +kernel
theorem dX4_readRule_36 : decode cX4_readRule 36 = .ok (.isub, 1) := by decide +kernel
theorem dX4_readRule_37 : decode cX4_readRule 37 = .ok (.invokevirtual 125, 3) := by decide +kernel
theorem dX4_readRule_40 : decode cX4_readRule 40 = .ok (.istore_n 3, 1) := by decide +kernel
theorem dX4_readRule_41 : decode cX4_readRule 41 = .ok (.aload_n 0, 1) := by decide +kernel
theorem dX4_readRule_42 : decode cX4_readRule 42 = .ok (.getfield 24, 3) := by decide +kernel
theorem dX4_readRule_45 : decode cX4_readRule 45 = .ok (.invokevirtual 138, 3) := by decide +kernel
theorem dX4_readRule_48 : decode cX4_readRule 48 = .ok (.ifCond .eq 23, 3) := by decide +kernel
theorem dX4_readRule_51 : decode cX4_readRule 51 = .ok (.aload_n 0, 1) := by decide +kernel
theorem dX4_readRule_52 : decode cX4_readRule 52 = .ok (.getfield 24, 3) := by decide +kernel
theorem dX4_readRule_55 : decode cX4_readRule 55 = .ok (.invokevirtual 141, 3) := by decide +kernel
theorem dX4_readRule_58 : decode cX4_readRule 58 = .ok (.iload_n 3, 1) := by decide +kernel
theorem dX4_readRule_59 : decode cX4_readRule 59 = .ok (.if_icmp .ne 12, 3) := by decide +kernel
theorem dX4_readRule_62 : decode cX4_readRule 62 = .ok (.aload_n 0, 1) := by decide +kernel
theorem dX4_readRule_63 : decode cX4_readRule 63 = .ok (.getfield 24, 3) := by decide +kernel
theorem dX4_readRule_66 : decode cX4_readRule 66 = .ok (.bipush (-3), 2) := by decide +kernel
theorem dX4_readRule_68 : decode cX4_readRule 68 = .ok (.invokevirtual 101, 3) := by decide +kernel
theorem dX4_readRule_71 : decode cX4_readRule 71 = .ok (.aload_n 0, 1) := by decide +kernel
theorem dX4_readRule_72 : decode cX4_readRule 72 = .ok (.getfield 24, 3) := by decide +kernel
theorem dX4_readRule_75 : decode cX4_readRule 75 = .ok (.iconst 0, 1) := by decide +kernel
theorem dX4_readRule_76 : decode cX4_readRule 76 = .ok (.aload_n 1, 1) := by decide +kernel
theorem dX4_readRule_77 : decode cX4_readRule 77 = .ok (.getfield 104, 3) := by decide +kernel
theorem dX4_readRule_80 : decode cX4_readRule 80 = .ok (.iconst 1, 1) := by decide +kernel
theorem dX4_readRule_81 : decode cX4_readRule 81 = .ok (.isub, 1) := by decide +kernel
theorem dX4_readRule_82 : decode cX4_readRule 82 = .ok (.invokevirtual 125, 3) := by decide +kernel
theorem dX4_readRule_85 : decode cX4_readRule 85 = .ok (.istore 4, 2) := by decide +kernel
theorem dX4_readRule_87 : decode cX4_readRule 87 = .ok (.iload_n 2, 1) := by decide +kernel
theorem dX4_readRule_88 : decode cX4_readRule 88 = .ok (.ifCond .eq 7, 3) := by decide +kernel
theorem dX4_readRule_91 : decode cX4_readRule 91 = .ok (.iconst (-1), 1) := by decide +kernel
theorem dX4_readRule_92 : decode cX4_readRule 92 = .ok (.goto 12, 3) := by decide +kernel
theorem dX4_readRule_95 : decode cX4_readRule 95 = .ok (.aload_n 0, 1) := by decide +kernel
theorem dX4_readRule_96 : decode cX4_readRule 96 = .ok (.getfield 24, 3) := by decide +kernel
theorem dX4_readRule_99 : decode cX4_readRule 99 = .ok (.iconst 0, 1) := by decide +kernel
theorem dX4_readRule_100 : decode cX4_readRule 100 = .ok (.iconst 4, 1) := by decide +kernel
theorem dX4_readRule_101 : decode cX4_readRule 101 = .ok (.invokevirtual 125, 3) := by decide +kernel
theorem dX4_readRule_104 : decode cX4_readRule 104 = .ok (.istore 5, 2) := by decide +kernel
theorem dX4_readRule_106 : decode cX4_readRule 106 = .ok (.aload_n 0, 1) := by decide +kernel
theorem dX4_readRule_107 : decode cX4_readRule 107 = .ok (.getfield 24, 3) := by decide +kernel
theorem dX4_readRule_110 : decode cX4_readRule 110 = .ok (.iconst 1, 1) := by decide +kernel
theorem dX4_readRule_111 : decode cX4_readRule 111 = .ok (.iload_n 2, 1) := by decide +kernel
theorem dX4_readRule_112 : decode cX4_readRule 112 = .ok (.ifCond .eq 8, 3) := by decide +kernel
theorem dX4_readRule_115 : decode cX4_readRule 115 = .ok (.bipush 9, 2) := by decide +kernel
theorem dX4_readRule_117 : decode cX4_readRule 117 = .ok (.goto 6, 3) := by decide +kernel
theorem dX4_readRule_120 : decode cX4_readRule 120 = .ok (.sipush 2295, 3) := by decide +kernel
theorem dX4_readRule_123 : decode cX4_readRule 123 = .ok (.invokevirtual 125, 3) := by decide +kernel
theorem dX4_readRule_126 : decode cX4_readRule 126 = .ok (.istore 6, 2) := by decide +kernel
theorem dX4_readRule_128 : decode cX4_readRule 128 = .ok (.aload_n 0, 1) := by decide +kernel
theorem dX4_readRule_129 : decode cX4_readRule 129 = .ok (.getfield 24, 3) := by decide +kernel
theorem dX4_readRule_132 : decode cX4_readRule 132 = .ok (.invokevirtual 67, 3) := by decide +kernel
theorem dX4_readRule_135 : decode cX4_readRule 135 = .ok (.ifCond .ne 25, 3) := by decide +kernel
theorem dX4_readRule_138 : decode cX4_readRule 138 = .ok (.aload_n 0, 1) := by decide +kernel
theorem dX4_readRule_139 : decode cX4_readRule 139 = .ok (.getfield 9, 3) := by decide +kernel
theorem dX4_readRule_142 : decode cX4_readRule 142 = .ok (.aload_n 1, 1) := by decide +kernel
theorem dX4_readRule_143 : decode cX4_readRule 143 = .ok (.getfield 135, 3) := by decide +kernel
theorem dX4_readRule_146 : decode cX4_readRule 146 = .ok (.iload 6, 2) := by decide +kernel
theorem dX4_readRule_148 : decode cX4_readRule 148 = .ok (.iastore, 1) := by decide +kernel
theorem dX4_readRule_149 : decode cX4_readRule 149 = .ok (.aload_n 1, 1) := by decide +kernel
theorem dX4_readRule_150 : decode cX4_readRule 150 = .ok (.iload_n 3, 1) := by decide +kernel
theorem dX4_readRule_151 : decode cX4_readRule 151 = .ok (.iload 4, 2) := by decide +kernel
theorem dX4_readRule_153 : decode cX4_readRule 153 = .ok (.iload 5, 2) := by decide +kernel
theorem dX4_readRule_155 : decode cX4_readRule 155 = .ok (.iload 6, 2) := by decide +kernel
theorem dX4_readRule_157 : decode cX4_readRule 157 = .ok (.invokevirtual 144, 3) := by decide +kernel
theorem dX4_readRule_160 : decode cX4_readRule 160 = .ok (.return_, 1) := by decide +kernel
theorem dX4_setTextNeeds_0 : decode cX4_setTextNeeds 0 = .ok (.iconst 0, 1) := by decide +kernel
theorem dX4_setTextNeeds_1 : decode cX4_setTextNeeds 1 = .ok (.istore_n 2, 1) := by decide +kernel
theorem dX4_setTextNeeds_2 : decode cX4_setTextNeeds 2 = .ok (.iload_n 2, 1) := by decide +kernel
theorem dX4_setTextNeeds_3 : decode cX4_setTextNeeds 3 = .ok (.aload_n 1, 1) := by decide +kernel
theorem dX4_setTextNeeds_4 : decode cX4_setTextNeeds 4 = .ok (.getfield 135, 3) := by decide +kernel
theorem dX4_setTextNeeds_7 : decode cX4_setTextNeeds 7 = .ok (.if_icmp .ge 63, 3) := by decide +kernel
theorem dX4_setTextNeeds_10 : decode cX4_setTextNeeds 10 = .ok (.aload_n 1, 1) := by decide +kernel
theorem dX4_setTextNeeds_11 : decode cX4_setTextNeeds 11 = .ok (.getfield 148, 3) := by decide +kernel
theorem dX4_setTextNeeds_14 : decode cX4_setTextNeeds 14 = .ok (.iload_n 2, 1) := by decide +kernel
theorem dX4_setTextNeeds_15 : decode cX4_setTextNeeds 15 = .ok (.iaload, 1) := by decide +kernel
theorem dX4_setTextNeeds_16 : decode cX4_setTextNeeds 16 = .ok (.iconst (-1), 1) := by decide +kernel
theorem dX4_setTextNeeds_17 : decode cX4_setTextNeeds 17 = .ok (.if_icmp .ne 47, 3) := by decide +kernel
theorem dX4_setTextNeeds_20 : decode cX4_setTextNeeds 20 = .ok (.aload_n 1, 1) := by decide +kernel
theorem dX4_setTextNeeds_21 : decode cX4_setTextNeeds 21 = .ok (.getfield 151, 3) := by decide +kernel
theorem dX4_setTextNeeds_24 : decode cX4_setTextNeeds 24 = .ok (.iconst 0, 1) := by decide +kernel
theorem dX4_setTextNeeds_25 : decode cX4_setTextNeeds 25 = .ok (.aaload, 1) := by decide +kernel
theorem dX4_setTextNeeds_26 : decode cX4_setTextNeeds 26 = .ok (.iload_n 2, 1) := by decide +kernel
theorem dX4_setTextNeeds_27 : decode cX4_setTextNeeds 27 = .ok (.aload_n 0, 1) := by decide +kernel
theorem dX4_setTextNeeds_28 : decode cX4_setTextNeeds 28 = .ok (.getfield 33, 3) := by decide +kernel
theorem dX4_setTextNeeds_31 : decode cX4_setTextNeeds 31 = .ok (.aload_n 0, 1) := by decide +kernel
theorem dX4_setTextNeeds_32 : decode cX4_setTextNeeds 32 = .ok (.getfield 9, 3) := by decide +kernel
theorem dX4_setTextNeeds_35 : decode cX4_setTextNeeds 35 = .ok (.iload_n 2, 1) := by decide +kernel
theorem dX4_setTextNeeds_36 : decode cX4_setTextNeeds 36 = .ok (.iaload, 1) := by decide +kernel
theorem dX4_setTextNeeds_37 : decode cX4_setTextNeeds 37 = .ok (.iconst 0, 1) := by decide +kernel
theorem dX4_setTextNeeds_38 : decode cX4_setTextNeeds 38 = .ok (.invokevirtual 155, 3) := by decide +kernel
theorem dX4_setTextNeeds_41 : decode cX4_setTextNeeds 41 = .ok (.iastore, 1) := by decide +kernel
theorem dX4_setTextNeeds_42 : decode cX4_setTextNeeds 42 = .ok (.aload_n 1, 1) := by decide +kernel
theorem dX4_setTextNeeds_43 : decode cX4_setTextNeeds 43 = .ok (.getfield 151, 3) := by decide +kernel
theorem dX4_setTextNeeds_46 : decode cX4_setTextNeeds 46 = .ok (.iconst 1, 1) := by decide +kernel
theorem dX4_setTextNeeds_47 : decode cX4_setTextNeeds 47 = .ok (.aaload, 1) := by decide +kernel
theorem dX4_setTextNeeds_48 : decode cX4_setTextNeeds 48 = .ok (.iload_n 2, 1) := by decide +kernel
theorem dX4_setTextNeeds_49 : decode cX4_setTextNeeds 49 = .ok (.aload_n 0, 1) := by decide +kernel
theorem dX4_setTextNeeds_50 : decode cX4_setTextNeeds 50 = .ok (.getfield 33, 3) := by decide +kernel
theorem dX4_setTextNeeds_53 : decode cX4_setTextNeeds 53 = .ok (.aload_n 0, 1) := by decide +kernel
theorem dX4_setTextNeeds_54 : decode cX4_setTextNeeds 54 = .ok (.getfield 9, 3) := by decide +kernel
theorem dX4_setTextNeeds_57 : decode cX4_setTextNeeds 57 = .ok (.iload_n 2, 1) := by decide +kernel
theorem dX4_setTextNeeds_58 : decode cX4_setTextNeeds 58 = .ok (.iaload, 1) := by decide +kernel
theorem dX4_setTextNeeds_59 : decode cX4_setTextNeeds 59 = .ok (.iconst 1, 1) := by decide +kernel
theorem dX4_setTextNeeds_60 : decode cX4_setTextNeeds 60 = .ok (.invokevirtual 155, 3) := by decide +kernel
theorem dX4_setTextNeeds_63 : decode cX4_setTextNeeds 63 = .ok (.iastore, 1) := by decide +kernel
theorem dX4_setTextNeeds_64 : decode cX4_setTextNeeds 64 = .ok (.iinc 2 1, 3) := by decide +kernel
theorem dX4_setTextNeeds_67 : decode cX4_setTextNeeds 67 = .ok (.goto (-65), 3) := by decide +kernel
theorem dX4_setTextNeeds_70 : decode cX4_setTextNeeds 70 = .ok (.return_, 1) := by decide +kernel
theorem dX5_init_0 : decode cX5_init 0 = .ok (.aload_n 0, 1) := by decide +kernel
theorem dX5_init_1 : decode cX5_init 1 = .ok (.invokespecial 3, 3) := by decide +kernel
theorem dX5_init_4 : decode cX5_init 4 = .ok (.aload_n 0, 1) := by decide +kernel
theorem dX5_init_5 : decode cX5_init 5 = .ok (.iconst 0, 1) := by decide +kernel
theorem dX5_init_6 : decode cX5_init 6 = .ok (.putfield 9, 3) := by decide +kernel
theorem dX5_init_9 : decode cX5_init 9 = .ok (.aload_n 0, 1) := by decide +kernel
theorem dX5_init_10 : decode cX5_init 10 = .ok (.iconst 0, 1) := by decide +kernel
theorem dX5_init_11 : decode cX5_init 11 = .ok (.putfield 15, 3) := by decide +kernel
theorem dX5_init_14 : decode cX5_init 14 = .ok (.aload_n 0, 1) := by decide +kernel
theorem dX5_init_15 : decode cX5_init 15 = .ok (.iconst 0, 1) := by decide +kernel
theorem dX5_init_16 : decode cX5_init 16 = .ok (.putfield 18, 3) := by decide +kernel
theorem dX5_init_19 : decode cX5_init 19 = .ok (.aload_n 0, 1) := by decide +kernel
theorem dX5_init_20 : decode cX5_init 20 = .ok (.iconst 0, 1) := by decide +kernel
theorem dX5_init_21 : decode cX5_init 21 = .ok (.putfield 21, 3) := by decide +kernel
theorem dX5_init_24 : decode cX5_init 24 = .ok (.aload_n 0, 1) := by decide +kernel
theorem dX5_init_25 : decode cX5_init 25 = .ok (.iconst 0, 1) := by decide +kernel
theorem dX5_init_26 : decode cX5_init 26 = .ok (.putfield 24, 3) := by decide +kernel
theorem dX5_init_29 : decode cX5_init 29 = .ok (.aload_n 0, 1) := by decide +kernel
theorem dX5_init_30 : decode cX5_init 30 = .ok (.iconst 0, 1) := by decide +kernel
theorem dX5_init_31 : decode cX5_init 31 = .ok (.putfield 27, 3) := by decide +kernel
theorem dX5_init_34 : decode cX5_init 34 = .ok (.aload_n 0, 1) := by decide +kernel
theorem dX5_init_35 : decode cX5_init 35 = .ok (.aload_n 1, 1) := by decide +kernel
theorem dX5_init_36 : decode cX5_init 36 = .ok (.putfield 30, 3) := by decide +kernel
theorem dX5_init_39 : decode cX5_init 39 = .ok (.return_, 1) := by decide +kernel
theorem dX5_open_0 : decode cX5_open 0 = .ok (.aload_n 0, 1) := by decide +kernel
theorem dX5_open_1 : decode cX5_open 1 = .ok (.iload_n 1, 1) := by decide +kernel
theorem dX5_open_2 : decode cX5_open 2 = .ok (.aload_n 0, 1) := by decide +kernel
theorem dX5_open_3 : decode cX5_open 3 = .ok (.getfield 30, 3) := by decide +kernel
theorem dX5_open_6 : decode cX5_open 6 = .ok (.arraylength, 1) := by decide +kernel
theorem dX5_open_7 : decode cX5_open 7 = .ok (.invokestatic 34, 3) := by decide +kernel
theorem dX5_open_10 : decode cX5_open 10 = .ok (.putfield 9, 3) := by decide +kernel
theorem dX5_open_13 : decode cX5_open 13 = .ok (.aload_n 0, 1) := by decide +kernel
theorem dX5_open_14 : decode cX5_open 14 = .ok (.iconst 0, 1) := by decide +kernel
theorem dX5_open_15 : decode cX5_open 15 = .ok (.putfield 21, 3) := by decide +kernel
theorem dX5_open_18 : decode cX5_open 18 = .ok (.aload_n 0, 1) := by decide +kernel
theorem dX5_open_19 : decode cX5_open 19 = .ok (.iconst 0, 1) := by decide +kernel
theorem dX5_open_20 : decode cX5_open 20 = .ok (.putfield 27, 3) := by decide +kernel
theorem dX5_open_23 : decode cX5_open 23 = .ok (.aload_n 0, 1) := by decide +kernel
theorem dX5_open_24 : decode cX5_open 24 = .ok (.invokevirtual 40, 3) := by decide +kernel
theorem dX5_open_27 : decode cX5_open 27 = .ok (.return_, 1) := by decide +kernel
theorem dX5_reopen_0 : decode cX5_reopen 0 = .ok (.aload_n 0, 1) := by decide +kernel
theorem dX5_reopen_1 : decode cX5_reopen 1 = .ok (.iload_n 1, 1) := by decide +kernel
theorem dX5_reopen_2 : decode cX5_reopen 2 = .ok (.iconst 0, 1) := by decide +kernel
theorem dX5_reopen_3 : decode cX5_reopen 3 = .ok (.invokestatic 43, 3) := by decide +kernel
theorem dX5_reopen_6 : decode cX5_reopen 6 = .ok (.putfield 21, 3) := by decide +kernel
theorem dX5_reopen_9 : decode cX5_reopen 9 = .ok (.aload_n 0, 1) := by decide +kernel
theorem dX5_reopen_10 : decode cX5_reopen 10 = .ok (.invokevirtual 40, 3) := by decide +kernel
theorem dX5_reopen_13 : decode cX5_reopen 13 = .ok (.return_, 1) := by decide +kernel
theorem dX5_hasMore_0 : decode cX5_hasMore 0 = .ok (.aload_n 0, 1) := by decide +kernel
theorem dX5_hasMore_1 : decode cX5_hasMore 1 = .ok (.getfield 15, 3) := by decide +kernel
theorem dX5_hasMore_4 : decode cX5_hasMore 4 = .ok (.ifCond .eq 7, 3) := by decide +kernel
theorem dX5_hasMore_7 : decode cX5_hasMore 7 = .ok (.iconst 1, 1) := by decide +kernel
theorem dX5_hasMore_8 : decode cX5_hasMore 8 = .ok (.goto 4, 3) := by decide +kernel
theorem dX5_hasMore_11 : decode cX5_hasMore 11 = .ok (.iconst 0, 1) := by decide +kernel
theorem dX5_hasMore_12 : decode cX5_hasMore 12 = .ok (.ireturn, 1) := by decide +kernel
theorem dX5_isNumber_0 : decode cX5_isNumber 0 = .ok (.aload_n 0, 1) := by decide +kernel
theorem dX5_isNumber_1 : decode cX5_isNumber 1 = .ok (.getfield 15, 3) := by decide +kernel
theorem dX5_isNumber_4 : decode cX5_isNumber 4 = .ok (.iconst 1, 1) := by decide +kernel
theorem dX5_isNumber_5 : decode cX5_isNumber 5 = .ok (.if_icmp .ne 7, 3) := by decide +kernel
theorem dX5_isNumber_8 : decode cX5_isNumber 8 = .ok (.iconst 1, 1) := by decide +kernel
theorem dX5_isNumber_9 : decode cX5_isNumber 9 = .ok (.goto 4, 3) := by decide +kernel
theorem dX5_isNumber_12 : decode cX5_isNumber 12 = .ok (.iconst 0, 1) := by decide +kernel
theorem dX5_isNumber_13 : decode cX5_isNumber 13 = .ok (.ireturn, 1) := by decide +kernel
theorem dX5_currentNumber_0 : decode cX5_currentNumber 0 = .ok (.aload_n 0, 1) := by decide +kernel
theorem dX5_currentNumber_1 : decode cX5_currentNumber 1 = .ok (.getfield 24, 3) := by decide +kernel
theorem dX5_currentNumber_4 : decode cX5_currentNumber 4 = .ok (.ireturn, 1) := by decide +kernel
theorem dX5_currentStart_0 : decode cX5_currentStart 0 = .ok (.aload_n 0, 1) := by decide +kernel
theorem dX5_currentStart_1 : decode cX5_currentStart 1 = .ok (.getfield 18, 3) := by decide +kernel
theorem dX5_currentStart_4 : decode cX5_currentStart 4 = .ok (.ireturn, 1) := by decide +kernel
theorem dX5_currentEnd_0 : decode cX5_currentEnd 0 = .ok (.aload_n 0, 1) := by decide +kernel
theorem dX5_currentEnd_1 : decode cX5_currentEnd 1 = .ok (.getfield 21, 3) := by decide +kernel
theorem dX5_currentEnd_4 : decode cX5_currentEnd 4 = .ok (.ireturn, 1) := by decide +kernel
theorem dX5_firstError_0 : decode cX5_firstError 0 = .ok (.aload_n 0, 1) := by decide +kernel
theorem dX5_firstError_1 : decode cX5_firstError 1 = .ok (.getfield 27, 3) := by decide +kernel
theorem dX5_firstError_4 : decode cX5_firstError 4 = .ok (.ireturn, 1) := by decide +kernel
theorem dX5_fail_0 : decode cX5_fail 0 = .ok (.aload_n 0, 1) := by decide +kernel
theorem dX5_fail_1 : decode cX5_fail 1 = .ok (.getfield 27, 3) := by decide +kernel
theorem dX5_fail_4 : decode cX5_fail 4 = .ok (.ifCond .ne 13, 3) := by decide +kernel
theorem dX5_fail_7 : decode cX5_fail 7 = .ok (.aload_n 0, 1) := by decide +kernel
theorem dX5_fail_8 : decode cX5_fail 8 = .ok (.iload_n 1, 1) := by decide +kernel
theorem dX5_fail_9 : decode cX5_fail 9 = .ok (.putfield 27, 3) := by decide +kernel
theorem dX5_fail_12 : decode cX5_fail 12 = .ok (.aload_n 0, 1) := by decide +kernel
theorem dX5_fail_13 : decode cX5_fail 13 = .ok (.iconst 0, 1) := by decide +kernel
theorem dX5_fail_14 : decode cX5_fail 14 = .ok (.putfield 15, 3) := by decide +kernel
theorem dX5_fail_17 : decode cX5_fail 17 = .ok (.return_, 1) := by decide +kernel
theorem dX5_advance_0 : decode cX5_advance 0 = .ok (.aload_n 0, 1) := by decide +kernel
theorem dX5_advance_1 : decode cX5_advance 1 = .ok (.getfield 27, 3) := by decide +kernel
theorem dX5_advance_4 : decode cX5_advance 4 = .ok (.ifCond .eq 4, 3) := by decide +kernel
theorem dX5_advance_7 : decode cX5_advance 7 = .ok (.return_, 1) := by decide +kernel
theorem dX5_advance_8 : decode cX5_advance 8 = .ok (.aload_n 0, 1) := by decide +kernel
theorem dX5_advance_9 : decode cX5_advance 9 = .ok (.aload_n 0, 1) := by decide +kernel
theorem dX5_advance_10 : decode cX5_advance 10 = .ok (.getfield 21, 3) := by decide +kernel
theorem dX5_advance_13 : decode cX5_advance 13 = .ok (.putfield 18, 3) := by decide +kernel
theorem dX5_advance_16 : decode cX5_advance 16 = .ok (.aload_n 0, 1) := by decide +kernel
theorem dX5_advance_17 : decode cX5_advance 17 = .ok (.getfield 18, 3) := by decide +kernel
theorem dX5_advance_20 : decode cX5_advance 20 = .ok (.aload_n 0, 1) := by decide +kernel
theorem dX5_advance_21 : decode cX5_advance 21 = .ok (.getfield 9, 3) := by decide +kernel
theorem dX5_advance_24 : decode cX5_advance 24 = .ok (.if_icmp .ge 30, 3) := by decide +kernel
theorem dX5_advance_27 : decode cX5_advance 27 = .ok (.aload_n 0, 1) := by decide +kernel
theorem dX5_advance_28 : decode cX5_advance 28 = .ok (.getfield 30, 3) := by decide +kernel
theorem dX5_advance_31 : decode cX5_advance 31 = .ok (.aload_n 0, 1) := by decide +kernel
theorem dX5_advance_32 : decode cX5_advance 32 = .ok (.getfield 18, 3) := by decide +kernel
theorem dX5_advance_35 : decode cX5_advance 35 = .ok (.baload, 1) := by decide +kernel
theorem dX5_advance_36 : decode cX5_advance 36 = .ok (.bipush 32, 2) := by decide +kernel
theorem dX5_advance_38 : decode cX5_advance 38 = .ok (.if_icmp .ne 16, 3) := by decide +kernel
theorem dX5_advance_41 : decode cX5_advance 41 = .ok (.aload_n 0, 1) := by decide +kernel
theorem dX5_advance_42 : decode cX5_advance 42 = .ok (.dup, 1) := by decide +kernel
theorem dX5_advance_43 : decode cX5_advance 43 = .ok (.getfield 18, 3) := by decide +kernel
theorem dX5_advance_46 : decode cX5_advance 46 = .ok (.iconst 1, 1) := by decide +kernel
theorem dX5_advance_47 : decode cX5_advance 47 = .ok (.iadd, 1) := by decide +kernel
theorem dX5_advance_48 : decode cX5_advance 48 = .ok (.putfield 18, 3) := by decide +kernel
theorem dX5_advance_51 : decode cX5_advance 51 = .ok (.goto (-35), 3) := by decide +kernel
theorem dX5_advance_54 : decode cX5_advance 54 = .ok (.aload_n 0, 1) := by decide +kernel
theorem dX5_advance_55 : decode cX5_advance 55 = .ok (.aload_n 0, 1) := by decide +kernel
theorem dX5_advance_56 : decode cX5_advance 56 = .ok (.getfield 18, 3) := by decide +kernel
theorem dX5_advance_59 : decode cX5_advance 59 = .ok (.putfield 21, 3) := by decide +kernel
theorem dX5_advance_62 : decode cX5_advance 62 = .ok (.aload_n 0, 1) := by decide +kernel
theorem dX5_advance_63 : decode cX5_advance 63 = .ok (.iconst 0, 1) := by decide +kernel
theorem dX5_advance_64 : decode cX5_advance 64 = .ok (.putfield 24, 3) := by decide +kernel
theorem dX5_advance_67 : decode cX5_advance 67 = .ok (.aload_n 0, 1) := by decide +kernel
theorem dX5_advance_68 : decode cX5_advance 68 = .ok (.getfield 18, 3) := by decide +kernel
theorem dX5_advance_71 : decode cX5_advance 71 = .ok (.aload_n 0, 1) := by decide +kernel
theorem dX5_advance_72 : decode cX5_advance 72 = .ok (.getfield 9, 3) := by decide +kernel
theorem dX5_advance_75 : decode cX5_advance 75 = .ok (.if_icmp .lt 11, 3) := by decide +kernel
theorem dX5_advance_78 : decode cX5_advance 78 = .ok (.aload_n 0, 1) := by decide +kernel
theorem dX5_advance_79 : decode cX5_advance 79 = .ok (.iconst 0, 1) := by decide +kernel
theorem dX5_advance_80 : decode cX5_advance 80 = .ok (.putfield 15, 3) := by decide +kernel
theorem dX5_advance_83 : decode cX5_advance 83 = .ok (.goto 165, 3) := by decide +kernel
theorem dX5_advance_86 : decode cX5_advance 86 = .ok (.aload_n 0, 1) := by decide +kernel
theorem dX5_advance_87 : decode cX5_advance 87 = .ok (.getfield 30, 3) := by decide +kernel
theorem dX5_advance_90 : decode cX5_advance 90 = .ok (.aload_n 0, 1) := by decide +kernel
theorem dX5_advance_91 : decode cX5_advance 91 = .ok (.getfield 18, 3) := by decide +kernel
theorem dX5_advance_94 : decode cX5_advance 94 = .ok (.baload, 1) := by decide +kernel
theorem dX5_advance_95 : decode cX5_advance 95 = .ok (.invokestatic 46, 3) := by decide +kernel
theorem dX5_advance_98 : decode cX5_advance 98 = .ok (.ifCond .eq 76, 3) := by decide +kernel
theorem dX5_advance_101 : decode cX5_advance 101 = .ok (.aload_n 0, 1) := by decide +kernel
theorem dX5_advance_102 : decode cX5_advance 102 = .ok (.iconst 1, 1) := by decide +kernel
theorem dX5_advance_103 : decode cX5_advance 103 = .ok (.putfield 15, 3) := by decide +kernel
theorem dX5_advance_106 : decode cX5_advance 106 = .ok (.aload_n 0, 1) := by decide +kernel
theorem dX5_advance_107 : decode cX5_advance 107 = .ok (.getfield 21, 3) := by decide +kernel
theorem dX5_advance_110 : decode cX5_advance 110 = .ok (.aload_n 0, 1) := by decide +kernel
theorem dX5_advance_111 : decode cX5_advance 111 = .ok (.getfield 9, 3) := by decide +kernel
theorem dX5_advance_114 : decode cX5_advance 114 = .ok (.if_icmp .ge 134, 3) := by decide +kernel
theorem dX5_advance_117 : decode cX5_advance 117 = .ok (.aload_n 0, 1) := by decide +kernel
theorem dX5_advance_118 : decode cX5_advance 118 = .ok (.getfield 30, 3) := by decide +kernel
theorem dX5_advance_121 : decode cX5_advance 121 = .ok (.aload_n 0, 1) := by decide +kernel
theorem dX5_advance_122 : decode cX5_advance 122 = .ok (.getfield 21, 3) := by decide +kernel
theorem dX5_advance_125 : decode cX5_advance 125 = .ok (.baload, 1) := by decide +kernel
theorem dX5_advance_126 : decode cX5_advance 126 = .ok (.invokestatic 46, 3) := by decide +kernel
theorem dX5_advance_129 : decode cX5_advance 129 = .ok (.ifCond .eq 119, 3) := by decide +kernel
theorem dX5_advance_132 : decode cX5_advance 132 = .ok (.aload_n 0, 1) := by decide +kernel
theorem dX5_advance_133 : decode cX5_advance 133 = .ok (.bipush 10, 2) := by decide +kernel
theorem dX5_advance_135 : decode cX5_advance 135 = .ok (.aload_n 0, 1) := by decide +kernel
theorem dX5_advance_136 : decode cX5_advance 136 = .ok (.getfield 24, 3) := by decide +kernel
theorem dX5_advance_139 : decode cX5_advance 139 = .ok (.imul, 1) := by decide +kernel
theorem dX5_advance_140 : decode cX5_advance 140 = .ok (.aload_n 0, 1) := by decide +kernel
theorem dX5_advance_141 : decode cX5_advance 141 = .ok (.getfield 30, 3) := by decide +kernel
theorem dX5_advance_144 : decode cX5_advance 144 = .ok (.aload_n 0, 1) := by decide +kernel
theorem dX5_advance_145 : decode cX5_advance 145 = .ok (.getfield 21, 3) := by decide +kernel
theorem dX5_advance_148 : decode cX5_advance 148 = .ok (.baload, 1) := by decide +kernel
theorem dX5_advance_149 : decode cX5_advance 149 = .ok (.iadd, 1) := by decide +kernel
theorem dX5_advance_150 : decode cX5_advance 150 = .ok (.bipush 48, 2) := by decide +kernel
theorem dX5_advance_152 : decode cX5_advance 152 = .ok (.isub, 1) := by decide +kernel
theorem dX5_advance_153 : decode cX5_advance 153 = .ok (.ldc 50, 2) := by decide +kernel
theorem dX5_advance_155 : decode cX5_advance 155 = .ok (.invokestatic 34, 3) := by decide +kernel
theorem dX5_advance_158 : decode cX5_advance 158 = .ok (.putfield 24, 3) := by decide +kernel
theorem dX5_advance_161 : decode cX5_advance 161 = .ok (.aload_n 0, 1) := by decide +kernel
theorem dX5_advance_162 : decode cX5_advance 162 = .ok (.dup, 1) := by decide +kernel
theorem dX5_advance_163 : decode cX5_advance 163 = .ok (.getfield 21, 3) := by decide +kernel
theorem dX5_advance_166 : decode cX5_advance 166 = .ok (.iconst 1, 1) := by decide +kernel
theorem dX5_advance_167 : decode cX5_advance 167 = .ok (.iadd, 1) := by decide +kernel
theorem dX5_advance_168 : decode cX5_advance 168 = .ok (.putfield 21, 3) := by decide +kernel
theorem dX5_advance_171 : decode cX5_advance 171 = .ok (.goto (-65), 3) := by decide +kernel
theorem dX5_advance_174 : decode cX5_advance 174 = .ok (.aload_n 0, 1) := by decide +kernel
theorem dX5_advance_175 : decode cX5_advance 175 = .ok (.getfield 30, 3) := by decide +kernel
theorem dX5_advance_178 : decode cX5_advance 178 = .ok (.aload_n 0, 1) := by decide +kernel
theorem dX5_advance_179 : decode cX5_advance 179 = .ok (.getfield 18, 3) := by decide +kernel
theorem dX5_advance_182 : decode cX5_advance 182 = .ok (.baload, 1) := by decide +kernel
theorem dX5_advance_183 : decode cX5_advance 183 = .ok (.invokestatic 51, 3) := by decide +kernel
theorem dX5_advance_186 : decode cX5_advance 186 = .ok (.ifCond .eq 47, 3) := by decide +kernel
theorem dX5_advance_189 : decode cX5_advance 189 = .ok (.aload_n 0, 1) := by decide +kernel
theorem dX5_advance_190 : decode cX5_advance 190 = .ok (.iconst 2, 1) := by decide +kernel
theorem dX5_advance_191 : decode cX5_advance 191 = .ok (.putfield 15, 3) := by decide +kernel
theorem dX5_advance_194 : decode cX5_advance 194 = .ok (.aload_n 0, 1) := by decide +kernel
theorem dX5_advance_195 : decode cX5_advance 195 = .ok (.getfield 21, 3) := by decide +kernel
theorem dX5_advance_198 : decode cX5_advance 198 = .ok (.aload_n 0, 1) := by decide +kernel
theorem dX5_advance_199 : decode cX5_advance 199 = .ok (.getfield 9, 3) := by decide +kernel
theorem dX5_advance_202 : decode cX5_advance 202 = .ok (.if_icmp .ge 46, 3) := by decide +kernel
theorem dX5_advance_205 : decode cX5_advance 205 = .ok (.aload_n 0, 1) := by decide +kernel
theorem dX5_advance_206 : decode cX5_advance 206 = .ok (.getfield 30, 3) := by decide +kernel
theorem dX5_advance_209 : decode cX5_advance 209 = .ok (.aload_n 0, 1) := by decide +kernel
theorem dX5_advance_210 : decode cX5_advance 210 = .ok (.getfield 21, 3) := by decide +kernel
theorem dX5_advance_213 : decode cX5_advance 213 = .ok (.baload, 1) := by decide +kernel
theorem dX5_advance_214 : decode cX5_advance 214 = .ok (.invokestatic 51, 3) := by decide +kernel
theorem dX5_advance_217 : decode cX5_advance 217 = .ok (.ifCond .eq 31, 3) := by decide +kernel
theorem dX5_advance_220 : decode cX5_advance 220 = .ok (.aload_n 0, 1) := by decide +kernel
theorem dX5_advance_221 : decode cX5_advance 221 = .ok (.dup, 1) := by decide +kernel
theorem dX5_advance_222 : decode cX5_advance 222 = .ok (.getfield 21, 3) := by decide +kernel
theorem dX5_advance_225 : decode cX5_advance 225 = .ok (.iconst 1, 1) := by decide +kernel
theorem dX5_advance_226 : decode cX5_advance 226 = .ok (.iadd, 1) := by decide +kernel
theorem dX5_advance_227 : decode cX5_advance 227 = .ok (.putfield 21, 3) := by decide +kernel
theorem dX5_advance_230 : decode cX5_advance 230 = .ok (.goto (-36), 3) := by decide +kernel
theorem dX5_advance_233 : decode cX5_advance 233 = .ok (.aload_n 0, 1) := by decide +kernel
theorem dX5_advance_234 : decode cX5_advance 234 = .ok (.iconst 3, 1) := by decide +kernel
theorem dX5_advance_235 : decode cX5_advance 235 = .ok (.putfield 15, 3) := by decide +kernel
theorem dX5_advance_238 : decode cX5_advance 238 = .ok (.aload_n 0, 1) := by decide +kernel
theorem dX5_advance_239 : decode cX5_advance 239 = .ok (.aload_n 0, 1) := by decide +kernel
theorem dX5_advance_240 : decode cX5_advance 240 = .ok (.getfield 18, 3) := by decide +kernel
theorem dX5_advance_243 : decode cX5_advance 243 = .ok (.iconst 1, 1) := by decide +kernel
theorem dX5_advance_244 : decode cX5_advance 244 = .ok (.iadd, 1) := by decide +kernel
theorem dX5_advance_245 : decode cX5_advance 245 = .ok (.putfield 21, 3) := by decide +kernel
theorem dX5_advance_248 : decode cX5_advance 248 = .ok (.return_, 1) := by decide +kernel
theorem dX5_isDigit_0 : decode cX5_isDigit 0 = .ok (.iload_n 0, 1) := by decide +kernel
theorem dX5_isDigit_1 : decode cX5_isDigit 1 = .ok (.bipush 48, 2) := by decide +kernel
theorem dX5_isDigit_3 : decode cX5_isDigit 3 = .ok (.if_icmp .lt 13, 3) := by decide +kernel
theorem dX5_isDigit_6 : decode cX5_isDigit 6 = .ok (.iload_n 0, 1) := by decide +kernel
theorem dX5_isDigit_7 : decode cX5_isDigit 7 = .ok (.bipush 57, 2) := by decide +kernel
theorem dX5_isDigit_9 : decode cX5_isDigit 9 = .ok (.if_icmp .gt 7, 3) := by decide +kernel
theorem dX5_isDigit_12 : decode cX5_isDigit 12 = .ok (.iconst 1, 1) := by decide +kernel
theorem dX5_isDigit_13 : decode cX5_isDigit 13 = .ok (.goto 4, 3) := by decide +kernel
theorem dX5_isDigit_16 : decode cX5_isDigit 16 = .ok (.iconst 0, 1) := by decide +kernel
theorem dX5_isDigit_17 : decode cX5_isDigit 17 = .ok (.ireturn, 1) := by decide +kernel
theorem dX5_isLetter_0 : decode cX5_isLetter 0 = .ok (.iload_n 0, 1) := by decide +kernel
theorem dX5_isLetter_1 : decode cX5_isLetter 1 = .ok (.bipush 97, 2) := by decide +kernel
theorem dX5_isLetter_3 : decode cX5_isLetter 3 = .ok (.if_icmp .lt 13, 3) := by decide +kernel
theorem dX5_isLetter_6 : decode cX5_isLetter 6 = .ok (.iload_n 0, 1) := by decide +kernel
theorem dX5_isLetter_7 : decode cX5_isLetter 7 = .ok (.bipush 122, 2) := by decide +kernel
theorem dX5_isLetter_9 : decode cX5_isLetter 9 = .ok (.if_icmp .gt 7, 3) := by decide +kernel
theorem dX5_isLetter_12 : decode cX5_isLetter 12 = .ok (.iconst 1, 1) := by decide +kernel
theorem dX5_isLetter_13 : decode cX5_isLetter 13 = .ok (.goto 4, 3) := by decide +kernel
theorem dX5_isLetter_16 : decode cX5_isLetter 16 = .ok (.iconst 0, 1) := by decide +kernel
theorem dX5_isLetter_17 : decode cX5_isLetter 17 = .ok (.ireturn, 1) := by decide +kernel
theorem dX5_isWord_0 : decode cX5_isWord 0 = .ok (.aload_n 0, 1) := by decide +kernel
theorem dX5_isWord_1 : decode cX5_isWord 1 = .ok (.getfield 15, 3) := by decide +kernel
theorem dX5_isWord_4 : decode cX5_isWord 4 = .ok (.iconst 2, 1) := by decide +kernel
theorem dX5_isWord_5 : decode cX5_isWord 5 = .ok (.if_icmp .ne 19, 3) := by decide +kernel
theorem dX5_isWord_8 : decode cX5_isWord 8 = .ok (.aload_n 0, 1) := by decide +kernel
theorem dX5_isWord_9 : decode cX5_isWord 9 = .ok (.getfield 21, 3) := by decide +kernel
theorem dX5_isWord_12 : decode cX5_isWord 12 = .ok (.aload_n 0, 1) := by decide +kernel
theorem dX5_isWord_13 : decode cX5_isWord 13 = .ok (.getfield 18, 3) := by decide +kernel
theorem dX5_isWord_16 : decode cX5_isWord 16 = .ok (.isub, 1) := by decide +kernel
theorem dX5_isWord_17 : decode cX5_isWord 17 = .ok (.aload_n 1, 1) := by decide +kernel
theorem dX5_isWord_18 : decode cX5_isWord 18 = .ok (.invokevirtual 54, 3) := by decide +kernel
theorem dX5_isWord_21 : decode cX5_isWord 21 = .ok (.if_icmp .eq 5, 3) := by decide +kernel
theorem dX5_isWord_24 : decode cX5_isWord 24 = .ok (.iconst 0, 1) := by decide +kernel
theorem dX5_isWord_25 : decode cX5_isWord 25 = .ok (.ireturn, 1) := by decide +kernel
theorem dX5_isWord_26 : decode cX5_isWord 26 = .ok (.iconst 0, 1) := by decide +kernel
theorem dX5_isWord_27 : decode cX5_isWord 27 = .ok (.istore_n 2, 1) := by decide +kernel
theorem dX5_isWord_28 : decode cX5_isWord 28 = .ok (.iload_n 2, 1) := by decide +kernel
theorem dX5_isWord_29 : decode cX5_isWord 29 = .ok (.aload_n 1, 1) := by decide +kernel
theorem dX5_isWord_30 : decode cX5_isWord 30 = .ok (.invokevirtual 54, 3) := by decide +kernel
theorem dX5_isWord_33 : decode cX5_isWord 33 = .ok (.if_icmp .ge 30, 3) := by decide +kernel
theorem dX5_isWord_36 : decode cX5_isWord 36 = .ok (.aload_n 0, 1) := by decide +kernel
theorem dX5_isWord_37 : decode cX5_isWord 37 = .ok (.getfield 30, 3) := by decide +kernel
theorem dX5_isWord_40 : decode cX5_isWord 40 = .ok (.aload_n 0, 1) := by decide +kernel
theorem dX5_isWord_41 : decode cX5_isWord 41 = .ok (.getfield 18, 3) := by decide +kernel
theorem dX5_isWord_44 : decode cX5_isWord 44 = .ok (.iload_n 2, 1) := by decide +kernel
theorem dX5_isWord_45 : decode cX5_isWord 45 = .ok (.iadd, 1) := by decide +kernel
theorem dX5_isWord_46 : decode cX5_isWord 46 = .ok (.baload, 1) := by decide +kernel
theorem dX5_isWord_47 : decode cX5_isWord 47 = .ok (.aload_n 1, 1) := by decide +kernel
theorem dX5_isWord_48 : decode cX5_isWord 48 = .ok (.iload_n 2, 1) := by decide +kernel
theorem dX5_isWord_49 : decode cX5_isWord 49 = .ok (.invokevirtual 59, 3) := by decide +kernel
theorem dX5_isWord_52 : decode cX5_isWord 52 = .ok (.if_icmp .eq 5, 3) := by decide +kernel
theorem dX5_isWord_55 : decode cX5_isWord 55 = .ok (.iconst 0, 1) := by decide +kernel
theorem dX5_isWord_56 : decode cX5_isWord 56 = .ok (.ireturn, 1) := by decide +kernel
theorem dX5_isWord_57 : decode cX5_isWord 57 = .ok (.iinc 2 1, 3) := by decide +kernel
theorem dX5_isWord_60 : decode cX5_isWord 60 = .ok (.goto (-32), 3) := by decide +kernel
theorem dX5_isWord_63 : decode cX5_isWord 63 = .ok (.iconst 1, 1) := by decide +kernel
theorem dX5_isWord_64 : decode cX5_isWord 64 = .ok (.ireturn, 1) := by decide +kernel
theorem dX5_isSign_0 : decode cX5_isSign 0 = .ok (.aload_n 0, 1) := by decide +kernel
theorem dX5_isSign_1 : decode cX5_isSign 1 = .ok (.getfield 15, 3) := by decide +kernel
theorem dX5_isSign_4 : decode cX5_isSign 4 = .ok (.iconst 3, 1) := by decide +kernel
theorem dX5_isSign_5 : decode cX5_isSign 5 = .ok (.if_icmp .ne 20, 3) := by decide +kernel
theorem dX5_isSign_8 : decode cX5_isSign 8 = .ok (.aload_n 0, 1) := by decide +kernel
theorem dX5_isSign_9 : decode cX5_isSign 9 = .ok (.getfield 30, 3) := by decide +kernel
theorem dX5_isSign_12 : decode cX5_isSign 12 = .ok (.aload_n 0, 1) := by decide +kernel
theorem dX5_isSign_13 : decode cX5_isSign 13 = .ok (.getfield 18, 3) := by decide +kernel
theorem dX5_isSign_16 : decode cX5_isSign 16 = .ok (.baload, 1) := by decide +kernel
theorem dX5_isSign_17 : decode cX5_isSign 17 = .ok (.iload_n 1, 1) := by decide +kernel
theorem dX5_isSign_18 : decode cX5_isSign 18 = .ok (.if_icmp .ne 7, 3) := by decide +kernel
theorem dX5_isSign_21 : decode cX5_isSign 21 = .ok (.iconst 1, 1) := by decide +kernel
theorem dX5_isSign_22 : decode cX5_isSign 22 = .ok (.goto 4, 3) := by decide +kernel
theorem dX5_isSign_25 : decode cX5_isSign 25 = .ok (.iconst 0, 1) := by decide +kernel
theorem dX5_isSign_26 : decode cX5_isSign 26 = .ok (.ireturn, 1) := by decide +kernel
theorem dX5_passWord_0 : decode cX5_passWord 0 = .ok (.aload_n 0, 1) := by decide +kernel
theorem dX5_passWord_1 : decode cX5_passWord 1 = .ok (.aload_n 1, 1) := by decide +kernel
theorem dX5_passWord_2 : decode cX5_passWord 2 = .ok (.invokevirtual 63, 3) := by decide +kernel
theorem dX5_passWord_5 : decode cX5_passWord 5 = .ok (.istore_n 2, 1) := by decide +kernel
theorem dX5_passWord_6 : decode cX5_passWord 6 = .ok (.iload_n 2, 1) := by decide +kernel
theorem dX5_passWord_7 : decode cX5_passWord 7 = .ok (.ifCond .eq 7, 3) := by decide +kernel
theorem dX5_passWord_10 : decode cX5_passWord 10 = .ok (.aload_n 0, 1) := by decide +kernel
theorem dX5_passWord_11 : decode cX5_passWord 11 = .ok (.invokevirtual 40, 3) := by decide +kernel
theorem dX5_passWord_14 : decode cX5_passWord 14 = .ok (.iload_n 2, 1) := by decide +kernel
theorem dX5_passWord_15 : decode cX5_passWord 15 = .ok (.ireturn, 1) := by decide +kernel
theorem dX5_passSign_0 : decode cX5_passSign 0 = .ok (.aload_n 0, 1) := by decide +kernel
theorem dX5_passSign_1 : decode cX5_passSign 1 = .ok (.iload_n 1, 1) := by decide +kernel
theorem dX5_passSign_2 : decode cX5_passSign 2 = .ok (.invokevirtual 67, 3) := by decide +kernel
theorem dX5_passSign_5 : decode cX5_passSign 5 = .ok (.istore_n 2, 1) := by decide +kernel
theorem dX5_passSign_6 : decode cX5_passSign 6 = .ok (.iload_n 2, 1) := by decide +kernel
theorem dX5_passSign_7 : decode cX5_passSign 7 = .ok (.ifCond .eq 7, 3) := by decide +kernel
theorem dX5_passSign_10 : decode cX5_passSign 10 = .ok (.aload_n 0, 1) := by decide +kernel
theorem dX5_passSign_11 : decode cX5_passSign 11 = .ok (.invokevirtual 40, 3) := by decide +kernel
theorem dX5_passSign_14 : decode cX5_passSign 14 = .ok (.iload_n 2, 1) := by decide +kernel
theorem dX5_passSign_15 : decode cX5_passSign 15 = .ok (.ireturn, 1) := by decide +kernel
theorem dX5_needWord_0 : decode cX5_needWord 0 = .ok (.aload_n 0, 1) := by decide +kernel
theorem dX5_needWord_1 : decode cX5_needWord 1 = .ok (.aload_n 1, 1) := by decide +kernel
theorem dX5_needWord_2 : decode cX5_needWord 2 = .ok (.invokevirtual 71, 3) := by decide +kernel
theorem dX5_needWord_5 : decode cX5_needWord 5 = .ok (.ifCond .ne 9, 3) := by decide +kernel
theorem dX5_needWord_8 : decode cX5_needWord 8 = .ok (.aload_n 0, 1) := by decide +kernel
theorem dX5_needWord_9 : decode cX5_needWord 9 = .ok (.bipush (-2), 2) := by decide +kernel
theorem dX5_needWord_11 : decode cX5_needWord 11 = .ok (.invokevirtual 74, 3) := by decide +kernel
theorem dX5_needWord_14 : decode cX5_needWord 14 = .ok (.return_, 1) := by decide +kernel
theorem dX5_needSign_0 : decode cX5_needSign 0 = .ok (.aload_n 0, 1) := by decide +kernel
theorem dX5_needSign_1 : decode cX5_needSign 1 = .ok (.iload_n 1, 1) := by decide +kernel
theorem dX5_needSign_2 : decode cX5_needSign 2 = .ok (.invokevirtual 78, 3) := by decide +kernel
theorem dX5_needSign_5 : decode cX5_needSign 5 = .ok (.ifCond .ne 9, 3) := by decide +kernel
theorem dX5_needSign_8 : decode cX5_needSign 8 = .ok (.aload_n 0, 1) := by decide +kernel
theorem dX5_needSign_9 : decode cX5_needSign 9 = .ok (.bipush (-2), 2) := by decide +kernel
theorem dX5_needSign_11 : decode cX5_needSign 11 = .ok (.invokevirtual 74, 3) := by decide +kernel
theorem dX5_needSign_14 : decode cX5_needSign 14 = .ok (.return_, 1) := by decide +kernel
theorem dX5_needNumber_0 : decode cX5_needNumber 0 = .ok (.aload_n 0, 1) := by decide +kernel
theorem dX5_needNumber_1 : decode cX5_needNumber 1 = .ok (.getfield 15, 3) := by decide +kernel
theorem dX5_needNumber_4 : decode cX5_needNumber 4 = .ok (.iconst 1, 1) := by decide +kernel
theorem dX5_needNumber_5 : decode cX5_needNumber 5 = .ok (.if_icmp .eq 11, 3) := by decide +kernel
theorem dX5_needNumber_8 : decode cX5_needNumber 8 = .ok (.aload_n 0, 1) := by decide +kernel
theorem dX5_needNumber_9 : decode cX5_needNumber 9 = .ok (.bipush (-2), 2) := by decide +kernel
theorem dX5_needNumber_11 : decode cX5_needNumber 11 = .ok (.invokevirtual 74, 3) := by decide +kernel
theorem dX5_needNumber_14 : decode cX5_needNumber 14 = .ok (.iload_n 1, 1) := by decide +kernel
theorem dX5_needNumber_15 : decode cX5_needNumber 15 = .ok (.ireturn, 1) := by decide +kernel
theorem dX5_needNumber_16 : decode cX5_needNumber 16 = .ok (.aload_n 0, 1) := by decide +kernel
theorem dX5_needNumber_17 : decode cX5_needNumber 17 = .ok (.getfield 24, 3) := by decide +kernel
theorem dX5_needNumber_20 : decode cX5_needNumber 20 = .ok (.istore_n 3, 1) := by decide +kernel
theorem dX5_needNumber_21 : decode cX5_needNumber 21 = .ok (.iload_n 3, 1) := by decide +kernel
theorem dX5_needNumber_22 : decode cX5_needNumber 22 = .ok (.iload_n 1, 1) := by decide +kernel
theorem dX5_needNumber_23 : decode cX5_needNumber 23 = .ok (.if_icmp .lt 8, 3) := by decide +kernel
theorem dX5_needNumber_26 : decode cX5_needNumber 26 = .ok (.iload_n 3, 1) := by decide +kernel
theorem dX5_needNumber_27 : decode cX5_needNumber 27 = .ok (.iload_n 2, 1) := by decide +kernel
theorem dX5_needNumber_28 : decode cX5_needNumber 28 = .ok (.if_icmp .le 11, 3) := by decide +kernel
theorem dX5_needNumber_31 : decode cX5_needNumber 31 = .ok (.aload_n 0, 1) := by decide +kernel
theorem dX5_needNumber_32 : decode cX5_needNumber 32 = .ok (.bipush (-3), 2) := by decide +kernel
theorem dX5_needNumber_34 : decode cX5_needNumber 34 = .ok (.invokevirtual 74, 3) := by decide +kernel
theorem dX5_needNumber_37 : decode cX5_needNumber 37 = .ok (.iload_n 1, 1) := by decide +kernel
theorem dX5_needNumber_38 : decode cX5_needNumber 38 = .ok (.ireturn, 1) := by decide +kernel
theorem dX5_needNumber_39 : decode cX5_needNumber 39 = .ok (.aload_n 0, 1) := by decide +kernel
theorem dX5_needNumber_40 : decode cX5_needNumber 40 = .ok (.invokevirtual 40, 3) := by decide +kernel
theorem dX5_needNumber_43 : decode cX5_needNumber 43 = .ok (.iload_n 3, 1) := by decide +kernel
theorem dX5_needNumber_44 : decode cX5_needNumber 44 = .ok (.ireturn, 1) := by decide +kernel
theorem dX6_init_0 : decode cX6_init 0 = .ok (.aload_n 0, 1) := by decide +kernel
theorem dX6_init_1 : decode cX6_init 1 = .ok (.invokespecial 3, 3) := by decide +kernel
theorem dX6_init_4 : decode cX6_init 4 = .ok (.aload_n 0, 1) := by decide +kernel
theorem dX6_init_5 : decode cX6_init 5 = .ok (.sipush 700, 3) := by decide +kernel
theorem dX6_init_8 : decode cX6_init 8 = .ok (.newarray .byte, 2) := by decide +kernel
theorem dX6_init_10 : decode cX6_init 10 = .ok (.putfield 9, 3) := by decide +kernel
theorem dX6_init_13 : decode cX6_init 13 = .ok (.aload_n 0, 1) := by decide +kernel
theorem dX6_init_14 : decode cX6_init 14 = .ok (.new 13, 3) := by decide +kernel
theorem dX6_init_17 : decode cX6_init 17 = .ok (.dup, 1) := by decide +kernel
theorem dX6_init_18 : decode cX6_init 18 = .ok (.aload_n 0, 1) := by decide +kernel
theorem dX6_init_19 : decode cX6_init 19 = .ok (.getfield 9, 3) := by decide +kernel
theorem dX6_init_22 : decode cX6_init 22 = .ok (.invokespecial 15, 3) := by decide +kernel
theorem dX6_init_25 : decode cX6_init 25 = .ok (.putfield 18, 3) := by decide +kernel
theorem dX6_init_28 : decode cX6_init 28 = .ok (.aload_n 0, 1) := by decide +kernel
theorem dX6_init_29 : decode cX6_init 29 = .ok (.new 22, 3) := by decide +kernel
theorem dX6_init_32 : decode cX6_init 32 = .ok (.dup, 1) := by decide +kernel
theorem dX6_init_33 : decode cX6_init 33 = .ok (.invokespecial 24, 3) := by decide +kernel
theorem dX6_init_36 : decode cX6_init 36 = .ok (.putfield 25, 3) := by decide +kernel
theorem dX6_init_39 : decode cX6_init 39 = .ok (.aload_n 0, 1) := by decide +kernel
theorem dX6_init_40 : decode cX6_init 40 = .ok (.new 22, 3) := by decide +kernel
theorem dX6_init_43 : decode cX6_init 43 = .ok (.dup, 1) := by decide +kernel
theorem dX6_init_44 : decode cX6_init 44 = .ok (.invokespecial 24, 3) := by decide +kernel
theorem dX6_init_47 : decode cX6_init 47 = .ok (.putfield 29, 3) := by decide +kernel
theorem dX6_init_50 : decode cX6_init 50 = .ok (.aload_n 0, 1) := by decide +kernel
theorem dX6_init_51 : decode cX6_init 51 = .ok (.new 32, 3) := by decide +kernel
theorem dX6_init_54 : decode cX6_init 54 = .ok (.dup, 1) := by decide +kernel
theorem dX6_init_55 : decode cX6_init 55 = .ok (.invokespecial 34, 3) := by decide +kernel
theorem dX6_init_58 : decode cX6_init 58 = .ok (.putfield 35, 3) := by decide +kernel
theorem dX6_init_61 : decode cX6_init 61 = .ok (.aload_n 0, 1) := by decide +kernel
theorem dX6_init_62 : decode cX6_init 62 = .ok (.iconst 0, 1) := by decide +kernel
theorem dX6_init_63 : decode cX6_init 63 = .ok (.putfield 39, 3) := by decide +kernel
theorem dX6_init_66 : decode cX6_init 66 = .ok (.aload_n 0, 1) := by decide +kernel
theorem dX6_init_67 : decode cX6_init 67 = .ok (.iconst (-1), 1) := by decide +kernel
theorem dX6_init_68 : decode cX6_init 68 = .ok (.putfield 43, 3) := by decide +kernel
theorem dX6_init_71 : decode cX6_init 71 = .ok (.return_, 1) := by decide +kernel
theorem dX6_append_0 : decode cX6_append 0 = .ok (.aload_n 0, 1) := by decide +kernel
theorem dX6_append_1 : decode cX6_append 1 = .ok (.getfield 39, 3) := by decide +kernel
theorem dX6_append_4 : decode cX6_append 4 = .ok (.bipush 20, 2) := by decide +kernel
theorem dX6_append_6 : decode cX6_append 6 = .ok (.iadd, 1) := by decide +kernel
theorem dX6_append_7 : decode cX6_append 7 = .ok (.sipush 700, 3) := by decide +kernel
theorem dX6_append_10 : decode cX6_append 10 = .ok (.if_icmp .le 5, 3) := by decide +kernel
theorem dX6_append_13 : decode cX6_append 13 = .ok (.iconst (-1), 1) := by decide +kernel
theorem dX6_append_14 : decode cX6_append 14 = .ok (.ireturn, 1) := by decide +kernel
theorem dX6_append_15 : decode cX6_append 15 = .ok (.aload_n 0, 1) := by decide +kernel
theorem dX6_append_16 : decode cX6_append 16 = .ok (.aload_n 0, 1) := by decide +kernel
theorem dX6_append_17 : decode cX6_append 17 = .ok (.getfield 39, 3) := by decide +kernel
theorem dX6_append_20 : decode cX6_append 20 = .ok (.iload_n 1, 1) := by decide +kernel
theorem dX6_append_21 : decode cX6_append 21 = .ok (.invokevirtual 46, 3) := by decide +kernel
theorem dX6_append_24 : decode cX6_append 24 = .ok (.aload_n 0, 1) := by decide +kernel
theorem dX6_append_25 : decode cX6_append 25 = .ok (.aload_n 0, 1) := by decide +kernel
theorem dX6_append_26 : decode cX6_append 26 = .ok (.getfield 39, 3) := by decide +kernel
theorem dX6_append_29 : decode cX6_append 29 = .ok (.iconst 4, 1) := by decide +kernel
theorem dX6_append_30 : decode cX6_append 30 = .ok (.iadd, 1) := by decide +kernel
theorem dX6_append_31 : decode cX6_append 31 = .ok (.iload_n 2, 1) := by decide +kernel
theorem dX6_append_32 : decode cX6_append 32 = .ok (.invokevirtual 46, 3) := by decide +kernel
theorem dX6_append_35 : decode cX6_append 35 = .ok (.aload_n 0, 1) := by decide +kernel
theorem dX6_append_36 : decode cX6_append 36 = .ok (.aload_n 0, 1) := by decide +kernel
theorem dX6_append_37 : decode cX6_append 37 = .ok (.getfield 39, 3) := by decide +kernel
theorem dX6_append_40 : decode cX6_append 40 = .ok (.bipush 8, 2) := by decide +kernel
theorem dX6_append_42 : decode cX6_append 42 = .ok (.iadd, 1) := by decide +kernel
theorem dX6_append_43 : decode cX6_append 43 = .ok (.iload_n 3, 1) := by decide +kernel
theorem dX6_append_44 : decode cX6_append 44 = .ok (.invokevirtual 46, 3) := by decide +kernel
theorem dX6_append_47 : decode cX6_append 47 = .ok (.aload_n 0, 1) := by decide +kernel
theorem dX6_append_48 : decode cX6_append 48 = .ok (.aload_n 0, 1) := by decide +kernel
theorem dX6_append_49 : decode cX6_append 49 = .ok (.getfield 39, 3) := by decide +kernel
theorem dX6_append_52 : decode cX6_append 52 = .ok (.bipush 12, 2) := by decide +kernel
theorem dX6_append_54 : decode cX6_append 54 = .ok (.iadd, 1) := by decide +kernel
theorem dX6_append_55 : decode cX6_append 55 = .ok (.iload 4, 2) := by decide +kernel
theorem dX6_append_57 : decode cX6_append 57 = .ok (.invokevirtual 46, 3) := by decide +kernel
theorem dX6_append_60 : decode cX6_append 60 = .ok (.aload_n 0, 1) := by decide +kernel
theorem dX6_append_61 : decode cX6_append 61 = .ok (.aload_n 0, 1) := by decide +kernel
theorem dX6_append_62 : decode cX6_append 62 = .ok (.getfield 39, 3) := by decide +kernel
theorem dX6_append_65 : decode cX6_append 65 = .ok (.bipush 16, 2) := by decide +kernel
theorem dX6_append_67 : decode cX6_append 67 = .ok (.iadd, 1) := by decide +kernel
theorem dX6_append_68 : decode cX6_append 68 = .ok (.iload 5, 2) := by decide +kernel
theorem dX6_append_70 : decode cX6_append 70 = .ok (.invokevirtual 46, 3) := by decide +kernel
theorem dX6_append_73 : decode cX6_append 73 = .ok (.aload_n 0, 1) := by decide +kernel
theorem dX6_append_74 : decode cX6_append 74 = .ok (.dup, 1) := by decide +kernel
theorem dX6_append_75 : decode cX6_append 75 = .ok (.getfield 39, 3) := by decide +kernel
theorem dX6_append_78 : decode cX6_append 78 = .ok (.bipush 20, 2) := by decide +kernel
theorem dX6_append_80 : decode cX6_append 80 = .ok (.iadd, 1) := by decide +kernel
theorem dX6_append_81 : decode cX6_append 81 = .ok (.putfield 39, 3) := by decide +kernel
theorem dX6_append_84 : decode cX6_append 84 = .ok (.aload_n 0, 1) := by decide +kernel
theorem dX6_append_85 : decode cX6_append 85 = .ok (.getfield 39, 3) := by decide +kernel
theorem dX6_append_88 : decode cX6_append 88 = .ok (.ireturn, 1) := by decide +kernel
theorem dX6_load_0 : decode cX6_load 0 = .ok (.iload_n 1, 1) := by decide +kernel
theorem dX6_load_1 : decode cX6_load 1 = .ok (.ifCond .lt 11, 3) := by decide +kernel
theorem dX6_load_4 : decode cX6_load 4 = .ok (.iload_n 1, 1) := by decide +kernel
theorem dX6_load_5 : decode cX6_load 5 = .ok (.aload_n 0, 1) := by decide +kernel
theorem dX6_load_6 : decode cX6_load 6 = .ok (.getfield 39, 3) := by decide +kernel
theorem dX6_load_9 : decode cX6_load 9 = .ok (.if_icmp .le 13, 3) := by decide +kernel
theorem dX6_load_12 : decode cX6_load 12 = .ok (.new 50, 3) := by decide +kernel
theorem dX6_load_15 : decode cX6_load 15 = .ok (.dup, 1) := by decide +kernel
theorem dX6_load_16 : decode cX6_load 16 = .ok (.ldc 52, 2) := by decide +kernel
theorem dX6_load_18 : decode cX6_load 18 = .ok (.invokespecial 54, 3) := by decide +kernel
theorem dX6_load_21 : decode cX6_load 21 = .ok (.athrow, 1) := by decide +kernel
theorem dX6_load_22 : decode cX6_load 22 = .ok (.aload_n 0, 1) := by decide +kernel
theorem dX6_load_23 : decode cX6_load 23 = .ok (.iconst 0, 1) := by decide +kernel
theorem dX6_load_24 : decode cX6_load 24 = .ok (.putfield 39, 3) := by decide +kernel
theorem dX6_load_27 : decode cX6_load 27 = .ok (.aload_n 0, 1) := by decide +kernel
theorem dX6_load_28 : decode cX6_load 28 = .ok (.getfield 18, 3) := by decide +kernel
theorem dX6_load_31 : decode cX6_load 31 = .ok (.iload_n 1, 1) := by decide +kernel
theorem dX6_load_32 : decode cX6_load 32 = .ok (.aload_n 0, 1) := by decide +kernel
theorem dX6_load_33 : decode cX6_load 33 = .ok (.getfield 29, 3) := by decide +kernel
theorem dX6_load_36 : decode cX6_load 36 = .ok (.invokevirtual 57, 3) := by decide +kernel
theorem dX6_load_39 : decode cX6_load 39 = .ok (.istore_n 2, 1) := by decide +kernel
theorem dX6_load_40 : decode cX6_load 40 = .ok (.aload_n 0, 1) := by decide +kernel
theorem dX6_load_41 : decode cX6_load 41 = .ok (.aload_n 0, 1) := by decide +kernel
theorem dX6_load_42 : decode cX6_load 42 = .ok (.getfield 18, 3) := by decide +kernel
theorem dX6_load_45 : decode cX6_load 45 = .ok (.invokevirtual 61, 3) := by decide +kernel
theorem dX6_load_48 : decode cX6_load 48 = .ok (.putfield 43, 3) := by decide +kernel
theorem dX6_load_51 : decode cX6_load 51 = .ok (.iload_n 2, 1) := by decide +kernel
theorem dX6_load_52 : decode cX6_load 52 = .ok (.ifCond .eq 5, 3) := by decide +kernel
theorem dX6_load_55 : decode cX6_load 55 = .ok (.iload_n 2, 1) := by decide +kernel
theorem dX6_load_56 : decode cX6_load 56 = .ok (.ireturn, 1) := by decide +kernel
theorem dX6_load_57 : decode cX6_load 57 = .ok (.aload_n 0, 1) := by decide +kernel
theorem dX6_load_58 : decode cX6_load 58 = .ok (.getfield 35, 3) := by decide +kernel
theorem dX6_load_61 : decode cX6_load 61 = .ok (.aload_n 0, 1) := by decide +kernel
theorem dX6_load_62 : decode cX6_load 62 = .ok (.getfield 25, 3) := by decide +kernel
theorem dX6_load_65 : decode cX6_load 65 = .ok (.invokevirtual 65, 3) := by decide +kernel
theorem dX6_load_68 : decode cX6_load 68 = .ok (.aload_n 0, 1) := by decide +kernel
theorem dX6_load_69 : decode cX6_load 69 = .ok (.getfield 25, 3) := by decide +kernel
theorem dX6_load_72 : decode cX6_load 72 = .ok (.aload_n 0, 1) := by decide +kernel
theorem dX6_load_73 : decode cX6_load 73 = .ok (.getfield 29, 3) := by decide +kernel
theorem dX6_load_76 : decode cX6_load 76 = .ok (.invokevirtual 69, 3) := by decide +kernel
theorem dX6_load_79 : decode cX6_load 79 = .ok (.aload_n 0, 1) := by decide +kernel
theorem dX6_load_80 : decode cX6_load 80 = .ok (.getfield 25, 3) := by decide +kernel
theorem dX6_load_83 : decode cX6_load 83 = .ok (.getfield 72, 3) := by decide +kernel
theorem dX6_load_86 : decode cX6_load 86 = .ok (.ireturn, 1) := by decide +kernel
theorem dX6_errorOffset_0 : decode cX6_errorOffset 0 = .ok (.aload_n 0, 1) := by decide +kernel
theorem dX6_errorOffset_1 : decode cX6_errorOffset 1 = .ok (.getfield 43, 3) := by decide +kernel
theorem dX6_errorOffset_4 : decode cX6_errorOffset 4 = .ok (.ireturn, 1) := by decide +kernel
theorem dX6_roleCount_0 : decode cX6_roleCount 0 = .ok (.aload_n 0, 1) := by decide +kernel
theorem dX6_roleCount_1 : decode cX6_roleCount 1 = .ok (.getfield 25, 3) := by decide +kernel
theorem dX6_roleCount_4 : decode cX6_roleCount 4 = .ok (.getfield 75, 3) := by decide +kernel
theorem dX6_roleCount_7 : decode cX6_roleCount 7 = .ok (.ireturn, 1) := by decide +kernel
theorem dX6_ruleCount_0 : decode cX6_ruleCount 0 = .ok (.aload_n 0, 1) := by decide +kernel
theorem dX6_ruleCount_1 : decode cX6_ruleCount 1 = .ok (.getfield 25, 3) := by decide +kernel
theorem dX6_ruleCount_4 : decode cX6_ruleCount 4 = .ok (.getfield 72, 3) := by decide +kernel
theorem dX6_ruleCount_7 : decode cX6_ruleCount 7 = .ok (.ireturn, 1) := by decide +kernel
theorem dX6_colour_0 : decode cX6_colour 0 = .ok (.aload_n 0, 1) := by decide +kernel
theorem dX6_colour_1 : decode cX6_colour 1 = .ok (.iload_n 1, 1) := by decide +kernel
theorem dX6_colour_2 : decode cX6_colour 2 = .ok (.invokevirtual 78, 3) := by decide +kernel
theorem dX6_colour_5 : decode cX6_colour 5 = .ok (.aload_n 0, 1) := by decide +kernel
theorem dX6_colour_6 : decode cX6_colour 6 = .ok (.iload_n 2, 1) := by decide +kernel
theorem dX6_colour_7 : decode cX6_colour 7 = .ok (.invokevirtual 82, 3) := by decide +kernel
theorem dX6_colour_10 : decode cX6_colour 10 = .ok (.aload_n 0, 1) := by decide +kernel
theorem dX6_colour_11 : decode cX6_colour 11 = .ok (.getfield 25, 3) := by decide +kernel
theorem dX6_colour_14 : decode cX6_colour 14 = .ok (.getfield 85, 3) := by decide +kernel
theorem dX6_colour_17 : decode cX6_colour 17 = .ok (.iload_n 2, 1) := by decide +kernel
theorem dX6_colour_18 : decode cX6_colour 18 = .ok (.aaload, 1) := by decide +kernel
theorem dX6_colour_19 : decode cX6_colour 19 = .ok (.iload_n 1, 1) := by decide +kernel
theorem dX6_colour_20 : decode cX6_colour 20 = .ok (.iaload, 1) := by decide +kernel
theorem dX6_colour_21 : decode cX6_colour 21 = .ok (.ireturn, 1) := by decide +kernel
theorem dX6_isFixed_0 : decode cX6_isFixed 0 = .ok (.aload_n 0, 1) := by decide +kernel
theorem dX6_isFixed_1 : decode cX6_isFixed 1 = .ok (.iload_n 1, 1) := by decide +kernel
theorem dX6_isFixed_2 : decode cX6_isFixed 2 = .ok (.invokevirtual 78, 3) := by decide +kernel
theorem dX6_isFixed_5 : decode cX6_isFixed 5 = .ok (.aload_n 0, 1) := by decide +kernel
theorem dX6_isFixed_6 : decode cX6_isFixed 6 = .ok (.getfield 25, 3) := by decide +kernel
theorem dX6_isFixed_9 : decode cX6_isFixed 9 = .ok (.getfield 89, 3) := by decide +kernel
theorem dX6_isFixed_12 : decode cX6_isFixed 12 = .ok (.iload_n 1, 1) := by decide +kernel
theorem dX6_isFixed_13 : decode cX6_isFixed 13 = .ok (.baload, 1) := by decide +kernel
theorem dX6_isFixed_14 : decode cX6_isFixed 14 = .ok (.ireturn, 1) := by decide +kernel
theorem dX6_luminance_0 : decode cX6_luminance 0 = .ok (.aload_n 0, 1) := by decide +kernel
theorem dX6_luminance_1 : decode cX6_luminance 1 = .ok (.iload_n 1, 1) := by decide +kernel
theorem dX6_luminance_2 : decode cX6_luminance 2 = .ok (.invokevirtual 78, 3) := by decide +kernel
theorem dX6_luminance_5 : decode cX6_luminance 5 = .ok (.aload_n 0, 1) := by decide +kernel
theorem dX6_luminance_6 : decode cX6_luminance 6 = .ok (.iload_n 2, 1) := by decide +kernel
theorem dX6_luminance_7 : decode cX6_luminance 7 = .ok (.invokevirtual 82, 3) := by decide +kernel
theorem dX6_luminance_10 : decode cX6_luminance 10 = .ok (.aload_n 0, 1) := by decide +kernel
theorem dX6_luminance_11 : decode cX6_luminance 11 = .ok (.getfield 25, 3) := by decide +kernel
theorem dX6_luminance_14 : decode cX6_luminance 14 = .ok (.getfield 85, 3) := by decide +kernel
theorem dX6_luminance_17 : decode cX6_luminance 17 = .ok (.iload_n 2, 1) := by decide +kernel
theorem dX6_luminance_18 : decode cX6_luminance 18 = .ok (.aaload, 1) := by decide +kernel
theorem dX6_luminance_19 : decode cX6_luminance 19 = .ok (.iload_n 1, 1) := by decide +kernel
theorem dX6_luminance_20 : decode cX6_luminance 20 = .ok (.iaload, 1) := by decide +kernel
theorem dX6_luminance_21 : decode cX6_luminance 21 = .ok (.invokestatic 93, 3) := by decide +kernel
theorem dX6_luminance_24 : decode cX6_luminance 24 = .ok (.ireturn, 1) := by decide +kernel
theorem dX6_contrast_0 : decode cX6_contrast 0 = .ok (.aload_n 0, 1) := by decide +kernel
theorem dX6_contrast_1 : decode cX6_contrast 1 = .ok (.iload_n 1, 1) := by decide +kernel
theorem dX6_contrast_2 : decode cX6_contrast 2 = .ok (.invokevirtual 78, 3) := by decide +kernel
theorem dX6_contrast_5 : decode cX6_contrast 5 = .ok (.aload_n 0, 1) := by decide +kernel
theorem dX6_contrast_6 : decode cX6_contrast 6 = .ok (.iload_n 2, 1) := by decide +kernel
theorem dX6_contrast_7 : decode cX6_contrast 7 = .ok (.invokevirtual 78, 3) := by decide +kernel
theorem dX6_contrast_10 : decode cX6_contrast 10 = .ok (.aload_n 0, 1) := by decide +kernel
theorem dX6_contrast_11 : decode cX6_contrast 11 = .ok (.iload_n 3, 1) := by decide +kernel
theorem dX6_contrast_12 : decode cX6_contrast 12 = .ok (.invokevirtual 82, 3) := by decide +kernel
theorem dX6_contrast_15 : decode cX6_contrast 15 = .ok (.aload_n 0, 1) := by decide +kernel
theorem dX6_contrast_16 : decode cX6_contrast 16 = .ok (.getfield 25, 3) := by decide +kernel
theorem dX6_contrast_19 : decode cX6_contrast 19 = .ok (.getfield 85, 3) := by decide +kernel
theorem dX6_contrast_22 : decode cX6_contrast 22 = .ok (.iload_n 3, 1) := by decide +kernel
theorem dX6_contrast_23 : decode cX6_contrast 23 = .ok (.aaload, 1) := by decide +kernel
theorem dX6_contrast_24 : decode cX6_contrast 24 = .ok (.iload_n 1, 1) := by decide +kernel
theorem dX6_contrast_25 : decode cX6_contrast 25 = .ok (.iaload, 1) := by decide +kernel
theorem dX6_contrast_26 : decode cX6_contrast 26 = .ok (.aload_n 0, 1) := by decide +kernel
theorem dX6_contrast_27 : decode cX6_contrast 27 = .ok (.getfield 25, 3) := by decide +kernel
theorem dX6_contrast_30 : decode cX6_contrast 30 = .ok (.getfield 85, 3) := by decide +kernel
theorem dX6_contrast_33 : decode cX6_contrast 33 = .ok (.iload_n 3, 1) := by decide +kernel
theorem dX6_contrast_34 : decode cX6_contrast 34 = .ok (.aaload, 1) := by decide +kernel
theorem dX6_contrast_35 : decode cX6_contrast 35 = .ok (.iload_n 2, 1) := by decide +kernel
theorem dX6_contrast_36 : decode cX6_contrast 36 = .ok (.iaload, 1) := by decide +kernel
theorem dX6_contrast_37 : decode cX6_contrast 37 = .ok (.invokestatic 99, 3) := by decide +kernel
theorem dX6_contrast_40 : decode cX6_contrast 40 = .ok (.ireturn, 1) := by decide +kernel
theorem dX6_seen_0 : decode cX6_seen 0 = .ok (.aload_n 0, 1) := by decide +kernel
theorem dX6_seen_1 : decode cX6_seen 1 = .ok (.iload_n 1, 1) := by decide +kernel
theorem dX6_seen_2 : decode cX6_seen 2 = .ok (.invokevirtual 78, 3) := by decide +kernel
theorem dX6_seen_5 : decode cX6_seen 5 = .ok (.aload_n 0, 1) := by decide +kernel
theorem dX6_seen_6 : decode cX6_seen 6 = .ok (.iload_n 2, 1) := by decide +kernel
theorem dX6_seen_7 : decode cX6_seen 7 = .ok (.invokevirtual 82, 3) := by decide +kernel
theorem dX6_seen_10 : decode cX6_seen 10 = .ok (.aload_n 0, 1) := by decide +kernel
theorem dX6_seen_11 : decode cX6_seen 11 = .ok (.iload_n 3, 1) := by decide +kernel
theorem dX6_seen_12 : decode cX6_seen 12 = .ok (.invokevirtual 103, 3) := by decide +kernel
theorem dX6_seen_15 : decode cX6_seen 15 = .ok (.aload_n 0, 1) := by decide +kernel
theorem dX6_seen_16 : decode cX6_seen 16 = .ok (.getfield 25, 3) := by decide +kernel
theorem dX6_seen_19 : decode cX6_seen 19 = .ok (.getfield 85, 3) := by decide +kernel
theorem dX6_seen_22 : decode cX6_seen 22 = .ok (.iload_n 2, 1) := by decide +kernel
theorem dX6_seen_23 : decode cX6_seen 23 = .ok (.aaload, 1) := by decide +kernel
theorem dX6_seen_24 : decode cX6_seen 24 = .ok (.iload_n 1, 1) := by decide +kernel
theorem dX6_seen_25 : decode cX6_seen 25 = .ok (.iaload, 1) := by decide +kernel
theorem dX6_seen_26 : decode cX6_seen 26 = .ok (.iload_n 3, 1) := by decide +kernel
theorem dX6_seen_27 : decode cX6_seen 27 = .ok (.invokestatic 106, 3) := by decide +kernel
theorem dX6_seen_30 : decode cX6_seen 30 = .ok (.ireturn, 1) := by decide +kernel
theorem dX6_difference_0 : decode cX6_difference 0 = .ok (.aload_n 0, 1) := by decide +kernel
theorem dX6_difference_1 : decode cX6_difference 1 = .ok (.iload_n 1, 1) := by decide +kernel
theorem dX6_difference_2 : decode cX6_difference 2 = .ok (.invokevirtual 78, 3) := by decide +kernel
theorem dX6_difference_5 : decode cX6_difference 5 = .ok (.aload_n 0, 1) := by decide +kernel
theorem dX6_difference_6 : decode cX6_difference 6 = .ok (.iload_n 2, 1) := by decide +kernel
theorem dX6_difference_7 : decode cX6_difference 7 = .ok (.invokevirtual 78, 3) := by decide +kernel
theorem dX6_difference_10 : decode cX6_difference 10 = .ok (.aload_n 0, 1) := by decide +kernel
theorem dX6_difference_11 : decode cX6_difference 11 = .ok (.iload_n 3, 1) := by decide +kernel
theorem dX6_difference_12 : decode cX6_difference 12 = .ok (.invokevirtual 82, 3) := by decide +kernel
theorem dX6_difference_15 : decode cX6_difference 15 = .ok (.aload_n 0, 1) := by decide +kernel
theorem dX6_difference_16 : decode cX6_difference 16 = .ok (.iload 4, 2) := by decide +kernel
theorem dX6_difference_18 : decode cX6_difference 18 = .ok (.invokevirtual 103, 3) := by decide +kernel
theorem dX6_difference_21 : decode cX6_difference 21 = .ok (.aload_n 0, 1) := by decide +kernel
theorem dX6_difference_22 : decode cX6_difference 22 = .ok (.getfield 25, 3) := by decide +kernel
theorem dX6_difference_25 : decode cX6_difference 25 = .ok (.getfield 85, 3) := by decide +kernel
theorem dX6_difference_28 : decode cX6_difference 28 = .ok (.iload_n 3, 1) := by decide +kernel
theorem dX6_difference_29 : decode cX6_difference 29 = .ok (.aaload, 1) := by decide +kernel
theorem dX6_difference_30 : decode cX6_difference 30 = .ok (.iload_n 1, 1) := by decide +kernel
theorem dX6_difference_31 : decode cX6_difference 31 = .ok (.iaload, 1) := by decide +kernel
theorem dX6_difference_32 : decode cX6_difference 32 = .ok (.aload_n 0, 1) := by decide +kernel
theorem dX6_difference_33 : decode cX6_difference 33 = .ok (.getfield 25, 3) := by decide +kernel
theorem dX6_difference_36 : decode cX6_difference 36 = .ok (.getfield 85, 3) := by decide +kernel
theorem dX6_difference_39 : decode cX6_difference 39 = .ok (.iload_n 3, 1) := by decide +kernel
theorem dX6_difference_40 : decode cX6_difference 40 = .ok (.aaload, 1) := by decide +kernel
theorem dX6_difference_41 : decode cX6_difference 41 = .ok (.iload_n 2, 1) := by decide +kernel
theorem dX6_difference_42 : decode cX6_difference 42 = .ok (.iaload, 1) := by decide +kernel
theorem dX6_difference_43 : decode cX6_difference 43 = .ok (.iload 4, 2) := by decide +kernel
theorem dX6_difference_45 : decode cX6_difference 45 = .ok (.invokestatic 109, 3) := by decide +kernel
theorem dX6_difference_48 : decode cX6_difference 48 = .ok (.ireturn, 1) := by decide +kernel
theorem dX6_nearest_0 : decode cX6_nearest 0 = .ok (.aload_n 0, 1) := by decide +kernel
theorem dX6_nearest_1 : decode cX6_nearest 1 = .ok (.iload_n 2, 1) := by decide +kernel
theorem dX6_nearest_2 : decode cX6_nearest 2 = .ok (.invokevirtual 82, 3) := by decide +kernel
theorem dX6_nearest_5 : decode cX6_nearest 5 = .ok (.aload_n 0, 1) := by decide +kernel
theorem dX6_nearest_6 : decode cX6_nearest 6 = .ok (.iload_n 1, 1) := by decide +kernel
theorem dX6_nearest_7 : decode cX6_nearest 7 = .ok (.invokevirtual 113, 3) := by decide +kernel
theorem dX6_nearest_10 : decode cX6_nearest 10 = .ok (.aload_n 0, 1) := by decide +kernel
theorem dX6_nearest_11 : decode cX6_nearest 11 = .ok (.getfield 25, 3) := by decide +kernel
theorem dX6_nearest_14 : decode cX6_nearest 14 = .ok (.iload_n 1, 1) := by decide +kernel
theorem dX6_nearest_15 : decode cX6_nearest 15 = .ok (.iload_n 2, 1) := by decide +kernel
theorem dX6_nearest_16 : decode cX6_nearest 16 = .ok (.invokevirtual 116, 3) := by decide +kernel
theorem dX6_nearest_19 : decode cX6_nearest 19 = .ok (.ireturn, 1) := by decide +kernel
theorem dX6_need_0 : decode cX6_need 0 = .ok (.aload_n 0, 1) := by decide +kernel
theorem dX6_need_1 : decode cX6_need 1 = .ok (.iload_n 1, 1) := by decide +kernel
theorem dX6_need_2 : decode cX6_need 2 = .ok (.invokevirtual 119, 3) := by decide +kernel
theorem dX6_need_5 : decode cX6_need 5 = .ok (.aload_n 0, 1) := by decide +kernel
theorem dX6_need_6 : decode cX6_need 6 = .ok (.iload_n 2, 1) := by decide +kernel
theorem dX6_need_7 : decode cX6_need 7 = .ok (.invokevirtual 82, 3) := by decide +kernel
theorem dX6_need_10 : decode cX6_need 10 = .ok (.aload_n 0, 1) := by decide +kernel
theorem dX6_need_11 : decode cX6_need 11 = .ok (.getfield 25, 3) := by decide +kernel
theorem dX6_need_14 : decode cX6_need 14 = .ok (.getfield 122, 3) := by decide +kernel
theorem dX6_need_17 : decode cX6_need 17 = .ok (.iload_n 2, 1) := by decide +kernel
theorem dX6_need_18 : decode cX6_need 18 = .ok (.aaload, 1) := by decide +kernel
theorem dX6_need_19 : decode cX6_need 19 = .ok (.iload_n 1, 1) := by decide +kernel
theorem dX6_need_20 : decode cX6_need 20 = .ok (.iaload, 1) := by decide +kernel
theorem dX6_need_21 : decode cX6_need 21 = .ok (.ireturn, 1) := by decide +kernel
theorem dX6_value_0 : decode cX6_value 0 = .ok (.aload_n 0, 1) := by decide +kernel
theorem dX6_value_1 : decode cX6_value 1 = .ok (.iload_n 1, 1) := by decide +kernel
theorem dX6_value_2 : decode cX6_value 2 = .ok (.invokevirtual 119, 3) := by decide +kernel
theorem dX6_value_5 : decode cX6_value 5 = .ok (.aload_n 0, 1) := by decide +kernel
theorem dX6_value_6 : decode cX6_value 6 = .ok (.iload_n 2, 1) := by decide +kernel
theorem dX6_value_7 : decode cX6_value 7 = .ok (.invokevirtual 82, 3) := by decide +kernel
theorem dX6_value_10 : decode cX6_value 10 = .ok (.aload_n 0, 1) := by decide +kernel
theorem dX6_value_11 : decode cX6_value 11 = .ok (.getfield 25, 3) := by decide +kernel
theorem dX6_value_14 : decode cX6_value 14 = .ok (.iload_n 1, 1) := by decide +kernel
theorem dX6_value_15 : decode cX6_value 15 = .ok (.iload_n 2, 1) := by decide +kernel
theorem dX6_value_16 : decode cX6_value 16 = .ok (.invokevirtual 125, 3) := by decide +kernel
theorem dX6_value_19 : decode cX6_value 19 = .ok (.ireturn, 1) := by decide +kernel
theorem dX6_violations_0 : decode cX6_violations 0 = .ok (.aload_n 0, 1) := by decide +kernel
theorem dX6_violations_1 : decode cX6_violations 1 = .ok (.getfield 25, 3) := by decide +kernel
theorem dX6_violations_4 : decode cX6_violations 4 = .ok (.iconst 0, 1) := by decide +kernel
theorem dX6_violations_5 : decode cX6_violations 5 = .ok (.invokevirtual 128, 3) := by decide +kernel
theorem dX6_violations_8 : decode cX6_violations 8 = .ok (.aload_n 0, 1) := by decide +kernel
theorem dX6_violations_9 : decode cX6_violations 9 = .ok (.getfield 25, 3) := by decide +kernel
theorem dX6_violations_12 : decode cX6_violations 12 = .ok (.iconst 1, 1) := by decide +kernel
theorem dX6_violations_13 : decode cX6_violations 13 = .ok (.invokevirtual 128, 3) := by decide +kernel
theorem dX6_violations_16 : decode cX6_violations 16 = .ok (.iadd, 1) := by decide +kernel
theorem dX6_violations_17 : decode cX6_violations 17 = .ok (.ireturn, 1) := by decide +kernel
theorem dX6_violation_0 : decode cX6_violation 0 = .ok (.aload_n 0, 1) := by decide +kernel
theorem dX6_violation_1 : decode cX6_violation 1 = .ok (.getfield 25, 3) := by decide +kernel
theorem dX6_violation_4 : decode cX6_violation 4 = .ok (.iload_n 1, 1) := by decide +kernel
theorem dX6_violation_5 : decode cX6_violation 5 = .ok (.invokevirtual 131, 3) := by decide +kernel
theorem dX6_violation_8 : decode cX6_violation 8 = .ok (.istore_n 2, 1) := by decide +kernel
theorem dX6_violation_9 : decode cX6_violation 9 = .ok (.iload_n 2, 1) := by decide +kernel
theorem dX6_violation_10 : decode cX6_violation 10 = .ok (.ifCond .ge 13, 3) := by decide +kernel
theorem dX6_violation_13 : decode cX6_violation 13 = .ok (.new 134, 3) := by decide +kernel
theorem dX6_violation_16 : decode cX6_violation 16 = .ok (.dup, 1) := by decide +kernel
theorem dX6_violation_17 : decode cX6_violation 17 = .ok (.ldc 136, 2) := by decide +kernel
theorem dX6_violation_19 : decode cX6_violation 19 = .ok (.invokespecial 138, 3) := by decide +kernel
theorem dX6_violation_22 : decode cX6_violation 22 = .ok (.athrow, 1) := by decide +kernel
theorem dX6_violation_23 : decode cX6_violation 23 = .ok (.bipush 10, 2) := by decide +kernel
theorem dX6_violation_25 : decode cX6_violation 25 = .ok (.iload_n 2, 1) := by decide +kernel
theorem dX6_violation_26 : decode cX6_violation 26 = .ok (.iconst 2, 1) := by decide +kernel
theorem dX6_violation_27 : decode cX6_violation 27 = .ok (.idiv, 1) := by decide +kernel
theorem dX6_violation_28 : decode cX6_violation 28 = .ok (.imul, 1) := by decide +kernel
theorem dX6_violation_29 : decode cX6_violation 29 = .ok (.iload_n 2, 1) := by decide +kernel
theorem dX6_violation_30 : decode cX6_violation 30 = .ok (.iconst 2, 1) := by decide +kernel
theorem dX6_violation_31 : decode cX6_violation 31 = .ok (.irem, 1) := by decide +kernel
theorem dX6_violation_32 : decode cX6_violation 32 = .ok (.iadd, 1) := by decide +kernel
theorem dX6_violation_33 : decode cX6_violation 33 = .ok (.ireturn, 1) := by decide +kernel
theorem dX6_smallestMargin_0 : decode cX6_smallestMargin 0 = .ok (.aload_n 0, 1) := by decide +kernel
theorem dX6_smallestMargin_1 : decode cX6_smallestMargin 1 = .ok (.iload_n 1, 1) := by decide +kernel
theorem dX6_smallestMargin_2 : decode cX6_smallestMargin 2 = .ok (.invokevirtual 82, 3) := by decide +kernel
theorem dX6_smallestMargin_5 : decode cX6_smallestMargin 5 = .ok (.aload_n 0, 1) := by decide +kernel
theorem dX6_smallestMargin_6 : decode cX6_smallestMargin 6 = .ok (.getfield 25, 3) := by decide +kernel
theorem dX6_smallestMargin_9 : decode cX6_smallestMargin 9 = .ok (.iload_n 1, 1) := by decide +kernel
theorem dX6_smallestMargin_10 : decode cX6_smallestMargin 10 = .ok (.invokevirtual 139, 3) := by decide +kernel
theorem dX6_smallestMargin_13 : decode cX6_smallestMargin 13 = .ok (.ireturn, 1) := by decide +kernel
theorem dX6_bestShift_0 : decode cX6_bestShift 0 = .ok (.aload_n 0, 1) := by decide +kernel
theorem dX6_bestShift_1 : decode cX6_bestShift 1 = .ok (.iload_n 1, 1) := by decide +kernel
theorem dX6_bestShift_2 : decode cX6_bestShift 2 = .ok (.invokevirtual 119, 3) := by decide +kernel
theorem dX6_bestShift_5 : decode cX6_bestShift 5 = .ok (.aload_n 0, 1) := by decide +kernel
theorem dX6_bestShift_6 : decode cX6_bestShift 6 = .ok (.iload_n 2, 1) := by decide +kernel
theorem dX6_bestShift_7 : decode cX6_bestShift 7 = .ok (.invokevirtual 82, 3) := by decide +kernel
theorem dX6_bestShift_10 : decode cX6_bestShift 10 = .ok (.aload_n 0, 1) := by decide +kernel
theorem dX6_bestShift_11 : decode cX6_bestShift 11 = .ok (.getfield 25, 3) := by decide +kernel
theorem dX6_bestShift_14 : decode cX6_bestShift 14 = .ok (.iload_n 1, 1) := by decide +kernel
theorem dX6_bestShift_15 : decode cX6_bestShift 15 = .ok (.iload_n 2, 1) := by decide +kernel
theorem dX6_bestShift_16 : decode cX6_bestShift 16 = .ok (.invokevirtual 142, 3) := by decide +kernel
theorem dX6_bestShift_19 : decode cX6_bestShift 19 = .ok (.ifCond .eq 5, 3) := by decide +kernel
theorem dX6_bestShift_22 : decode cX6_bestShift 22 = .ok (.iconst 0, 1) := by decide +kernel
theorem dX6_bestShift_23 : decode cX6_bestShift 23 = .ok (.ireturn, 1) := by decide +kernel
theorem dX6_bestShift_24 : decode cX6_bestShift 24 = .ok (.aload_n 0, 1) := by decide +kernel
theorem dX6_bestShift_25 : decode cX6_bestShift 25 = .ok (.getfield 25, 3) := by decide +kernel
theorem dX6_bestShift_28 : decode cX6_bestShift 28 = .ok (.iload_n 1, 1) := by decide +kernel
theorem dX6_bestShift_29 : decode cX6_bestShift 29 = .ok (.iload_n 2, 1) := by decide +kernel
theorem dX6_bestShift_30 : decode cX6_bestShift 30 = .ok (.invokevirtual 146, 3) := by decide +kernel
theorem dX6_bestShift_33 : decode cX6_bestShift 33 = .ok (.istore_n 3, 1) := by decide +kernel
theorem dX6_bestShift_34 : decode cX6_bestShift 34 = .ok (.iload_n 3, 1) := by decide +kernel
theorem dX6_bestShift_35 : decode cX6_bestShift 35 = .ok (.ifCond .ge 9, 3) := by decide +kernel
theorem dX6_bestShift_38 : decode cX6_bestShift 38 = .ok (.sipush 9999, 3) := by decide +kernel
theorem dX6_bestShift_41 : decode cX6_bestShift 41 = .ok (.goto 7, 3) := by decide +kernel
theorem dX6_bestShift_44 : decode cX6_bestShift 44 = .ok (.iload_n 3, 1) := by decide +kernel
theorem dX6_bestShift_45 : decode cX6_bestShift 45 = .ok (.invokestatic 149, 3) := by decide +kernel
theorem dX6_bestShift_48 : decode cX6_bestShift 48 = .ok (.ireturn, 1) := by decide +kernel
theorem dX6_shiftRole_0 : decode cX6_shiftRole 0 = .ok (.aload_n 0, 1) := by decide +kernel
theorem dX6_shiftRole_1 : decode cX6_shiftRole 1 = .ok (.iload_n 1, 1) := by decide +kernel
theorem dX6_shiftRole_2 : decode cX6_shiftRole 2 = .ok (.invokevirtual 119, 3) := by decide +kernel
theorem dX6_shiftRole_5 : decode cX6_shiftRole 5 = .ok (.aload_n 0, 1) := by decide +kernel
theorem dX6_shiftRole_6 : decode cX6_shiftRole 6 = .ok (.iload_n 2, 1) := by decide +kernel
theorem dX6_shiftRole_7 : decode cX6_shiftRole 7 = .ok (.invokevirtual 82, 3) := by decide +kernel
theorem dX6_shiftRole_10 : decode cX6_shiftRole 10 = .ok (.aload_n 0, 1) := by decide +kernel
theorem dX6_shiftRole_11 : decode cX6_shiftRole 11 = .ok (.getfield 25, 3) := by decide +kernel
theorem dX6_shiftRole_14 : decode cX6_shiftRole 14 = .ok (.iload_n 1, 1) := by decide +kernel
theorem dX6_shiftRole_15 : decode cX6_shiftRole 15 = .ok (.iload_n 2, 1) := by decide +kernel
theorem dX6_shiftRole_16 : decode cX6_shiftRole 16 = .ok (.invokevirtual 142, 3) := by decide +kernel
theorem dX6_shiftRole_19 : decode cX6_shiftRole 19 = .ok (.ifCond .eq 5, 3) := by decide +kernel
theorem dX6_shiftRole_22 : decode cX6_shiftRole 22 = .ok (.iconst (-1), 1) := by decide +kernel
theorem dX6_shiftRole_23 : decode cX6_shiftRole 23 = .ok (.ireturn, 1) := by decide +kernel
theorem dX6_shiftRole_24 : decode cX6_shiftRole 24 = .ok (.aload_n 0, 1) := by decide +kernel
theorem dX6_shiftRole_25 : decode cX6_shiftRole 25 = .ok (.getfield 25, 3) := by decide +kernel
theorem dX6_shiftRole_28 : decode cX6_shiftRole 28 = .ok (.iload_n 1, 1) := by decide +kernel
theorem dX6_shiftRole_29 : decode cX6_shiftRole 29 = .ok (.iload_n 2, 1) := by decide +kernel
theorem dX6_shiftRole_30 : decode cX6_shiftRole 30 = .ok (.invokevirtual 146, 3) := by decide +kernel
theorem dX6_shiftRole_33 : decode cX6_shiftRole 33 = .ok (.istore_n 3, 1) := by decide +kernel
theorem dX6_shiftRole_34 : decode cX6_shiftRole 34 = .ok (.iload_n 3, 1) := by decide +kernel
theorem dX6_shiftRole_35 : decode cX6_shiftRole 35 = .ok (.ifCond .ge 7, 3) := by decide +kernel
theorem dX6_shiftRole_38 : decode cX6_shiftRole 38 = .ok (.iconst (-1), 1) := by decide +kernel
theorem dX6_shiftRole_39 : decode cX6_shiftRole 39 = .ok (.goto 12, 3) := by decide +kernel
theorem dX6_shiftRole_42 : decode cX6_shiftRole 42 = .ok (.aload_n 0, 1) := by decide +kernel
theorem dX6_shiftRole_43 : decode cX6_shiftRole 43 = .ok (.getfield 25, 3) := by decide +kernel
theorem dX6_shiftRole_46 : decode cX6_shiftRole 46 = .ok (.iload_n 1, 1) := by decide +kernel
