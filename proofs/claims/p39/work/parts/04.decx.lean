theorem dX0_init_0 : decode cX0_init 0 = .ok (.aload_n 0, 1) := by decide +kernel
theorem dX0_init_1 : decode cX0_init 1 = .ok (.invokespecial 3, 3) := by decide +kernel
theorem dX0_init_4 : decode cX0_init 4 = .ok (.aload_n 0, 1) := by decide +kernel
theorem dX0_init_5 : decode cX0_init 5 = .ok (.new 9, 3) := by decide +kernel
theorem dX0_init_8 : decode cX0_init 8 = .ok (.dup, 1) := by decide +kernel
theorem dX0_init_9 : decode cX0_init 9 = .ok (.bipush 60, 2) := by decide +kernel
theorem dX0_init_11 : decode cX0_init 11 = .ok (.invokespecial 11, 3) := by decide +kernel
theorem dX0_init_14 : decode cX0_init 14 = .ok (.putfield 14, 3) := by decide +kernel
theorem dX0_init_17 : decode cX0_init 17 = .ok (.aload_n 0, 1) := by decide +kernel
theorem dX0_init_18 : decode cX0_init 18 = .ok (.new 9, 3) := by decide +kernel
theorem dX0_init_21 : decode cX0_init 21 = .ok (.dup, 1) := by decide +kernel
theorem dX0_init_22 : decode cX0_init 22 = .ok (.bipush 60, 2) := by decide +kernel
theorem dX0_init_24 : decode cX0_init 24 = .ok (.invokespecial 11, 3) := by decide +kernel
theorem dX0_init_27 : decode cX0_init 27 = .ok (.putfield 20, 3) := by decide +kernel
theorem dX0_init_30 : decode cX0_init 30 = .ok (.aload_n 0, 1) := by decide +kernel
theorem dX0_init_31 : decode cX0_init 31 = .ok (.new 9, 3) := by decide +kernel
theorem dX0_init_34 : decode cX0_init 34 = .ok (.dup, 1) := by decide +kernel
theorem dX0_init_35 : decode cX0_init 35 = .ok (.bipush 60, 2) := by decide +kernel
theorem dX0_init_37 : decode cX0_init 37 = .ok (.invokespecial 11, 3) := by decide +kernel
theorem dX0_init_40 : decode cX0_init 40 = .ok (.putfield 23, 3) := by decide +kernel
theorem dX0_init_43 : decode cX0_init 43 = .ok (.aload_n 0, 1) := by decide +kernel
theorem dX0_init_44 : decode cX0_init 44 = .ok (.iconst 0, 1) := by decide +kernel
theorem dX0_init_45 : decode cX0_init 45 = .ok (.putfield 26, 3) := by decide +kernel
theorem dX0_init_48 : decode cX0_init 48 = .ok (.aload_n 0, 1) := by decide +kernel
theorem dX0_init_49 : decode cX0_init 49 = .ok (.iconst 0, 1) := by decide +kernel
theorem dX0_init_50 : decode cX0_init 50 = .ok (.putfield 30, 3) := by decide +kernel
theorem dX0_init_53 : decode cX0_init 53 = .ok (.return_, 1) := by decide +kernel
theorem dX1_init_0 : decode cX1_init 0 = .ok (.aload_n 0, 1) := by decide +kernel
theorem dX1_init_1 : decode cX1_init 1 = .ok (.invokespecial 3, 3) := by decide +kernel
theorem dX1_init_4 : decode cX1_init 4 = .ok (.aload_n 0, 1) := by decide +kernel
theorem dX1_init_5 : decode cX1_init 5 = .ok (.new 9, 3) := by decide +kernel
theorem dX1_init_8 : decode cX1_init 8 = .ok (.dup, 1) := by decide +kernel
theorem dX1_init_9 : decode cX1_init 9 = .ok (.bipush 41, 2) := by decide +kernel
theorem dX1_init_11 : decode cX1_init 11 = .ok (.invokespecial 11, 3) := by decide +kernel
theorem dX1_init_14 : decode cX1_init 14 = .ok (.putfield 14, 3) := by decide +kernel
theorem dX1_init_17 : decode cX1_init 17 = .ok (.aload_n 0, 1) := by decide +kernel
theorem dX1_init_18 : decode cX1_init 18 = .ok (.new 9, 3) := by decide +kernel
theorem dX1_init_21 : decode cX1_init 21 = .ok (.dup, 1) := by decide +kernel
theorem dX1_init_22 : decode cX1_init 22 = .ok (.bipush 40, 2) := by decide +kernel
theorem dX1_init_24 : decode cX1_init 24 = .ok (.invokespecial 11, 3) := by decide +kernel
theorem dX1_init_27 : decode cX1_init 27 = .ok (.putfield 20, 3) := by decide +kernel
theorem dX1_init_30 : decode cX1_init 30 = .ok (.aload_n 0, 1) := by decide +kernel
theorem dX1_init_31 : decode cX1_init 31 = .ok (.aload_n 1, 1) := by decide +kernel
theorem dX1_init_32 : decode cX1_init 32 = .ok (.putfield 23, 3) := by decide +kernel
theorem dX1_init_35 : decode cX1_init 35 = .ok (.return_, 1) := by decide +kernel
theorem dX1_measure_0 : decode cX1_measure 0 = .ok (.iconst 0, 1) := by decide +kernel
theorem dX1_measure_1 : decode cX1_measure 1 = .ok (.istore_n 1, 1) := by decide +kernel
theorem dX1_measure_2 : decode cX1_measure 2 = .ok (.iload_n 1, 1) := by decide +kernel
theorem dX1_measure_3 : decode cX1_measure 3 = .ok (.aload_n 0, 1) := by decide +kernel
theorem dX1_measure_4 : decode cX1_measure 4 = .ok (.getfield 23, 3) := by decide +kernel
theorem dX1_measure_7 : decode cX1_measure 7 = .ok (.getfield 27, 3) := by decide +kernel
theorem dX1_measure_10 : decode cX1_measure 10 = .ok (.if_icmp .ge 39, 3) := by decide +kernel
theorem dX1_measure_13 : decode cX1_measure 13 = .ok (.aload_n 0, 1) := by decide +kernel
theorem dX1_measure_14 : decode cX1_measure 14 = .ok (.getfield 14, 3) := by decide +kernel
theorem dX1_measure_17 : decode cX1_measure 17 = .ok (.iload_n 1, 1) := by decide +kernel
theorem dX1_measure_18 : decode cX1_measure 18 = .ok (.iconst 1, 1) := by decide +kernel
theorem dX1_measure_19 : decode cX1_measure 19 = .ok (.iadd, 1) := by decide +kernel
theorem dX1_measure_20 : decode cX1_measure 20 = .ok (.aload_n 0, 1) := by decide +kernel
theorem dX1_measure_21 : decode cX1_measure 21 = .ok (.getfield 14, 3) := by decide +kernel
theorem dX1_measure_24 : decode cX1_measure 24 = .ok (.iload_n 1, 1) := by decide +kernel
theorem dX1_measure_25 : decode cX1_measure 25 = .ok (.invokevirtual 33, 3) := by decide +kernel
theorem dX1_measure_28 : decode cX1_measure 28 = .ok (.aload_n 0, 1) := by decide +kernel
theorem dX1_measure_29 : decode cX1_measure 29 = .ok (.getfield 23, 3) := by decide +kernel
theorem dX1_measure_32 : decode cX1_measure 32 = .ok (.getfield 37, 3) := by decide +kernel
theorem dX1_measure_35 : decode cX1_measure 35 = .ok (.iload_n 1, 1) := by decide +kernel
theorem dX1_measure_36 : decode cX1_measure 36 = .ok (.invokevirtual 33, 3) := by decide +kernel
theorem dX1_measure_39 : decode cX1_measure 39 = .ok (.iadd, 1) := by decide +kernel
theorem dX1_measure_40 : decode cX1_measure 40 = .ok (.invokevirtual 40, 3) := by decide +kernel
theorem dX1_measure_43 : decode cX1_measure 43 = .ok (.iinc 1 1, 3) := by decide +kernel
theorem dX1_measure_46 : decode cX1_measure 46 = .ok (.goto (-44), 3) := by decide +kernel
theorem dX1_measure_49 : decode cX1_measure 49 = .ok (.iconst 0, 1) := by decide +kernel
theorem dX1_measure_50 : decode cX1_measure 50 = .ok (.istore_n 1, 1) := by decide +kernel
theorem dX1_measure_51 : decode cX1_measure 51 = .ok (.iload_n 1, 1) := by decide +kernel
theorem dX1_measure_52 : decode cX1_measure 52 = .ok (.aload_n 0, 1) := by decide +kernel
theorem dX1_measure_53 : decode cX1_measure 53 = .ok (.getfield 23, 3) := by decide +kernel
theorem dX1_measure_56 : decode cX1_measure 56 = .ok (.getfield 27, 3) := by decide +kernel
theorem dX1_measure_59 : decode cX1_measure 59 = .ok (.if_icmp .ge 22, 3) := by decide +kernel
theorem dX1_measure_62 : decode cX1_measure 62 = .ok (.aload_n 0, 1) := by decide +kernel
theorem dX1_measure_63 : decode cX1_measure 63 = .ok (.getfield 20, 3) := by decide +kernel
theorem dX1_measure_66 : decode cX1_measure 66 = .ok (.iload_n 1, 1) := by decide +kernel
theorem dX1_measure_67 : decode cX1_measure 67 = .ok (.aload_n 0, 1) := by decide +kernel
theorem dX1_measure_68 : decode cX1_measure 68 = .ok (.iload_n 1, 1) := by decide +kernel
theorem dX1_measure_69 : decode cX1_measure 69 = .ok (.invokevirtual 44, 3) := by decide +kernel
theorem dX1_measure_72 : decode cX1_measure 72 = .ok (.invokevirtual 40, 3) := by decide +kernel
theorem dX1_measure_75 : decode cX1_measure 75 = .ok (.iinc 1 1, 3) := by decide +kernel
theorem dX1_measure_78 : decode cX1_measure 78 = .ok (.goto (-27), 3) := by decide +kernel
theorem dX1_measure_81 : decode cX1_measure 81 = .ok (.return_, 1) := by decide +kernel
theorem dX1_longestLineEnd_0 : decode cX1_longestLineEnd 0 = .ok (.iload_n 1, 1) := by decide +kernel
theorem dX1_longestLineEnd_1 : decode cX1_longestLineEnd 1 = .ok (.iconst 1, 1) := by decide +kernel
theorem dX1_longestLineEnd_2 : decode cX1_longestLineEnd 2 = .ok (.iadd, 1) := by decide +kernel
theorem dX1_longestLineEnd_3 : decode cX1_longestLineEnd 3 = .ok (.istore_n 2, 1) := by decide +kernel
theorem dX1_longestLineEnd_4 : decode cX1_longestLineEnd 4 = .ok (.iload_n 2, 1) := by decide +kernel
theorem dX1_longestLineEnd_5 : decode cX1_longestLineEnd 5 = .ok (.aload_n 0, 1) := by decide +kernel
theorem dX1_longestLineEnd_6 : decode cX1_longestLineEnd 6 = .ok (.getfield 23, 3) := by decide +kernel
theorem dX1_longestLineEnd_9 : decode cX1_longestLineEnd 9 = .ok (.getfield 27, 3) := by decide +kernel
theorem dX1_longestLineEnd_12 : decode cX1_longestLineEnd 12 = .ok (.if_icmp .ge 43, 3) := by decide +kernel
theorem dX1_longestLineEnd_15 : decode cX1_longestLineEnd 15 = .ok (.aload_n 0, 1) := by decide +kernel
theorem dX1_longestLineEnd_16 : decode cX1_longestLineEnd 16 = .ok (.getfield 23, 3) := by decide +kernel
theorem dX1_longestLineEnd_19 : decode cX1_longestLineEnd 19 = .ok (.getfield 47, 3) := by decide +kernel
theorem dX1_longestLineEnd_22 : decode cX1_longestLineEnd 22 = .ok (.iload_n 2, 1) := by decide +kernel
theorem dX1_longestLineEnd_23 : decode cX1_longestLineEnd 23 = .ok (.iconst 1, 1) := by decide +kernel
theorem dX1_longestLineEnd_24 : decode cX1_longestLineEnd 24 = .ok (.isub, 1) := by decide +kernel
theorem dX1_longestLineEnd_25 : decode cX1_longestLineEnd 25 = .ok (.invokevirtual 33, 3) := by decide +kernel
theorem dX1_longestLineEnd_28 : decode cX1_longestLineEnd 28 = .ok (.ifCond .ne 27, 3) := by decide +kernel
theorem dX1_longestLineEnd_31 : decode cX1_longestLineEnd 31 = .ok (.aload_n 0, 1) := by decide +kernel
theorem dX1_longestLineEnd_32 : decode cX1_longestLineEnd 32 = .ok (.iload_n 1, 1) := by decide +kernel
theorem dX1_longestLineEnd_33 : decode cX1_longestLineEnd 33 = .ok (.iload_n 2, 1) := by decide +kernel
theorem dX1_longestLineEnd_34 : decode cX1_longestLineEnd 34 = .ok (.iconst 1, 1) := by decide +kernel
theorem dX1_longestLineEnd_35 : decode cX1_longestLineEnd 35 = .ok (.iadd, 1) := by decide +kernel
theorem dX1_longestLineEnd_36 : decode cX1_longestLineEnd 36 = .ok (.invokevirtual 50, 3) := by decide +kernel
theorem dX1_longestLineEnd_39 : decode cX1_longestLineEnd 39 = .ok (.aload_n 0, 1) := by decide +kernel
theorem dX1_longestLineEnd_40 : decode cX1_longestLineEnd 40 = .ok (.getfield 23, 3) := by decide +kernel
theorem dX1_longestLineEnd_43 : decode cX1_longestLineEnd 43 = .ok (.getfield 54, 3) := by decide +kernel
theorem dX1_longestLineEnd_46 : decode cX1_longestLineEnd 46 = .ok (.if_icmp .gt 9, 3) := by decide +kernel
theorem dX1_longestLineEnd_49 : decode cX1_longestLineEnd 49 = .ok (.iinc 2 1, 3) := by decide +kernel
theorem dX1_longestLineEnd_52 : decode cX1_longestLineEnd 52 = .ok (.goto (-48), 3) := by decide +kernel
theorem dX1_longestLineEnd_55 : decode cX1_longestLineEnd 55 = .ok (.iload_n 2, 1) := by decide +kernel
theorem dX1_longestLineEnd_56 : decode cX1_longestLineEnd 56 = .ok (.ireturn, 1) := by decide +kernel
theorem dX1_widthBetween_0 : decode cX1_widthBetween 0 = .ok (.aload_n 0, 1) := by decide +kernel
theorem dX1_widthBetween_1 : decode cX1_widthBetween 1 = .ok (.getfield 14, 3) := by decide +kernel
theorem dX1_widthBetween_4 : decode cX1_widthBetween 4 = .ok (.iload_n 2, 1) := by decide +kernel
theorem dX1_widthBetween_5 : decode cX1_widthBetween 5 = .ok (.invokevirtual 33, 3) := by decide +kernel
theorem dX1_widthBetween_8 : decode cX1_widthBetween 8 = .ok (.aload_n 0, 1) := by decide +kernel
theorem dX1_widthBetween_9 : decode cX1_widthBetween 9 = .ok (.getfield 14, 3) := by decide +kernel
theorem dX1_widthBetween_12 : decode cX1_widthBetween 12 = .ok (.iload_n 1, 1) := by decide +kernel
theorem dX1_widthBetween_13 : decode cX1_widthBetween 13 = .ok (.invokevirtual 33, 3) := by decide +kernel
theorem dX1_widthBetween_16 : decode cX1_widthBetween 16 = .ok (.isub, 1) := by decide +kernel
theorem dX1_widthBetween_17 : decode cX1_widthBetween 17 = .ok (.aload_n 0, 1) := by decide +kernel
theorem dX1_widthBetween_18 : decode cX1_widthBetween 18 = .ok (.getfield 23, 3) := by decide +kernel
theorem dX1_widthBetween_21 : decode cX1_widthBetween 21 = .ok (.getfield 57, 3) := by decide +kernel
theorem dX1_widthBetween_24 : decode cX1_widthBetween 24 = .ok (.iload_n 2, 1) := by decide +kernel
theorem dX1_widthBetween_25 : decode cX1_widthBetween 25 = .ok (.iload_n 1, 1) := by decide +kernel
theorem dX1_widthBetween_26 : decode cX1_widthBetween 26 = .ok (.isub, 1) := by decide +kernel
theorem dX1_widthBetween_27 : decode cX1_widthBetween 27 = .ok (.iconst 1, 1) := by decide +kernel
theorem dX1_widthBetween_28 : decode cX1_widthBetween 28 = .ok (.isub, 1) := by decide +kernel
theorem dX1_widthBetween_29 : decode cX1_widthBetween 29 = .ok (.imul, 1) := by decide +kernel
theorem dX1_widthBetween_30 : decode cX1_widthBetween 30 = .ok (.iadd, 1) := by decide +kernel
theorem dX1_widthBetween_31 : decode cX1_widthBetween 31 = .ok (.ireturn, 1) := by decide +kernel
theorem dX2_init_0 : decode cX2_init 0 = .ok (.aload_n 0, 1) := by decide +kernel
theorem dX2_init_1 : decode cX2_init 1 = .ok (.invokespecial 3, 3) := by decide +kernel
theorem dX2_init_4 : decode cX2_init 4 = .ok (.aload_n 0, 1) := by decide +kernel
theorem dX2_init_5 : decode cX2_init 5 = .ok (.bipush 6, 2) := by decide +kernel
theorem dX2_init_7 : decode cX2_init 7 = .ok (.anewarray 9, 3) := by decide +kernel
theorem dX2_init_10 : decode cX2_init 10 = .ok (.putfield 11, 3) := by decide +kernel
theorem dX2_init_13 : decode cX2_init 13 = .ok (.aload_n 0, 1) := by decide +kernel
theorem dX2_init_14 : decode cX2_init 14 = .ok (.iconst 0, 1) := by decide +kernel
theorem dX2_init_15 : decode cX2_init 15 = .ok (.putfield 17, 3) := by decide +kernel
theorem dX2_init_18 : decode cX2_init 18 = .ok (.iconst 0, 1) := by decide +kernel
theorem dX2_init_19 : decode cX2_init 19 = .ok (.istore_n 1, 1) := by decide +kernel
theorem dX2_init_20 : decode cX2_init 20 = .ok (.iload_n 1, 1) := by decide +kernel
theorem dX2_init_21 : decode cX2_init 21 = .ok (.aload_n 0, 1) := by decide +kernel
theorem dX2_init_22 : decode cX2_init 22 = .ok (.getfield 11, 3) := by decide +kernel
theorem dX2_init_25 : decode cX2_init 25 = .ok (.arraylength, 1) := by decide +kernel
theorem dX2_init_26 : decode cX2_init 26 = .ok (.if_icmp .ge 22, 3) := by decide +kernel
theorem dX2_init_29 : decode cX2_init 29 = .ok (.aload_n 0, 1) := by decide +kernel
theorem dX2_init_30 : decode cX2_init 30 = .ok (.getfield 11, 3) := by decide +kernel
theorem dX2_init_33 : decode cX2_init 33 = .ok (.iload_n 1, 1) := by decide +kernel
theorem dX2_init_34 : decode cX2_init 34 = .ok (.new 9, 3) := by decide +kernel
theorem dX2_init_37 : decode cX2_init 37 = .ok (.dup, 1) := by decide +kernel
theorem dX2_init_38 : decode cX2_init 38 = .ok (.invokespecial 21, 3) := by decide +kernel
theorem dX2_init_41 : decode cX2_init 41 = .ok (.aastore, 1) := by decide +kernel
theorem dX2_init_42 : decode cX2_init 42 = .ok (.iinc 1 1, 3) := by decide +kernel
theorem dX2_init_45 : decode cX2_init 45 = .ok (.goto (-25), 3) := by decide +kernel
theorem dX2_init_48 : decode cX2_init 48 = .ok (.return_, 1) := by decide +kernel
theorem dX2_save_0 : decode cX2_save 0 = .ok (.aload_n 0, 1) := by decide +kernel
theorem dX2_save_1 : decode cX2_save 1 = .ok (.getfield 17, 3) := by decide +kernel
theorem dX2_save_4 : decode cX2_save 4 = .ok (.aload_n 0, 1) := by decide +kernel
theorem dX2_save_5 : decode cX2_save 5 = .ok (.getfield 11, 3) := by decide +kernel
theorem dX2_save_8 : decode cX2_save 8 = .ok (.arraylength, 1) := by decide +kernel
theorem dX2_save_9 : decode cX2_save 9 = .ok (.if_icmp .lt 7, 3) := by decide +kernel
theorem dX2_save_12 : decode cX2_save 12 = .ok (.aload_n 0, 1) := by decide +kernel
theorem dX2_save_13 : decode cX2_save 13 = .ok (.invokevirtual 22, 3) := by decide +kernel
theorem dX2_save_16 : decode cX2_save 16 = .ok (.aload_n 0, 1) := by decide +kernel
theorem dX2_save_17 : decode cX2_save 17 = .ok (.aload_n 0, 1) := by decide +kernel
theorem dX2_save_18 : decode cX2_save 18 = .ok (.getfield 17, 3) := by decide +kernel
theorem dX2_save_21 : decode cX2_save 21 = .ok (.invokevirtual 25, 3) := by decide +kernel
theorem dX2_save_24 : decode cX2_save 24 = .ok (.astore_n 2, 1) := by decide +kernel
theorem dX2_save_25 : decode cX2_save 25 = .ok (.aload_n 2, 1) := by decide +kernel
theorem dX2_save_26 : decode cX2_save 26 = .ok (.ifnull 18, 3) := by decide +kernel
theorem dX2_save_29 : decode cX2_save 29 = .ok (.aload_n 2, 1) := by decide +kernel
theorem dX2_save_30 : decode cX2_save 30 = .ok (.aload_n 1, 1) := by decide +kernel
theorem dX2_save_31 : decode cX2_save 31 = .ok (.invokevirtual 29, 3) := by decide +kernel
theorem dX2_save_34 : decode cX2_save 34 = .ok (.aload_n 0, 1) := by decide +kernel
theorem dX2_save_35 : decode cX2_save 35 = .ok (.dup, 1) := by decide +kernel
theorem dX2_save_36 : decode cX2_save 36 = .ok (.getfield 17, 3) := by decide +kernel
theorem dX2_save_39 : decode cX2_save 39 = .ok (.iconst 1, 1) := by decide +kernel
theorem dX2_save_40 : decode cX2_save 40 = .ok (.iadd, 1) := by decide +kernel
theorem dX2_save_41 : decode cX2_save 41 = .ok (.putfield 17, 3) := by decide +kernel
theorem dX2_save_44 : decode cX2_save 44 = .ok (.return_, 1) := by decide +kernel
theorem dX2_restore_0 : decode cX2_restore 0 = .ok (.aload_n 0, 1) := by decide +kernel
theorem dX2_restore_1 : decode cX2_restore 1 = .ok (.aload_n 0, 1) := by decide +kernel
theorem dX2_restore_2 : decode cX2_restore 2 = .ok (.getfield 17, 3) := by decide +kernel
theorem dX2_restore_5 : decode cX2_restore 5 = .ok (.iconst 1, 1) := by decide +kernel
theorem dX2_restore_6 : decode cX2_restore 6 = .ok (.isub, 1) := by decide +kernel
theorem dX2_restore_7 : decode cX2_restore 7 = .ok (.invokevirtual 25, 3) := by decide +kernel
theorem dX2_restore_10 : decode cX2_restore 10 = .ok (.astore_n 2, 1) := by decide +kernel
theorem dX2_restore_11 : decode cX2_restore 11 = .ok (.aload_n 2, 1) := by decide +kernel
theorem dX2_restore_12 : decode cX2_restore 12 = .ok (.ifnull 18, 3) := by decide +kernel
theorem dX2_restore_15 : decode cX2_restore 15 = .ok (.aload_n 1, 1) := by decide +kernel
theorem dX2_restore_16 : decode cX2_restore 16 = .ok (.aload_n 2, 1) := by decide +kernel
theorem dX2_restore_17 : decode cX2_restore 17 = .ok (.invokevirtual 29, 3) := by decide +kernel
theorem dX2_restore_20 : decode cX2_restore 20 = .ok (.aload_n 0, 1) := by decide +kernel
theorem dX2_restore_21 : decode cX2_restore 21 = .ok (.dup, 1) := by decide +kernel
theorem dX2_restore_22 : decode cX2_restore 22 = .ok (.getfield 17, 3) := by decide +kernel
theorem dX2_restore_25 : decode cX2_restore 25 = .ok (.iconst 1, 1) := by decide +kernel
theorem dX2_restore_26 : decode cX2_restore 26 = .ok (.isub, 1) := by decide +kernel
theorem dX2_restore_27 : decode cX2_restore 27 = .ok (.putfield 17, 3) := by decide +kernel
theorem dX2_restore_30 : decode cX2_restore 30 = .ok (.return_, 1) := by decide +kernel
theorem dX2_stateAt_0 : decode cX2_stateAt 0 = .ok (.iload_n 1, 1) := by decide +kernel
theorem dX2_stateAt_1 : decode cX2_stateAt 1 = .ok (.ifCond .lt 21, 3) := by decide +kernel
theorem dX2_stateAt_4 : decode cX2_stateAt 4 = .ok (.iload_n 1, 1) := by decide +kernel
theorem dX2_stateAt_5 : decode cX2_stateAt 5 = .ok (.aload_n 0, 1) := by decide +kernel
theorem dX2_stateAt_6 : decode cX2_stateAt 6 = .ok (.getfield 11, 3) := by decide +kernel
theorem dX2_stateAt_9 : decode cX2_stateAt 9 = .ok (.arraylength, 1) := by decide +kernel
theorem dX2_stateAt_10 : decode cX2_stateAt 10 = .ok (.if_icmp .ge 12, 3) := by decide +kernel
theorem dX2_stateAt_13 : decode cX2_stateAt 13 = .ok (.aload_n 0, 1) := by decide +kernel
theorem dX2_stateAt_14 : decode cX2_stateAt 14 = .ok (.getfield 11, 3) := by decide +kernel
theorem dX2_stateAt_17 : decode cX2_stateAt 17 = .ok (.iload_n 1, 1) := by decide +kernel
theorem dX2_stateAt_18 : decode cX2_stateAt 18 = .ok (.aaload, 1) := by decide +kernel
theorem dX2_stateAt_19 : decode cX2_stateAt 19 = .ok (.goto 4, 3) := by decide +kernel
theorem dX2_stateAt_22 : decode cX2_stateAt 22 = .ok (.aconst_null, 1) := by decide +kernel
theorem dX2_stateAt_23 : decode cX2_stateAt 23 = .ok (.areturn, 1) := by decide +kernel
theorem dX2_dropOldest_0 : decode cX2_dropOldest 0 = .ok (.aload_n 0, 1) := by decide +kernel
theorem dX2_dropOldest_1 : decode cX2_dropOldest 1 = .ok (.iconst 0, 1) := by decide +kernel
theorem dX2_dropOldest_2 : decode cX2_dropOldest 2 = .ok (.invokevirtual 25, 3) := by decide +kernel
theorem dX2_dropOldest_5 : decode cX2_dropOldest 5 = .ok (.astore_n 1, 1) := by decide +kernel
theorem dX2_dropOldest_6 : decode cX2_dropOldest 6 = .ok (.iconst 1, 1) := by decide +kernel
theorem dX2_dropOldest_7 : decode cX2_dropOldest 7 = .ok (.istore_n 2, 1) := by decide +kernel
theorem dX2_dropOldest_8 : decode cX2_dropOldest 8 = .ok (.iload_n 2, 1) := by decide +kernel
theorem dX2_dropOldest_9 : decode cX2_dropOldest 9 = .ok (.aload_n 0, 1) := by decide +kernel
theorem dX2_dropOldest_10 : decode cX2_dropOldest 10 = .ok (.getfield 11, 3) := by decide +kernel
theorem dX2_dropOldest_13 : decode cX2_dropOldest 13 = .ok (.arraylength, 1) := by decide +kernel
theorem dX2_dropOldest_14 : decode cX2_dropOldest 14 = .ok (.if_icmp .ge 23, 3) := by decide +kernel
theorem dX2_dropOldest_17 : decode cX2_dropOldest 17 = .ok (.aload_n 0, 1) := by decide +kernel
theorem dX2_dropOldest_18 : decode cX2_dropOldest 18 = .ok (.getfield 11, 3) := by decide +kernel
theorem dX2_dropOldest_21 : decode cX2_dropOldest 21 = .ok (.iload_n 2, 1) := by decide +kernel
theorem dX2_dropOldest_22 : decode cX2_dropOldest 22 = .ok (.iconst 1, 1) := by decide +kernel
theorem dX2_dropOldest_23 : decode cX2_dropOldest 23 = .ok (.isub, 1) := by decide +kernel
theorem dX2_dropOldest_24 : decode cX2_dropOldest 24 = .ok (.aload_n 0, 1) := by decide +kernel
theorem dX2_dropOldest_25 : decode cX2_dropOldest 25 = .ok (.getfield 11, 3) := by decide +kernel
theorem dX2_dropOldest_28 : decode cX2_dropOldest 28 = .ok (.iload_n 2, 1) := by decide +kernel
theorem dX2_dropOldest_29 : decode cX2_dropOldest 29 = .ok (.aaload, 1) := by decide +kernel
theorem dX2_dropOldest_30 : decode cX2_dropOldest 30 = .ok (.aastore, 1) := by decide +kernel
theorem dX2_dropOldest_31 : decode cX2_dropOldest 31 = .ok (.iinc 2 1, 3) := by decide +kernel
theorem dX2_dropOldest_34 : decode cX2_dropOldest 34 = .ok (.goto (-26), 3) := by decide +kernel
theorem dX2_dropOldest_37 : decode cX2_dropOldest 37 = .ok (.aload_n 0, 1) := by decide +kernel
theorem dX2_dropOldest_38 : decode cX2_dropOldest 38 = .ok (.getfield 11, 3) := by decide +kernel
theorem dX2_dropOldest_41 : decode cX2_dropOldest 41 = .ok (.arraylength, 1) := by decide +kernel
theorem dX2_dropOldest_42 : decode cX2_dropOldest 42 = .ok (.ifCond .le 27, 3) := by decide +kernel
theorem dX2_dropOldest_45 : decode cX2_dropOldest 45 = .ok (.aload_n 0, 1) := by decide +kernel
theorem dX2_dropOldest_46 : decode cX2_dropOldest 46 = .ok (.getfield 11, 3) := by decide +kernel
theorem dX2_dropOldest_49 : decode cX2_dropOldest 49 = .ok (.aload_n 0, 1) := by decide +kernel
theorem dX2_dropOldest_50 : decode cX2_dropOldest 50 = .ok (.getfield 11, 3) := by decide +kernel
theorem dX2_dropOldest_53 : decode cX2_dropOldest 53 = .ok (.arraylength, 1) := by decide +kernel
theorem dX2_dropOldest_54 : decode cX2_dropOldest 54 = .ok (.iconst 1, 1) := by decide +kernel
theorem dX2_dropOldest_55 : decode cX2_dropOldest 55 = .ok (.isub, 1) := by decide +kernel
theorem dX2_dropOldest_56 : decode cX2_dropOldest 56 = .ok (.aload_n 1, 1) := by decide +kernel
theorem dX2_dropOldest_57 : decode cX2_dropOldest 57 = .ok (.aastore, 1) := by decide +kernel
theorem dX2_dropOldest_58 : decode cX2_dropOldest 58 = .ok (.aload_n 0, 1) := by decide +kernel
theorem dX2_dropOldest_59 : decode cX2_dropOldest 59 = .ok (.aload_n 0, 1) := by decide +kernel
theorem dX2_dropOldest_60 : decode cX2_dropOldest 60 = .ok (.getfield 11, 3) := by decide +kernel
theorem dX2_dropOldest_63 : decode cX2_dropOldest 63 = .ok (.arraylength, 1) := by decide +kernel
theorem dX2_dropOldest_64 : decode cX2_dropOldest 64 = .ok (.iconst 1, 1) := by decide +kernel
theorem dX2_dropOldest_65 : decode cX2_dropOldest 65 = .ok (.isub, 1) := by decide +kernel
theorem dX2_dropOldest_66 : decode cX2_dropOldest 66 = .ok (.putfield 17, 3) := by decide +kernel
theorem dX2_dropOldest_69 : decode cX2_dropOldest 69 = .ok (.return_, 1) := by decide +kernel
theorem dX3_init_0 : decode cX3_init 0 = .ok (.aload_n 0, 1) := by decide +kernel
theorem dX3_init_1 : decode cX3_init 1 = .ok (.invokespecial 3, 3) := by decide +kernel
theorem dX3_init_4 : decode cX3_init 4 = .ok (.aload_n 0, 1) := by decide +kernel
theorem dX3_init_5 : decode cX3_init 5 = .ok (.new 9, 3) := by decide +kernel
theorem dX3_init_8 : decode cX3_init 8 = .ok (.dup, 1) := by decide +kernel
theorem dX3_init_9 : decode cX3_init 9 = .ok (.bipush 41, 2) := by decide +kernel
theorem dX3_init_11 : decode cX3_init 11 = .ok (.invokespecial 11, 3) := by decide +kernel
theorem dX3_init_14 : decode cX3_init 14 = .ok (.putfield 14, 3) := by decide +kernel
theorem dX3_init_17 : decode cX3_init 17 = .ok (.aload_n 0, 1) := by decide +kernel
theorem dX3_init_18 : decode cX3_init 18 = .ok (.new 9, 3) := by decide +kernel
theorem dX3_init_21 : decode cX3_init 21 = .ok (.dup, 1) := by decide +kernel
theorem dX3_init_22 : decode cX3_init 22 = .ok (.bipush 40, 2) := by decide +kernel
theorem dX3_init_24 : decode cX3_init 24 = .ok (.invokespecial 11, 3) := by decide +kernel
theorem dX3_init_27 : decode cX3_init 27 = .ok (.putfield 20, 3) := by decide +kernel
theorem dX3_init_30 : decode cX3_init 30 = .ok (.aload_n 0, 1) := by decide +kernel
theorem dX3_init_31 : decode cX3_init 31 = .ok (.iconst 0, 1) := by decide +kernel
theorem dX3_init_32 : decode cX3_init 32 = .ok (.putfield 23, 3) := by decide +kernel
theorem dX3_init_35 : decode cX3_init 35 = .ok (.aload_n 0, 1) := by decide +kernel
theorem dX3_init_36 : decode cX3_init 36 = .ok (.aload_n 1, 1) := by decide +kernel
theorem dX3_init_37 : decode cX3_init 37 = .ok (.putfield 27, 3) := by decide +kernel
theorem dX3_init_40 : decode cX3_init 40 = .ok (.aload_n 0, 1) := by decide +kernel
theorem dX3_init_41 : decode cX3_init 41 = .ok (.new 31, 3) := by decide +kernel
theorem dX3_init_44 : decode cX3_init 44 = .ok (.dup, 1) := by decide +kernel
theorem dX3_init_45 : decode cX3_init 45 = .ok (.aload_n 1, 1) := by decide +kernel
theorem dX3_init_46 : decode cX3_init 46 = .ok (.invokespecial 33, 3) := by decide +kernel
theorem dX3_init_49 : decode cX3_init 49 = .ok (.putfield 36, 3) := by decide +kernel
theorem dX3_init_52 : decode cX3_init 52 = .ok (.aload_n 0, 1) := by decide +kernel
theorem dX3_init_53 : decode cX3_init 53 = .ok (.new 40, 3) := by decide +kernel
theorem dX3_init_56 : decode cX3_init 56 = .ok (.dup, 1) := by decide +kernel
theorem dX3_init_57 : decode cX3_init 57 = .ok (.aload_n 1, 1) := by decide +kernel
theorem dX3_init_58 : decode cX3_init 58 = .ok (.aload_n 0, 1) := by decide +kernel
theorem dX3_init_59 : decode cX3_init 59 = .ok (.getfield 36, 3) := by decide +kernel
theorem dX3_init_62 : decode cX3_init 62 = .ok (.invokespecial 42, 3) := by decide +kernel
theorem dX3_init_65 : decode cX3_init 65 = .ok (.putfield 45, 3) := by decide +kernel
theorem dX3_init_68 : decode cX3_init 68 = .ok (.return_, 1) := by decide +kernel
theorem dX3_arrange_0 : decode cX3_arrange 0 = .ok (.aload_n 0, 1) := by decide +kernel
theorem dX3_arrange_1 : decode cX3_arrange 1 = .ok (.getfield 36, 3) := by decide +kernel
theorem dX3_arrange_4 : decode cX3_arrange 4 = .ok (.invokevirtual 49, 3) := by decide +kernel
theorem dX3_arrange_7 : decode cX3_arrange 7 = .ok (.iconst 0, 1) := by decide +kernel
theorem dX3_arrange_8 : decode cX3_arrange 8 = .ok (.istore_n 2, 1) := by decide +kernel
theorem dX3_arrange_9 : decode cX3_arrange 9 = .ok (.iconst 0, 1) := by decide +kernel
theorem dX3_arrange_10 : decode cX3_arrange 10 = .ok (.istore_n 3, 1) := by decide +kernel
theorem dX3_arrange_11 : decode cX3_arrange 11 = .ok (.iload_n 1, 1) := by decide +kernel
theorem dX3_arrange_12 : decode cX3_arrange 12 = .ok (.ifCond .eq 46, 3) := by decide +kernel
theorem dX3_arrange_15 : decode cX3_arrange 15 = .ok (.iload_n 3, 1) := by decide +kernel
theorem dX3_arrange_16 : decode cX3_arrange 16 = .ok (.aload_n 0, 1) := by decide +kernel
theorem dX3_arrange_17 : decode cX3_arrange 17 = .ok (.getfield 27, 3) := by decide +kernel
theorem dX3_arrange_20 : decode cX3_arrange 20 = .ok (.getfield 52, 3) := by decide +kernel
theorem dX3_arrange_23 : decode cX3_arrange 23 = .ok (.if_icmp .ge 35, 3) := by decide +kernel
theorem dX3_arrange_26 : decode cX3_arrange 26 = .ok (.aload_n 0, 1) := by decide +kernel
theorem dX3_arrange_27 : decode cX3_arrange 27 = .ok (.getfield 27, 3) := by decide +kernel
theorem dX3_arrange_30 : decode cX3_arrange 30 = .ok (.iload_n 3, 1) := by decide +kernel
theorem dX3_arrange_31 : decode cX3_arrange 31 = .ok (.invokevirtual 55, 3) := by decide +kernel
theorem dX3_arrange_34 : decode cX3_arrange 34 = .ok (.ifCond .eq 18, 3) := by decide +kernel
theorem dX3_arrange_37 : decode cX3_arrange 37 = .ok (.aload_n 0, 1) := by decide +kernel
theorem dX3_arrange_38 : decode cX3_arrange 38 = .ok (.getfield 45, 3) := by decide +kernel
theorem dX3_arrange_41 : decode cX3_arrange 41 = .ok (.iload_n 2, 1) := by decide +kernel
theorem dX3_arrange_42 : decode cX3_arrange 42 = .ok (.iload_n 3, 1) := by decide +kernel
theorem dX3_arrange_43 : decode cX3_arrange 43 = .ok (.iconst 1, 1) := by decide +kernel
theorem dX3_arrange_44 : decode cX3_arrange 44 = .ok (.iadd, 1) := by decide +kernel
theorem dX3_arrange_45 : decode cX3_arrange 45 = .ok (.invokevirtual 59, 3) := by decide +kernel
theorem dX3_arrange_48 : decode cX3_arrange 48 = .ok (.iload_n 3, 1) := by decide +kernel
theorem dX3_arrange_49 : decode cX3_arrange 49 = .ok (.iconst 1, 1) := by decide +kernel
theorem dX3_arrange_50 : decode cX3_arrange 50 = .ok (.iadd, 1) := by decide +kernel
theorem dX3_arrange_51 : decode cX3_arrange 51 = .ok (.istore_n 2, 1) := by decide +kernel
theorem dX3_arrange_52 : decode cX3_arrange 52 = .ok (.iinc 3 1, 3) := by decide +kernel
theorem dX3_arrange_55 : decode cX3_arrange 55 = .ok (.goto (-44), 3) := by decide +kernel
theorem dX3_arrange_58 : decode cX3_arrange 58 = .ok (.aload_n 0, 1) := by decide +kernel
theorem dX3_arrange_59 : decode cX3_arrange 59 = .ok (.iload_n 1, 1) := by decide +kernel
theorem dX3_arrange_60 : decode cX3_arrange 60 = .ok (.ifCond .eq 13, 3) := by decide +kernel
theorem dX3_arrange_63 : decode cX3_arrange 63 = .ok (.aload_n 0, 1) := by decide +kernel
theorem dX3_arrange_64 : decode cX3_arrange 64 = .ok (.getfield 45, 3) := by decide +kernel
theorem dX3_arrange_67 : decode cX3_arrange 67 = .ok (.getfield 63, 3) := by decide +kernel
theorem dX3_arrange_70 : decode cX3_arrange 70 = .ok (.goto 10, 3) := by decide +kernel
theorem dX3_arrange_73 : decode cX3_arrange 73 = .ok (.aload_n 0, 1) := by decide +kernel
theorem dX3_arrange_74 : decode cX3_arrange 74 = .ok (.getfield 36, 3) := by decide +kernel
theorem dX3_arrange_77 : decode cX3_arrange 77 = .ok (.getfield 66, 3) := by decide +kernel
theorem dX3_arrange_80 : decode cX3_arrange 80 = .ok (.invokevirtual 69, 3) := by decide +kernel
theorem dX3_arrange_83 : decode cX3_arrange 83 = .ok (.return_, 1) := by decide +kernel
theorem dX3_takeLines_0 : decode cX3_takeLines 0 = .ok (.aload_n 0, 1) := by decide +kernel
theorem dX3_takeLines_1 : decode cX3_takeLines 1 = .ok (.iconst 0, 1) := by decide +kernel
theorem dX3_takeLines_2 : decode cX3_takeLines 2 = .ok (.putfield 23, 3) := by decide +kernel
theorem dX3_takeLines_5 : decode cX3_takeLines 5 = .ok (.iconst 0, 1) := by decide +kernel
theorem dX3_takeLines_6 : decode cX3_takeLines 6 = .ok (.istore_n 2, 1) := by decide +kernel
theorem dX3_takeLines_7 : decode cX3_takeLines 7 = .ok (.iconst 0, 1) := by decide +kernel
theorem dX3_takeLines_8 : decode cX3_takeLines 8 = .ok (.istore_n 3, 1) := by decide +kernel
theorem dX3_takeLines_9 : decode cX3_takeLines 9 = .ok (.iload_n 3, 1) := by decide +kernel
theorem dX3_takeLines_10 : decode cX3_takeLines 10 = .ok (.aload_n 0, 1) := by decide +kernel
theorem dX3_takeLines_11 : decode cX3_takeLines 11 = .ok (.getfield 27, 3) := by decide +kernel
theorem dX3_takeLines_14 : decode cX3_takeLines 14 = .ok (.getfield 52, 3) := by decide +kernel
theorem dX3_takeLines_17 : decode cX3_takeLines 17 = .ok (.if_icmp .ge 56, 3) := by decide +kernel
theorem dX3_takeLines_20 : decode cX3_takeLines 20 = .ok (.iload_n 3, 1) := by decide +kernel
theorem dX3_takeLines_21 : decode cX3_takeLines 21 = .ok (.iload_n 2, 1) := by decide +kernel
theorem dX3_takeLines_22 : decode cX3_takeLines 22 = .ok (.if_icmp .ne 31, 3) := by decide +kernel
theorem dX3_takeLines_25 : decode cX3_takeLines 25 = .ok (.aload_n 0, 1) := by decide +kernel
theorem dX3_takeLines_26 : decode cX3_takeLines 26 = .ok (.getfield 14, 3) := by decide +kernel
theorem dX3_takeLines_29 : decode cX3_takeLines 29 = .ok (.aload_n 0, 1) := by decide +kernel
theorem dX3_takeLines_30 : decode cX3_takeLines 30 = .ok (.getfield 23, 3) := by decide +kernel
theorem dX3_takeLines_33 : decode cX3_takeLines 33 = .ok (.iload_n 3, 1) := by decide +kernel
theorem dX3_takeLines_34 : decode cX3_takeLines 34 = .ok (.invokevirtual 73, 3) := by decide +kernel
theorem dX3_takeLines_37 : decode cX3_takeLines 37 = .ok (.aload_n 0, 1) := by decide +kernel
theorem dX3_takeLines_38 : decode cX3_takeLines 38 = .ok (.dup, 1) := by decide +kernel
theorem dX3_takeLines_39 : decode cX3_takeLines 39 = .ok (.getfield 23, 3) := by decide +kernel
theorem dX3_takeLines_42 : decode cX3_takeLines 42 = .ok (.iconst 1, 1) := by decide +kernel
theorem dX3_takeLines_43 : decode cX3_takeLines 43 = .ok (.iadd, 1) := by decide +kernel
theorem dX3_takeLines_44 : decode cX3_takeLines 44 = .ok (.putfield 23, 3) := by decide +kernel
theorem dX3_takeLines_47 : decode cX3_takeLines 47 = .ok (.aload_n 1, 1) := by decide +kernel
theorem dX3_takeLines_48 : decode cX3_takeLines 48 = .ok (.iload_n 3, 1) := by decide +kernel
theorem dX3_takeLines_49 : decode cX3_takeLines 49 = .ok (.invokevirtual 76, 3) := by decide +kernel
theorem dX3_takeLines_52 : decode cX3_takeLines 52 = .ok (.istore_n 2, 1) := by decide +kernel
theorem dX3_takeLines_53 : decode cX3_takeLines 53 = .ok (.aload_n 0, 1) := by decide +kernel
theorem dX3_takeLines_54 : decode cX3_takeLines 54 = .ok (.getfield 20, 3) := by decide +kernel
theorem dX3_takeLines_57 : decode cX3_takeLines 57 = .ok (.iload_n 3, 1) := by decide +kernel
theorem dX3_takeLines_58 : decode cX3_takeLines 58 = .ok (.aload_n 0, 1) := by decide +kernel
theorem dX3_takeLines_59 : decode cX3_takeLines 59 = .ok (.getfield 23, 3) := by decide +kernel
theorem dX3_takeLines_62 : decode cX3_takeLines 62 = .ok (.iconst 1, 1) := by decide +kernel
theorem dX3_takeLines_63 : decode cX3_takeLines 63 = .ok (.isub, 1) := by decide +kernel
theorem dX3_takeLines_64 : decode cX3_takeLines 64 = .ok (.invokevirtual 73, 3) := by decide +kernel
theorem dX3_takeLines_67 : decode cX3_takeLines 67 = .ok (.iinc 3 1, 3) := by decide +kernel
theorem dX3_takeLines_70 : decode cX3_takeLines 70 = .ok (.goto (-61), 3) := by decide +kernel
theorem dX3_takeLines_73 : decode cX3_takeLines 73 = .ok (.aload_n 0, 1) := by decide +kernel
theorem dX3_takeLines_74 : decode cX3_takeLines 74 = .ok (.getfield 14, 3) := by decide +kernel
theorem dX3_takeLines_77 : decode cX3_takeLines 77 = .ok (.aload_n 0, 1) := by decide +kernel
theorem dX3_takeLines_78 : decode cX3_takeLines 78 = .ok (.getfield 23, 3) := by decide +kernel
theorem dX3_takeLines_81 : decode cX3_takeLines 81 = .ok (.aload_n 0, 1) := by decide +kernel
theorem dX3_takeLines_82 : decode cX3_takeLines 82 = .ok (.getfield 27, 3) := by decide +kernel
theorem dX3_takeLines_85 : decode cX3_takeLines 85 = .ok (.getfield 52, 3) := by decide +kernel
theorem dX3_takeLines_88 : decode cX3_takeLines 88 = .ok (.invokevirtual 73, 3) := by decide +kernel
theorem dX3_takeLines_91 : decode cX3_takeLines 91 = .ok (.return_, 1) := by decide +kernel
theorem dX3_widthOfLine_0 : decode cX3_widthOfLine 0 = .ok (.aload_n 0, 1) := by decide +kernel
theorem dX3_widthOfLine_1 : decode cX3_widthOfLine 1 = .ok (.getfield 36, 3) := by decide +kernel
theorem dX3_widthOfLine_4 : decode cX3_widthOfLine 4 = .ok (.aload_n 0, 1) := by decide +kernel
theorem dX3_widthOfLine_5 : decode cX3_widthOfLine 5 = .ok (.getfield 14, 3) := by decide +kernel
theorem dX3_widthOfLine_8 : decode cX3_widthOfLine 8 = .ok (.iload_n 1, 1) := by decide +kernel
theorem dX3_widthOfLine_9 : decode cX3_widthOfLine 9 = .ok (.invokevirtual 76, 3) := by decide +kernel
theorem dX3_widthOfLine_12 : decode cX3_widthOfLine 12 = .ok (.aload_n 0, 1) := by decide +kernel
theorem dX3_widthOfLine_13 : decode cX3_widthOfLine 13 = .ok (.getfield 14, 3) := by decide +kernel
theorem dX3_widthOfLine_16 : decode cX3_widthOfLine 16 = .ok (.iload_n 1, 1) := by decide +kernel
theorem dX3_widthOfLine_17 : decode cX3_widthOfLine 17 = .ok (.iconst 1, 1) := by decide +kernel
theorem dX3_widthOfLine_18 : decode cX3_widthOfLine 18 = .ok (.iadd, 1) := by decide +kernel
theorem dX3_widthOfLine_19 : decode cX3_widthOfLine 19 = .ok (.invokevirtual 76, 3) := by decide +kernel
theorem dX3_widthOfLine_22 : decode cX3_widthOfLine 22 = .ok (.invokevirtual 80, 3) := by decide +kernel
theorem dX3_widthOfLine_25 : decode cX3_widthOfLine 25 = .ok (.ireturn, 1) := by decide +kernel
theorem dX3_isFirstOfParagraph_0 : decode cX3_isFirstOfParagraph 0 = .ok (.aload_n 0, 1) := by decide +kernel
theorem dX3_isFirstOfParagraph_1 : decode cX3_isFirstOfParagraph 1 = .ok (.getfield 14, 3) := by decide +kernel
theorem dX3_isFirstOfParagraph_4 : decode cX3_isFirstOfParagraph 4 = .ok (.iload_n 1, 1) := by decide +kernel
theorem dX3_isFirstOfParagraph_5 : decode cX3_isFirstOfParagraph 5 = .ok (.invokevirtual 76, 3) := by decide +kernel
theorem dX3_isFirstOfParagraph_8 : decode cX3_isFirstOfParagraph 8 = .ok (.istore_n 2, 1) := by decide +kernel
theorem dX3_isFirstOfParagraph_9 : decode cX3_isFirstOfParagraph 9 = .ok (.iload_n 2, 1) := by decide +kernel
theorem dX3_isFirstOfParagraph_10 : decode cX3_isFirstOfParagraph 10 = .ok (.ifCond .eq 16, 3) := by decide +kernel
theorem dX3_isFirstOfParagraph_13 : decode cX3_isFirstOfParagraph 13 = .ok (.aload_n 0, 1) := by decide +kernel
theorem dX3_isFirstOfParagraph_14 : decode cX3_isFirstOfParagraph 14 = .ok (.getfield 27, 3) := by decide +kernel
theorem dX3_isFirstOfParagraph_17 : decode cX3_isFirstOfParagraph 17 = .ok (.iload_n 2, 1) := by decide +kernel
theorem dX3_isFirstOfParagraph_18 : decode cX3_isFirstOfParagraph 18 = .ok (.iconst 1, 1) := by decide +kernel
theorem dX3_isFirstOfParagraph_19 : decode cX3_isFirstOfParagraph 19 = .ok (.isub, 1) := by decide +kernel
theorem dX3_isFirstOfParagraph_20 : decode cX3_isFirstOfParagraph 20 = .ok (.invokevirtual 55, 3) := by decide +kernel
theorem dX3_isFirstOfParagraph_23 : decode cX3_isFirstOfParagraph 23 = .ok (.ifCond .eq 7, 3) := by decide +kernel
theorem dX3_isFirstOfParagraph_26 : decode cX3_isFirstOfParagraph 26 = .ok (.iconst 1, 1) := by decide +kernel
theorem dX3_isFirstOfParagraph_27 : decode cX3_isFirstOfParagraph 27 = .ok (.goto 4, 3) := by decide +kernel
theorem dX3_isFirstOfParagraph_30 : decode cX3_isFirstOfParagraph 30 = .ok (.iconst 0, 1) := by decide +kernel
theorem dX3_isFirstOfParagraph_31 : decode cX3_isFirstOfParagraph 31 = .ok (.ireturn, 1) := by decide +kernel
theorem dX3_isLastOfParagraph_0 : decode cX3_isLastOfParagraph 0 = .ok (.aload_n 0, 1) := by decide +kernel
theorem dX3_isLastOfParagraph_1 : decode cX3_isLastOfParagraph 1 = .ok (.getfield 27, 3) := by decide +kernel
theorem dX3_isLastOfParagraph_4 : decode cX3_isLastOfParagraph 4 = .ok (.aload_n 0, 1) := by decide +kernel
theorem dX3_isLastOfParagraph_5 : decode cX3_isLastOfParagraph 5 = .ok (.getfield 14, 3) := by decide +kernel
theorem dX3_isLastOfParagraph_8 : decode cX3_isLastOfParagraph 8 = .ok (.iload_n 1, 1) := by decide +kernel
theorem dX3_isLastOfParagraph_9 : decode cX3_isLastOfParagraph 9 = .ok (.iconst 1, 1) := by decide +kernel
theorem dX3_isLastOfParagraph_10 : decode cX3_isLastOfParagraph 10 = .ok (.iadd, 1) := by decide +kernel
theorem dX3_isLastOfParagraph_11 : decode cX3_isLastOfParagraph 11 = .ok (.invokevirtual 76, 3) := by decide +kernel
theorem dX3_isLastOfParagraph_14 : decode cX3_isLastOfParagraph 14 = .ok (.iconst 1, 1) := by decide +kernel
theorem dX3_isLastOfParagraph_15 : decode cX3_isLastOfParagraph 15 = .ok (.isub, 1) := by decide +kernel
theorem dX3_isLastOfParagraph_16 : decode cX3_isLastOfParagraph 16 = .ok (.invokevirtual 55, 3) := by decide +kernel
theorem dX3_isLastOfParagraph_19 : decode cX3_isLastOfParagraph 19 = .ok (.ireturn, 1) := by decide +kernel
theorem dX3_opensParagraph_0 : decode cX3_opensParagraph 0 = .ok (.aload_n 0, 1) := by decide +kernel
theorem dX3_opensParagraph_1 : decode cX3_opensParagraph 1 = .ok (.iload_n 1, 1) := by decide +kernel
theorem dX3_opensParagraph_2 : decode cX3_opensParagraph 2 = .ok (.invokevirtual 84, 3) := by decide +kernel
theorem dX3_opensParagraph_5 : decode cX3_opensParagraph 5 = .ok (.ifCond .eq 15, 3) := by decide +kernel
theorem dX3_opensParagraph_8 : decode cX3_opensParagraph 8 = .ok (.aload_n 0, 1) := by decide +kernel
theorem dX3_opensParagraph_9 : decode cX3_opensParagraph 9 = .ok (.iload_n 1, 1) := by decide +kernel
theorem dX3_opensParagraph_10 : decode cX3_opensParagraph 10 = .ok (.invokevirtual 87, 3) := by decide +kernel
theorem dX3_opensParagraph_13 : decode cX3_opensParagraph 13 = .ok (.ifCond .ne 7, 3) := by decide +kernel
theorem dX3_opensParagraph_16 : decode cX3_opensParagraph 16 = .ok (.iconst 1, 1) := by decide +kernel
theorem dX3_opensParagraph_17 : decode cX3_opensParagraph 17 = .ok (.goto 4, 3) := by decide +kernel
theorem dX3_opensParagraph_20 : decode cX3_opensParagraph 20 = .ok (.iconst 0, 1) := by decide +kernel
theorem dX3_opensParagraph_21 : decode cX3_opensParagraph 21 = .ok (.ireturn, 1) := by decide +kernel
theorem dX3_closesParagraph_0 : decode cX3_closesParagraph 0 = .ok (.aload_n 0, 1) := by decide +kernel
theorem dX3_closesParagraph_1 : decode cX3_closesParagraph 1 = .ok (.iload_n 1, 1) := by decide +kernel
theorem dX3_closesParagraph_2 : decode cX3_closesParagraph 2 = .ok (.invokevirtual 87, 3) := by decide +kernel
theorem dX3_closesParagraph_5 : decode cX3_closesParagraph 5 = .ok (.ifCond .eq 15, 3) := by decide +kernel
theorem dX3_closesParagraph_8 : decode cX3_closesParagraph 8 = .ok (.aload_n 0, 1) := by decide +kernel
theorem dX3_closesParagraph_9 : decode cX3_closesParagraph 9 = .ok (.iload_n 1, 1) := by decide +kernel
theorem dX3_closesParagraph_10 : decode cX3_closesParagraph 10 = .ok (.invokevirtual 84, 3) := by decide +kernel
theorem dX3_closesParagraph_13 : decode cX3_closesParagraph 13 = .ok (.ifCond .ne 7, 3) := by decide +kernel
theorem dX3_closesParagraph_16 : decode cX3_closesParagraph 16 = .ok (.iconst 1, 1) := by decide +kernel
theorem dX3_closesParagraph_17 : decode cX3_closesParagraph 17 = .ok (.goto 4, 3) := by decide +kernel
theorem dX3_closesParagraph_20 : decode cX3_closesParagraph 20 = .ok (.iconst 0, 1) := by decide +kernel
theorem dX3_closesParagraph_21 : decode cX3_closesParagraph 21 = .ok (.ireturn, 1) := by decide +kernel
theorem dX3_stairAround_0 : decode cX3_stairAround 0 = .ok (.aload_n 0, 1) := by decide +kernel
theorem dX3_stairAround_1 : decode cX3_stairAround 1 = .ok (.iload_n 1, 1) := by decide +kernel
theorem dX3_stairAround_2 : decode cX3_stairAround 2 = .ok (.invokevirtual 84, 3) := by decide +kernel
theorem dX3_stairAround_5 : decode cX3_stairAround 5 = .ok (.ifCond .ne 21, 3) := by decide +kernel
theorem dX3_stairAround_8 : decode cX3_stairAround 8 = .ok (.aload_n 0, 1) := by decide +kernel
theorem dX3_stairAround_9 : decode cX3_stairAround 9 = .ok (.iload_n 1, 1) := by decide +kernel
theorem dX3_stairAround_10 : decode cX3_stairAround 10 = .ok (.invokevirtual 87, 3) := by decide +kernel
theorem dX3_stairAround_13 : decode cX3_stairAround 13 = .ok (.ifCond .ne 13, 3) := by decide +kernel
theorem dX3_stairAround_16 : decode cX3_stairAround 16 = .ok (.aload_n 0, 1) := by decide +kernel
theorem dX3_stairAround_17 : decode cX3_stairAround 17 = .ok (.iload_n 1, 1) := by decide +kernel
theorem dX3_stairAround_18 : decode cX3_stairAround 18 = .ok (.iconst 1, 1) := by decide +kernel
theorem dX3_stairAround_19 : decode cX3_stairAround 19 = .ok (.iadd, 1) := by decide +kernel
theorem dX3_stairAround_20 : decode cX3_stairAround 20 = .ok (.invokevirtual 87, 3) := by decide +kernel
theorem dX3_stairAround_23 : decode cX3_stairAround 23 = .ok (.ifCond .eq 5, 3) := by decide +kernel
theorem dX3_stairAround_26 : decode cX3_stairAround 26 = .ok (.iconst 0, 1) := by decide +kernel
theorem dX3_stairAround_27 : decode cX3_stairAround 27 = .ok (.ireturn, 1) := by decide +kernel
theorem dX3_stairAround_28 : decode cX3_stairAround 28 = .ok (.aload_n 0, 1) := by decide +kernel
theorem dX3_stairAround_29 : decode cX3_stairAround 29 = .ok (.getfield 27, 3) := by decide +kernel
theorem dX3_stairAround_32 : decode cX3_stairAround 32 = .ok (.aload_n 0, 1) := by decide +kernel
theorem dX3_stairAround_33 : decode cX3_stairAround 33 = .ok (.iload_n 1, 1) := by decide +kernel
theorem dX3_stairAround_34 : decode cX3_stairAround 34 = .ok (.iconst 1, 1) := by decide +kernel
theorem dX3_stairAround_35 : decode cX3_stairAround 35 = .ok (.isub, 1) := by decide +kernel
theorem dX3_stairAround_36 : decode cX3_stairAround 36 = .ok (.invokevirtual 90, 3) := by decide +kernel
theorem dX3_stairAround_39 : decode cX3_stairAround 39 = .ok (.aload_n 0, 1) := by decide +kernel
theorem dX3_stairAround_40 : decode cX3_stairAround 40 = .ok (.iload_n 1, 1) := by decide +kernel
theorem dX3_stairAround_41 : decode cX3_stairAround 41 = .ok (.invokevirtual 90, 3) := by decide +kernel
theorem dX3_stairAround_44 : decode cX3_stairAround 44 = .ok (.invokevirtual 93, 3) := by decide +kernel
theorem dX3_stairAround_47 : decode cX3_stairAround 47 = .ok (.istore_n 2, 1) := by decide +kernel
theorem dX3_stairAround_48 : decode cX3_stairAround 48 = .ok (.iload_n 2, 1) := by decide +kernel
theorem dX3_stairAround_49 : decode cX3_stairAround 49 = .ok (.aload_n 0, 1) := by decide +kernel
theorem dX3_stairAround_50 : decode cX3_stairAround 50 = .ok (.getfield 27, 3) := by decide +kernel
theorem dX3_stairAround_53 : decode cX3_stairAround 53 = .ok (.aload_n 0, 1) := by decide +kernel
theorem dX3_stairAround_54 : decode cX3_stairAround 54 = .ok (.iload_n 1, 1) := by decide +kernel
theorem dX3_stairAround_55 : decode cX3_stairAround 55 = .ok (.invokevirtual 90, 3) := by decide +kernel
theorem dX3_stairAround_58 : decode cX3_stairAround 58 = .ok (.aload_n 0, 1) := by decide +kernel
theorem dX3_stairAround_59 : decode cX3_stairAround 59 = .ok (.iload_n 1, 1) := by decide +kernel
theorem dX3_stairAround_60 : decode cX3_stairAround 60 = .ok (.iconst 1, 1) := by decide +kernel
theorem dX3_stairAround_61 : decode cX3_stairAround 61 = .ok (.iadd, 1) := by decide +kernel
theorem dX3_stairAround_62 : decode cX3_stairAround 62 = .ok (.invokevirtual 90, 3) := by decide +kernel
theorem dX3_stairAround_65 : decode cX3_stairAround 65 = .ok (.invokevirtual 93, 3) := by decide +kernel
theorem dX3_stairAround_68 : decode cX3_stairAround 68 = .ok (.if_icmp .ne 7, 3) := by decide +kernel
theorem dX3_stairAround_71 : decode cX3_stairAround 71 = .ok (.iload_n 2, 1) := by decide +kernel
theorem dX3_stairAround_72 : decode cX3_stairAround 72 = .ok (.goto 4, 3) := by decide +kernel
theorem dX3_stairAround_75 : decode cX3_stairAround 75 = .ok (.iconst 0, 1) := by decide +kernel
theorem dX3_stairAround_76 : decode cX3_stairAround 76 = .ok (.ireturn, 1) := by decide +kernel
theorem dX3_countStairs_0 : decode cX3_countStairs 0 = .ok (.iconst 0, 1) := by decide +kernel
theorem dX3_countStairs_1 : decode cX3_countStairs 1 = .ok (.istore_n 1, 1) := by decide +kernel
theorem dX3_countStairs_2 : decode cX3_countStairs 2 = .ok (.iconst 0, 1) := by decide +kernel
theorem dX3_countStairs_3 : decode cX3_countStairs 3 = .ok (.istore_n 2, 1) := by decide +kernel
theorem dX3_countStairs_4 : decode cX3_countStairs 4 = .ok (.iload_n 2, 1) := by decide +kernel
theorem dX3_countStairs_5 : decode cX3_countStairs 5 = .ok (.aload_n 0, 1) := by decide +kernel
theorem dX3_countStairs_6 : decode cX3_countStairs 6 = .ok (.getfield 23, 3) := by decide +kernel
theorem dX3_countStairs_9 : decode cX3_countStairs 9 = .ok (.if_icmp .ge 20, 3) := by decide +kernel
theorem dX3_countStairs_12 : decode cX3_countStairs 12 = .ok (.aload_n 0, 1) := by decide +kernel
theorem dX3_countStairs_13 : decode cX3_countStairs 13 = .ok (.iload_n 2, 1) := by decide +kernel
theorem dX3_countStairs_14 : decode cX3_countStairs 14 = .ok (.invokevirtual 96, 3) := by decide +kernel
theorem dX3_countStairs_17 : decode cX3_countStairs 17 = .ok (.ifCond .eq 6, 3) := by decide +kernel
theorem dX3_countStairs_20 : decode cX3_countStairs 20 = .ok (.iinc 1 1, 3) := by decide +kernel
theorem dX3_countStairs_23 : decode cX3_countStairs 23 = .ok (.iinc 2 1, 3) := by decide +kernel
theorem dX3_countStairs_26 : decode cX3_countStairs 26 = .ok (.goto (-22), 3) := by decide +kernel
theorem dX3_countStairs_29 : decode cX3_countStairs 29 = .ok (.iload_n 1, 1) := by decide +kernel
theorem dX3_countStairs_30 : decode cX3_countStairs 30 = .ok (.ireturn, 1) := by decide +kernel
theorem dX3_totalCost_0 : decode cX3_totalCost 0 = .ok (.iconst 0, 1) := by decide +kernel
theorem dX3_totalCost_1 : decode cX3_totalCost 1 = .ok (.istore_n 1, 1) := by decide +kernel
theorem dX3_totalCost_2 : decode cX3_totalCost 2 = .ok (.iconst 0, 1) := by decide +kernel
theorem dX3_totalCost_3 : decode cX3_totalCost 3 = .ok (.istore_n 2, 1) := by decide +kernel
theorem dX3_totalCost_4 : decode cX3_totalCost 4 = .ok (.iload_n 2, 1) := by decide +kernel
theorem dX3_totalCost_5 : decode cX3_totalCost 5 = .ok (.aload_n 0, 1) := by decide +kernel
theorem dX3_totalCost_6 : decode cX3_totalCost 6 = .ok (.getfield 23, 3) := by decide +kernel
theorem dX3_totalCost_9 : decode cX3_totalCost 9 = .ok (.if_icmp .ge 72, 3) := by decide +kernel
theorem dX3_totalCost_12 : decode cX3_totalCost 12 = .ok (.aload_n 0, 1) := by decide +kernel
theorem dX3_totalCost_13 : decode cX3_totalCost 13 = .ok (.iload_n 2, 1) := by decide +kernel
theorem dX3_totalCost_14 : decode cX3_totalCost 14 = .ok (.invokevirtual 90, 3) := by decide +kernel
theorem dX3_totalCost_17 : decode cX3_totalCost 17 = .ok (.istore_n 3, 1) := by decide +kernel
theorem dX3_totalCost_18 : decode cX3_totalCost 18 = .ok (.iload_n 1, 1) := by decide +kernel
theorem dX3_totalCost_19 : decode cX3_totalCost 19 = .ok (.aload_n 0, 1) := by decide +kernel
theorem dX3_totalCost_20 : decode cX3_totalCost 20 = .ok (.iload_n 2, 1) := by decide +kernel
theorem dX3_totalCost_21 : decode cX3_totalCost 21 = .ok (.invokevirtual 87, 3) := by decide +kernel
theorem dX3_totalCost_24 : decode cX3_totalCost 24 = .ok (.ifCond .eq 19, 3) := by decide +kernel
theorem dX3_totalCost_27 : decode cX3_totalCost 27 = .ok (.aload_n 0, 1) := by decide +kernel
theorem dX3_totalCost_28 : decode cX3_totalCost 28 = .ok (.getfield 27, 3) := by decide +kernel
theorem dX3_totalCost_31 : decode cX3_totalCost 31 = .ok (.iload_n 3, 1) := by decide +kernel
theorem dX3_totalCost_32 : decode cX3_totalCost 32 = .ok (.aload_n 0, 1) := by decide +kernel
theorem dX3_totalCost_33 : decode cX3_totalCost 33 = .ok (.iload_n 2, 1) := by decide +kernel
theorem dX3_totalCost_34 : decode cX3_totalCost 34 = .ok (.invokevirtual 84, 3) := by decide +kernel
theorem dX3_totalCost_37 : decode cX3_totalCost 37 = .ok (.invokevirtual 99, 3) := by decide +kernel
theorem dX3_totalCost_40 : decode cX3_totalCost 40 = .ok (.goto 11, 3) := by decide +kernel
theorem dX3_totalCost_43 : decode cX3_totalCost 43 = .ok (.aload_n 0, 1) := by decide +kernel
theorem dX3_totalCost_44 : decode cX3_totalCost 44 = .ok (.getfield 27, 3) := by decide +kernel
theorem dX3_totalCost_47 : decode cX3_totalCost 47 = .ok (.iload_n 3, 1) := by decide +kernel
theorem dX3_totalCost_48 : decode cX3_totalCost 48 = .ok (.invokevirtual 103, 3) := by decide +kernel
theorem dX3_totalCost_51 : decode cX3_totalCost 51 = .ok (.iadd, 1) := by decide +kernel
theorem dX3_totalCost_52 : decode cX3_totalCost 52 = .ok (.istore_n 1, 1) := by decide +kernel
theorem dX3_totalCost_53 : decode cX3_totalCost 53 = .ok (.iload_n 1, 1) := by decide +kernel
theorem dX3_totalCost_54 : decode cX3_totalCost 54 = .ok (.aload_n 0, 1) := by decide +kernel
theorem dX3_totalCost_55 : decode cX3_totalCost 55 = .ok (.iload_n 2, 1) := by decide +kernel
theorem dX3_totalCost_56 : decode cX3_totalCost 56 = .ok (.invokevirtual 96, 3) := by decide +kernel
theorem dX3_totalCost_59 : decode cX3_totalCost 59 = .ok (.ifCond .eq 13, 3) := by decide +kernel
theorem dX3_totalCost_62 : decode cX3_totalCost 62 = .ok (.aload_n 0, 1) := by decide +kernel
theorem dX3_totalCost_63 : decode cX3_totalCost 63 = .ok (.getfield 27, 3) := by decide +kernel
theorem dX3_totalCost_66 : decode cX3_totalCost 66 = .ok (.getfield 106, 3) := by decide +kernel
theorem dX3_totalCost_69 : decode cX3_totalCost 69 = .ok (.goto 4, 3) := by decide +kernel
theorem dX3_totalCost_72 : decode cX3_totalCost 72 = .ok (.iconst 0, 1) := by decide +kernel
theorem dX3_totalCost_73 : decode cX3_totalCost 73 = .ok (.iadd, 1) := by decide +kernel
theorem dX3_totalCost_74 : decode cX3_totalCost 74 = .ok (.istore_n 1, 1) := by decide +kernel
theorem dX3_totalCost_75 : decode cX3_totalCost 75 = .ok (.iinc 2 1, 3) := by decide +kernel
theorem dX3_totalCost_78 : decode cX3_totalCost 78 = .ok (.goto (-74), 3) := by decide +kernel
theorem dX3_totalCost_81 : decode cX3_totalCost 81 = .ok (.iload_n 1, 1) := by decide +kernel
theorem dX3_totalCost_82 : decode cX3_totalCost 82 = .ok (.ireturn, 1) := by decide +kernel
theorem dX3_reasonBehind_0 : decode cX3_reasonBehind 0 = .ok (.aload_n 0, 1) := by decide +kernel
theorem dX3_reasonBehind_1 : decode cX3_reasonBehind 1 = .ok (.getfield 20, 3) := by decide +kernel
theorem dX3_reasonBehind_4 : decode cX3_reasonBehind 4 = .ok (.iload_n 1, 1) := by decide +kernel
theorem dX3_reasonBehind_5 : decode cX3_reasonBehind 5 = .ok (.invokevirtual 76, 3) := by decide +kernel
theorem dX3_reasonBehind_8 : decode cX3_reasonBehind 8 = .ok (.istore_n 2, 1) := by decide +kernel
theorem dX3_reasonBehind_9 : decode cX3_reasonBehind 9 = .ok (.aload_n 0, 1) := by decide +kernel
theorem dX3_reasonBehind_10 : decode cX3_reasonBehind 10 = .ok (.getfield 14, 3) := by decide +kernel
theorem dX3_reasonBehind_13 : decode cX3_reasonBehind 13 = .ok (.iload_n 2, 1) := by decide +kernel
theorem dX3_reasonBehind_14 : decode cX3_reasonBehind 14 = .ok (.iconst 1, 1) := by decide +kernel
theorem dX3_reasonBehind_15 : decode cX3_reasonBehind 15 = .ok (.iadd, 1) := by decide +kernel
theorem dX3_reasonBehind_16 : decode cX3_reasonBehind 16 = .ok (.invokevirtual 76, 3) := by decide +kernel
theorem dX3_reasonBehind_19 : decode cX3_reasonBehind 19 = .ok (.iload_n 1, 1) := by decide +kernel
theorem dX3_reasonBehind_20 : decode cX3_reasonBehind 20 = .ok (.iconst 1, 1) := by decide +kernel
theorem dX3_reasonBehind_21 : decode cX3_reasonBehind 21 = .ok (.iadd, 1) := by decide +kernel
theorem dX3_reasonBehind_22 : decode cX3_reasonBehind 22 = .ok (.if_icmp .eq 5, 3) := by decide +kernel
theorem dX3_reasonBehind_25 : decode cX3_reasonBehind 25 = .ok (.iconst 0, 1) := by decide +kernel
theorem dX3_reasonBehind_26 : decode cX3_reasonBehind 26 = .ok (.ireturn, 1) := by decide +kernel
theorem dX3_reasonBehind_27 : decode cX3_reasonBehind 27 = .ok (.aload_n 0, 1) := by decide +kernel
theorem dX3_reasonBehind_28 : decode cX3_reasonBehind 28 = .ok (.getfield 27, 3) := by decide +kernel
theorem dX3_reasonBehind_31 : decode cX3_reasonBehind 31 = .ok (.iload_n 1, 1) := by decide +kernel
theorem dX3_reasonBehind_32 : decode cX3_reasonBehind 32 = .ok (.invokevirtual 55, 3) := by decide +kernel
theorem dX3_reasonBehind_35 : decode cX3_reasonBehind 35 = .ok (.ifCond .eq 5, 3) := by decide +kernel
theorem dX3_reasonBehind_38 : decode cX3_reasonBehind 38 = .ok (.iconst 1, 1) := by decide +kernel
theorem dX3_reasonBehind_39 : decode cX3_reasonBehind 39 = .ok (.ireturn, 1) := by decide +kernel
theorem dX3_reasonBehind_40 : decode cX3_reasonBehind 40 = .ok (.aload_n 0, 1) := by decide +kernel
theorem dX3_reasonBehind_41 : decode cX3_reasonBehind 41 = .ok (.getfield 27, 3) := by decide +kernel
theorem dX3_reasonBehind_44 : decode cX3_reasonBehind 44 = .ok (.getfield 109, 3) := by decide +kernel
theorem dX3_reasonBehind_47 : decode cX3_reasonBehind 47 = .ok (.iload_n 1, 1) := by decide +kernel
theorem dX3_reasonBehind_48 : decode cX3_reasonBehind 48 = .ok (.invokevirtual 76, 3) := by decide +kernel
theorem dX3_reasonBehind_51 : decode cX3_reasonBehind 51 = .ok (.iconst 1, 1) := by decide +kernel
theorem dX3_reasonBehind_52 : decode cX3_reasonBehind 52 = .ok (.if_icmp .ne 5, 3) := by decide +kernel
theorem dX3_reasonBehind_55 : decode cX3_reasonBehind 55 = .ok (.iconst 2, 1) := by decide +kernel
theorem dX3_reasonBehind_56 : decode cX3_reasonBehind 56 = .ok (.ireturn, 1) := by decide +kernel
theorem dX3_reasonBehind_57 : decode cX3_reasonBehind 57 = .ok (.aload_n 0, 1) := by decide +kernel
theorem dX3_reasonBehind_58 : decode cX3_reasonBehind 58 = .ok (.getfield 36, 3) := by decide +kernel
theorem dX3_reasonBehind_61 : decode cX3_reasonBehind 61 = .ok (.aload_n 0, 1) := by decide +kernel
theorem dX3_reasonBehind_62 : decode cX3_reasonBehind 62 = .ok (.getfield 14, 3) := by decide +kernel
theorem dX3_reasonBehind_65 : decode cX3_reasonBehind 65 = .ok (.iload_n 2, 1) := by decide +kernel
theorem dX3_reasonBehind_66 : decode cX3_reasonBehind 66 = .ok (.invokevirtual 76, 3) := by decide +kernel
theorem dX3_reasonBehind_69 : decode cX3_reasonBehind 69 = .ok (.iload_n 1, 1) := by decide +kernel
theorem dX3_reasonBehind_70 : decode cX3_reasonBehind 70 = .ok (.iconst 2, 1) := by decide +kernel
theorem dX3_reasonBehind_71 : decode cX3_reasonBehind 71 = .ok (.iadd, 1) := by decide +kernel
theorem dX3_reasonBehind_72 : decode cX3_reasonBehind 72 = .ok (.invokevirtual 80, 3) := by decide +kernel
theorem dX3_reasonBehind_75 : decode cX3_reasonBehind 75 = .ok (.aload_n 0, 1) := by decide +kernel
theorem dX3_reasonBehind_76 : decode cX3_reasonBehind 76 = .ok (.getfield 27, 3) := by decide +kernel
theorem dX3_reasonBehind_79 : decode cX3_reasonBehind 79 = .ok (.getfield 112, 3) := by decide +kernel
theorem dX3_reasonBehind_82 : decode cX3_reasonBehind 82 = .ok (.if_icmp .le 7, 3) := by decide +kernel
theorem dX3_reasonBehind_85 : decode cX3_reasonBehind 85 = .ok (.iconst 3, 1) := by decide +kernel
theorem dX3_reasonBehind_86 : decode cX3_reasonBehind 86 = .ok (.goto 4, 3) := by decide +kernel
theorem dX3_reasonBehind_89 : decode cX3_reasonBehind 89 = .ok (.iconst 4, 1) := by decide +kernel
theorem dX3_reasonBehind_90 : decode cX3_reasonBehind 90 = .ok (.ireturn, 1) := by decide +kernel
theorem dX4_init_0 : decode cX4_init 0 = .ok (.aload_n 0, 1) := by decide +kernel
theorem dX4_init_1 : decode cX4_init 1 = .ok (.invokespecial 5, 3) := by decide +kernel
theorem dX4_init_4 : decode cX4_init 4 = .ok (.aload_n 0, 1) := by decide +kernel
theorem dX4_init_5 : decode cX4_init 5 = .ok (.new 11, 3) := by decide +kernel
theorem dX4_init_8 : decode cX4_init 8 = .ok (.dup, 1) := by decide +kernel
theorem dX4_init_9 : decode cX4_init 9 = .ok (.sipush 2460, 3) := by decide +kernel
theorem dX4_init_12 : decode cX4_init 12 = .ok (.invokespecial 13, 3) := by decide +kernel
theorem dX4_init_15 : decode cX4_init 15 = .ok (.putfield 16, 3) := by decide +kernel
theorem dX4_init_18 : decode cX4_init 18 = .ok (.aload_n 0, 1) := by decide +kernel
theorem dX4_init_19 : decode cX4_init 19 = .ok (.new 11, 3) := by decide +kernel
theorem dX4_init_22 : decode cX4_init 22 = .ok (.dup, 1) := by decide +kernel
theorem dX4_init_23 : decode cX4_init 23 = .ok (.sipush 2460, 3) := by decide +kernel
theorem dX4_init_26 : decode cX4_init 26 = .ok (.invokespecial 13, 3) := by decide +kernel
theorem dX4_init_29 : decode cX4_init 29 = .ok (.putfield 20, 3) := by decide +kernel
theorem dX4_init_32 : decode cX4_init 32 = .ok (.aload_n 0, 1) := by decide +kernel
theorem dX4_init_33 : decode cX4_init 33 = .ok (.new 11, 3) := by decide +kernel
theorem dX4_init_36 : decode cX4_init 36 = .ok (.dup, 1) := by decide +kernel
theorem dX4_init_37 : decode cX4_init 37 = .ok (.bipush 40, 2) := by decide +kernel
theorem dX4_init_39 : decode cX4_init 39 = .ok (.invokespecial 13, 3) := by decide +kernel
theorem dX4_init_42 : decode cX4_init 42 = .ok (.putfield 23, 3) := by decide +kernel
theorem dX4_init_45 : decode cX4_init 45 = .ok (.aload_n 0, 1) := by decide +kernel
theorem dX4_init_46 : decode cX4_init 46 = .ok (.aload_n 1, 1) := by decide +kernel
theorem dX4_init_47 : decode cX4_init 47 = .ok (.putfield 26, 3) := by decide +kernel
theorem dX4_init_50 : decode cX4_init 50 = .ok (.aload_n 0, 1) := by decide +kernel
theorem dX4_init_51 : decode cX4_init 51 = .ok (.aload_n 2, 1) := by decide +kernel
theorem dX4_init_52 : decode cX4_init 52 = .ok (.putfield 30, 3) := by decide +kernel
theorem dX4_init_55 : decode cX4_init 55 = .ok (.return_, 1) := by decide +kernel
theorem dX4_solve_0 : decode cX4_solve 0 = .ok (.iload_n 2, 1) := by decide +kernel
theorem dX4_solve_1 : decode cX4_solve 1 = .ok (.iconst 1, 1) := by decide +kernel
theorem dX4_solve_2 : decode cX4_solve 2 = .ok (.isub, 1) := by decide +kernel
theorem dX4_solve_3 : decode cX4_solve 3 = .ok (.istore_n 3, 1) := by decide +kernel
theorem dX4_solve_4 : decode cX4_solve 4 = .ok (.iload_n 3, 1) := by decide +kernel
theorem dX4_solve_5 : decode cX4_solve 5 = .ok (.iload_n 1, 1) := by decide +kernel
theorem dX4_solve_6 : decode cX4_solve 6 = .ok (.if_icmp .le 48, 3) := by decide +kernel
theorem dX4_solve_9 : decode cX4_solve 9 = .ok (.iload_n 1, 1) := by decide +kernel
theorem dX4_solve_10 : decode cX4_solve 10 = .ok (.istore 4, 2) := by decide +kernel
theorem dX4_solve_12 : decode cX4_solve 12 = .ok (.iload 4, 2) := by decide +kernel
theorem dX4_solve_14 : decode cX4_solve 14 = .ok (.iload_n 3, 1) := by decide +kernel
theorem dX4_solve_15 : decode cX4_solve 15 = .ok (.if_icmp .ge 33, 3) := by decide +kernel
theorem dX4_solve_18 : decode cX4_solve 18 = .ok (.aload_n 0, 1) := by decide +kernel
theorem dX4_solve_19 : decode cX4_solve 19 = .ok (.getfield 30, 3) := by decide +kernel
theorem dX4_solve_22 : decode cX4_solve 22 = .ok (.getfield 34, 3) := by decide +kernel
theorem dX4_solve_25 : decode cX4_solve 25 = .ok (.iload 4, 2) := by decide +kernel
theorem dX4_solve_27 : decode cX4_solve 27 = .ok (.invokevirtual 39, 3) := by decide +kernel
theorem dX4_solve_30 : decode cX4_solve 30 = .ok (.iload_n 3, 1) := by decide +kernel
theorem dX4_solve_31 : decode cX4_solve 31 = .ok (.if_icmp .lt 11, 3) := by decide +kernel
theorem dX4_solve_34 : decode cX4_solve 34 = .ok (.aload_n 0, 1) := by decide +kernel
theorem dX4_solve_35 : decode cX4_solve 35 = .ok (.iload 4, 2) := by decide +kernel
theorem dX4_solve_37 : decode cX4_solve 37 = .ok (.iload_n 3, 1) := by decide +kernel
theorem dX4_solve_38 : decode cX4_solve 38 = .ok (.iload_n 2, 1) := by decide +kernel
theorem dX4_solve_39 : decode cX4_solve 39 = .ok (.invokevirtual 43, 3) := by decide +kernel
theorem dX4_solve_42 : decode cX4_solve 42 = .ok (.iinc 4 1, 3) := by decide +kernel
theorem dX4_solve_45 : decode cX4_solve 45 = .ok (.goto (-33), 3) := by decide +kernel
theorem dX4_solve_48 : decode cX4_solve 48 = .ok (.iinc 3 (-1), 3) := by decide +kernel
theorem dX4_solve_51 : decode cX4_solve 51 = .ok (.goto (-47), 3) := by decide +kernel
theorem dX4_solve_54 : decode cX4_solve 54 = .ok (.aload_n 0, 1) := by decide +kernel
theorem dX4_solve_55 : decode cX4_solve 55 = .ok (.iload_n 1, 1) := by decide +kernel
theorem dX4_solve_56 : decode cX4_solve 56 = .ok (.iload_n 1, 1) := by decide +kernel
theorem dX4_solve_57 : decode cX4_solve 57 = .ok (.iload_n 2, 1) := by decide +kernel
theorem dX4_solve_58 : decode cX4_solve 58 = .ok (.invokevirtual 43, 3) := by decide +kernel
theorem dX4_solve_61 : decode cX4_solve 61 = .ok (.aload_n 0, 1) := by decide +kernel
theorem dX4_solve_62 : decode cX4_solve 62 = .ok (.iload_n 1, 1) := by decide +kernel
theorem dX4_solve_63 : decode cX4_solve 63 = .ok (.iload_n 2, 1) := by decide +kernel
theorem dX4_solve_64 : decode cX4_solve 64 = .ok (.invokevirtual 47, 3) := by decide +kernel
theorem dX4_solve_67 : decode cX4_solve 67 = .ok (.return_, 1) := by decide +kernel
theorem dX4_weigh_0 : decode cX4_weigh 0 = .ok (.iconst (-1), 1) := by decide +kernel
theorem dX4_weigh_1 : decode cX4_weigh 1 = .ok (.istore 4, 2) := by decide +kernel
theorem dX4_weigh_3 : decode cX4_weigh 3 = .ok (.iload 4, 2) := by decide +kernel
theorem dX4_weigh_5 : decode cX4_weigh 5 = .ok (.iconst 1, 1) := by decide +kernel
theorem dX4_weigh_6 : decode cX4_weigh 6 = .ok (.if_icmp .gt 25, 3) := by decide +kernel
theorem dX4_weigh_9 : decode cX4_weigh 9 = .ok (.aload_n 0, 1) := by decide +kernel
theorem dX4_weigh_10 : decode cX4_weigh 10 = .ok (.getfield 16, 3) := by decide +kernel
theorem dX4_weigh_13 : decode cX4_weigh 13 = .ok (.iload_n 1, 1) := by decide +kernel
theorem dX4_weigh_14 : decode cX4_weigh 14 = .ok (.iload_n 2, 1) := by decide +kernel
theorem dX4_weigh_15 : decode cX4_weigh 15 = .ok (.iload 4, 2) := by decide +kernel
theorem dX4_weigh_17 : decode cX4_weigh 17 = .ok (.invokestatic 51, 3) := by decide +kernel
theorem dX4_weigh_20 : decode cX4_weigh 20 = .ok (.ldc 57, 2) := by decide +kernel
theorem dX4_weigh_22 : decode cX4_weigh 22 = .ok (.invokevirtual 58, 3) := by decide +kernel
theorem dX4_weigh_25 : decode cX4_weigh 25 = .ok (.iinc 4 1, 3) := by decide +kernel
theorem dX4_weigh_28 : decode cX4_weigh 28 = .ok (.goto (-25), 3) := by decide +kernel
theorem dX4_weigh_31 : decode cX4_weigh 31 = .ok (.aload_n 0, 1) := by decide +kernel
theorem dX4_weigh_32 : decode cX4_weigh 32 = .ok (.getfield 30, 3) := by decide +kernel
theorem dX4_weigh_35 : decode cX4_weigh 35 = .ok (.iload_n 1, 1) := by decide +kernel
theorem dX4_weigh_36 : decode cX4_weigh 36 = .ok (.iload_n 2, 1) := by decide +kernel
theorem dX4_weigh_37 : decode cX4_weigh 37 = .ok (.invokevirtual 61, 3) := by decide +kernel
theorem dX4_weigh_40 : decode cX4_weigh 40 = .ok (.istore 4, 2) := by decide +kernel
theorem dX4_weigh_42 : decode cX4_weigh 42 = .ok (.aload_n 0, 1) := by decide +kernel
theorem dX4_weigh_43 : decode cX4_weigh 43 = .ok (.getfield 30, 3) := by decide +kernel
theorem dX4_weigh_46 : decode cX4_weigh 46 = .ok (.getfield 34, 3) := by decide +kernel
theorem dX4_weigh_49 : decode cX4_weigh 49 = .ok (.iload_n 2, 1) := by decide +kernel
theorem dX4_weigh_50 : decode cX4_weigh 50 = .ok (.invokevirtual 39, 3) := by decide +kernel
theorem dX4_weigh_53 : decode cX4_weigh 53 = .ok (.istore 5, 2) := by decide +kernel
theorem dX4_weigh_55 : decode cX4_weigh 55 = .ok (.iload 5, 2) := by decide +kernel
theorem dX4_weigh_57 : decode cX4_weigh 57 = .ok (.iload_n 2, 1) := by decide +kernel
theorem dX4_weigh_58 : decode cX4_weigh 58 = .ok (.if_icmp .le 191, 3) := by decide +kernel
theorem dX4_weigh_61 : decode cX4_weigh 61 = .ok (.aload_n 0, 1) := by decide +kernel
theorem dX4_weigh_62 : decode cX4_weigh 62 = .ok (.getfield 30, 3) := by decide +kernel
theorem dX4_weigh_65 : decode cX4_weigh 65 = .ok (.iload_n 2, 1) := by decide +kernel
theorem dX4_weigh_66 : decode cX4_weigh 66 = .ok (.iload 5, 2) := by decide +kernel
theorem dX4_weigh_68 : decode cX4_weigh 68 = .ok (.invokevirtual 61, 3) := by decide +kernel
theorem dX4_weigh_71 : decode cX4_weigh 71 = .ok (.istore 6, 2) := by decide +kernel
theorem dX4_weigh_73 : decode cX4_weigh 73 = .ok (.iconst 0, 1) := by decide +kernel
theorem dX4_weigh_74 : decode cX4_weigh 74 = .ok (.istore 7, 2) := by decide +kernel
theorem dX4_weigh_76 : decode cX4_weigh 76 = .ok (.iconst 1, 1) := by decide +kernel
theorem dX4_weigh_77 : decode cX4_weigh 77 = .ok (.istore 8, 2) := by decide +kernel
theorem dX4_weigh_79 : decode cX4_weigh 79 = .ok (.iload 5, 2) := by decide +kernel
theorem dX4_weigh_81 : decode cX4_weigh 81 = .ok (.iload_n 3, 1) := by decide +kernel
theorem dX4_weigh_82 : decode cX4_weigh 82 = .ok (.if_icmp .ne 33, 3) := by decide +kernel
theorem dX4_weigh_85 : decode cX4_weigh 85 = .ok (.iload 8, 2) := by decide +kernel
theorem dX4_weigh_87 : decode cX4_weigh 87 = .ok (.bipush 64, 2) := by decide +kernel
theorem dX4_weigh_89 : decode cX4_weigh 89 = .ok (.aload_n 0, 1) := by decide +kernel
theorem dX4_weigh_90 : decode cX4_weigh 90 = .ok (.getfield 26, 3) := by decide +kernel
theorem dX4_weigh_93 : decode cX4_weigh 93 = .ok (.iload 6, 2) := by decide +kernel
theorem dX4_weigh_95 : decode cX4_weigh 95 = .ok (.iload_n 1, 1) := by decide +kernel
theorem dX4_weigh_96 : decode cX4_weigh 96 = .ok (.iload_n 2, 1) := by decide +kernel
theorem dX4_weigh_97 : decode cX4_weigh 97 = .ok (.if_icmp .ne 7, 3) := by decide +kernel
theorem dX4_weigh_100 : decode cX4_weigh 100 = .ok (.iconst 1, 1) := by decide +kernel
theorem dX4_weigh_101 : decode cX4_weigh 101 = .ok (.goto 4, 3) := by decide +kernel
theorem dX4_weigh_104 : decode cX4_weigh 104 = .ok (.iconst 0, 1) := by decide +kernel
theorem dX4_weigh_105 : decode cX4_weigh 105 = .ok (.invokevirtual 65, 3) := by decide +kernel
theorem dX4_weigh_108 : decode cX4_weigh 108 = .ok (.imul, 1) := by decide +kernel
theorem dX4_weigh_109 : decode cX4_weigh 109 = .ok (.iadd, 1) := by decide +kernel
theorem dX4_weigh_110 : decode cX4_weigh 110 = .ok (.istore 8, 2) := by decide +kernel
theorem dX4_weigh_112 : decode cX4_weigh 112 = .ok (.goto 58, 3) := by decide +kernel
theorem dX4_weigh_115 : decode cX4_weigh 115 = .ok (.iload_n 1, 1) := by decide +kernel
theorem dX4_weigh_116 : decode cX4_weigh 116 = .ok (.iload_n 2, 1) := by decide +kernel
theorem dX4_weigh_117 : decode cX4_weigh 117 = .ok (.if_icmp .ne 7, 3) := by decide +kernel
theorem dX4_weigh_120 : decode cX4_weigh 120 = .ok (.iconst 0, 1) := by decide +kernel
theorem dX4_weigh_121 : decode cX4_weigh 121 = .ok (.goto 14, 3) := by decide +kernel
theorem dX4_weigh_124 : decode cX4_weigh 124 = .ok (.aload_n 0, 1) := by decide +kernel
theorem dX4_weigh_125 : decode cX4_weigh 125 = .ok (.getfield 26, 3) := by decide +kernel
theorem dX4_weigh_128 : decode cX4_weigh 128 = .ok (.iload 4, 2) := by decide +kernel
theorem dX4_weigh_130 : decode cX4_weigh 130 = .ok (.iload 6, 2) := by decide +kernel
theorem dX4_weigh_132 : decode cX4_weigh 132 = .ok (.invokevirtual 71, 3) := by decide +kernel
theorem dX4_weigh_135 : decode cX4_weigh 135 = .ok (.istore 7, 2) := by decide +kernel
theorem dX4_weigh_137 : decode cX4_weigh 137 = .ok (.iload 8, 2) := by decide +kernel
theorem dX4_weigh_139 : decode cX4_weigh 139 = .ok (.bipush 64, 2) := by decide +kernel
theorem dX4_weigh_141 : decode cX4_weigh 141 = .ok (.aload_n 0, 1) := by decide +kernel
theorem dX4_weigh_142 : decode cX4_weigh 142 = .ok (.getfield 26, 3) := by decide +kernel
theorem dX4_weigh_145 : decode cX4_weigh 145 = .ok (.iload 6, 2) := by decide +kernel
theorem dX4_weigh_147 : decode cX4_weigh 147 = .ok (.invokevirtual 74, 3) := by decide +kernel
theorem dX4_weigh_150 : decode cX4_weigh 150 = .ok (.imul, 1) := by decide +kernel
theorem dX4_weigh_151 : decode cX4_weigh 151 = .ok (.aload_n 0, 1) := by decide +kernel
theorem dX4_weigh_152 : decode cX4_weigh 152 = .ok (.getfield 16, 3) := by decide +kernel
theorem dX4_weigh_155 : decode cX4_weigh 155 = .ok (.iload_n 2, 1) := by decide +kernel
theorem dX4_weigh_156 : decode cX4_weigh 156 = .ok (.iload 5, 2) := by decide +kernel
theorem dX4_weigh_158 : decode cX4_weigh 158 = .ok (.iload 7, 2) := by decide +kernel
theorem dX4_weigh_160 : decode cX4_weigh 160 = .ok (.invokestatic 51, 3) := by decide +kernel
theorem dX4_weigh_163 : decode cX4_weigh 163 = .ok (.invokevirtual 39, 3) := by decide +kernel
theorem dX4_weigh_166 : decode cX4_weigh 166 = .ok (.iadd, 1) := by decide +kernel
theorem dX4_weigh_167 : decode cX4_weigh 167 = .ok (.iadd, 1) := by decide +kernel
theorem dX4_weigh_168 : decode cX4_weigh 168 = .ok (.istore 8, 2) := by decide +kernel
theorem dX4_weigh_170 : decode cX4_weigh 170 = .ok (.iconst (-1), 1) := by decide +kernel
theorem dX4_weigh_171 : decode cX4_weigh 171 = .ok (.istore 9, 2) := by decide +kernel
theorem dX4_weigh_173 : decode cX4_weigh 173 = .ok (.iload 9, 2) := by decide +kernel
theorem dX4_weigh_175 : decode cX4_weigh 175 = .ok (.iconst 1, 1) := by decide +kernel
theorem dX4_weigh_176 : decode cX4_weigh 176 = .ok (.if_icmp .gt 67, 3) := by decide +kernel
theorem dX4_weigh_179 : decode cX4_weigh 179 = .ok (.iload 7, 2) := by decide +kernel
theorem dX4_weigh_181 : decode cX4_weigh 181 = .ok (.ifCond .eq 14, 3) := by decide +kernel
theorem dX4_weigh_184 : decode cX4_weigh 184 = .ok (.iload 7, 2) := by decide +kernel
theorem dX4_weigh_186 : decode cX4_weigh 186 = .ok (.iload 9, 2) := by decide +kernel
theorem dX4_weigh_188 : decode cX4_weigh 188 = .ok (.if_icmp .ne 7, 3) := by decide +kernel
theorem dX4_weigh_191 : decode cX4_weigh 191 = .ok (.iconst 1, 1) := by decide +kernel
theorem dX4_weigh_192 : decode cX4_weigh 192 = .ok (.goto 4, 3) := by decide +kernel
theorem dX4_weigh_195 : decode cX4_weigh 195 = .ok (.iconst 0, 1) := by decide +kernel
theorem dX4_weigh_196 : decode cX4_weigh 196 = .ok (.istore 10, 2) := by decide +kernel
theorem dX4_weigh_198 : decode cX4_weigh 198 = .ok (.iload 10, 2) := by decide +kernel
theorem dX4_weigh_200 : decode cX4_weigh 200 = .ok (.ifCond .eq 16, 3) := by decide +kernel
theorem dX4_weigh_203 : decode cX4_weigh 203 = .ok (.bipush 64, 2) := by decide +kernel
theorem dX4_weigh_205 : decode cX4_weigh 205 = .ok (.aload_n 0, 1) := by decide +kernel
theorem dX4_weigh_206 : decode cX4_weigh 206 = .ok (.getfield 26, 3) := by decide +kernel
theorem dX4_weigh_209 : decode cX4_weigh 209 = .ok (.getfield 77, 3) := by decide +kernel
theorem dX4_weigh_212 : decode cX4_weigh 212 = .ok (.imul, 1) := by decide +kernel
theorem dX4_weigh_213 : decode cX4_weigh 213 = .ok (.goto 4, 3) := by decide +kernel
theorem dX4_weigh_216 : decode cX4_weigh 216 = .ok (.iconst 0, 1) := by decide +kernel
theorem dX4_weigh_217 : decode cX4_weigh 217 = .ok (.istore 11, 2) := by decide +kernel
theorem dX4_weigh_219 : decode cX4_weigh 219 = .ok (.aload_n 0, 1) := by decide +kernel
theorem dX4_weigh_220 : decode cX4_weigh 220 = .ok (.iload_n 1, 1) := by decide +kernel
theorem dX4_weigh_221 : decode cX4_weigh 221 = .ok (.iload_n 2, 1) := by decide +kernel
theorem dX4_weigh_222 : decode cX4_weigh 222 = .ok (.iload 9, 2) := by decide +kernel
theorem dX4_weigh_224 : decode cX4_weigh 224 = .ok (.invokestatic 51, 3) := by decide +kernel
theorem dX4_weigh_227 : decode cX4_weigh 227 = .ok (.iload 8, 2) := by decide +kernel
theorem dX4_weigh_229 : decode cX4_weigh 229 = .ok (.iload 11, 2) := by decide +kernel
theorem dX4_weigh_231 : decode cX4_weigh 231 = .ok (.iadd, 1) := by decide +kernel
theorem dX4_weigh_232 : decode cX4_weigh 232 = .ok (.iload 5, 2) := by decide +kernel
theorem dX4_weigh_234 : decode cX4_weigh 234 = .ok (.invokevirtual 81, 3) := by decide +kernel
theorem dX4_weigh_237 : decode cX4_weigh 237 = .ok (.iinc 9 1, 3) := by decide +kernel
theorem dX4_weigh_240 : decode cX4_weigh 240 = .ok (.goto (-67), 3) := by decide +kernel
theorem dX4_weigh_243 : decode cX4_weigh 243 = .ok (.iinc 5 (-1), 3) := by decide +kernel
theorem dX4_weigh_246 : decode cX4_weigh 246 = .ok (.goto (-191), 3) := by decide +kernel
theorem dX4_weigh_249 : decode cX4_weigh 249 = .ok (.return_, 1) := by decide +kernel
theorem dX4_offer_0 : decode cX4_offer 0 = .ok (.iload_n 2, 1) := by decide +kernel
theorem dX4_offer_1 : decode cX4_offer 1 = .ok (.aload_n 0, 1) := by decide +kernel
theorem dX4_offer_2 : decode cX4_offer 2 = .ok (.getfield 16, 3) := by decide +kernel
theorem dX4_offer_5 : decode cX4_offer 5 = .ok (.iload_n 1, 1) := by decide +kernel
theorem dX4_offer_6 : decode cX4_offer 6 = .ok (.invokevirtual 39, 3) := by decide +kernel
theorem dX4_offer_9 : decode cX4_offer 9 = .ok (.if_icmp .ge 21, 3) := by decide +kernel
theorem dX4_offer_12 : decode cX4_offer 12 = .ok (.aload_n 0, 1) := by decide +kernel
theorem dX4_offer_13 : decode cX4_offer 13 = .ok (.getfield 16, 3) := by decide +kernel
theorem dX4_offer_16 : decode cX4_offer 16 = .ok (.iload_n 1, 1) := by decide +kernel
theorem dX4_offer_17 : decode cX4_offer 17 = .ok (.iload_n 2, 1) := by decide +kernel
theorem dX4_offer_18 : decode cX4_offer 18 = .ok (.invokevirtual 58, 3) := by decide +kernel
theorem dX4_offer_21 : decode cX4_offer 21 = .ok (.aload_n 0, 1) := by decide +kernel
theorem dX4_offer_22 : decode cX4_offer 22 = .ok (.getfield 20, 3) := by decide +kernel
theorem dX4_offer_25 : decode cX4_offer 25 = .ok (.iload_n 1, 1) := by decide +kernel
theorem dX4_offer_26 : decode cX4_offer 26 = .ok (.iload_n 3, 1) := by decide +kernel
theorem dX4_offer_27 : decode cX4_offer 27 = .ok (.invokevirtual 58, 3) := by decide +kernel
theorem dX4_offer_30 : decode cX4_offer 30 = .ok (.return_, 1) := by decide +kernel
theorem dX4_follow_0 : decode cX4_follow 0 = .ok (.iload_n 1, 1) := by decide +kernel
theorem dX4_follow_1 : decode cX4_follow 1 = .ok (.istore_n 3, 1) := by decide +kernel
theorem dX4_follow_2 : decode cX4_follow 2 = .ok (.iload_n 1, 1) := by decide +kernel
theorem dX4_follow_3 : decode cX4_follow 3 = .ok (.istore 4, 2) := by decide +kernel
theorem dX4_follow_5 : decode cX4_follow 5 = .ok (.iconst 0, 1) := by decide +kernel
theorem dX4_follow_6 : decode cX4_follow 6 = .ok (.istore 5, 2) := by decide +kernel
theorem dX4_follow_8 : decode cX4_follow 8 = .ok (.iload_n 1, 1) := by decide +kernel
theorem dX4_follow_9 : decode cX4_follow 9 = .ok (.istore 6, 2) := by decide +kernel
theorem dX4_follow_11 : decode cX4_follow 11 = .ok (.iload 6, 2) := by decide +kernel
theorem dX4_follow_13 : decode cX4_follow 13 = .ok (.iload_n 2, 1) := by decide +kernel
theorem dX4_follow_14 : decode cX4_follow 14 = .ok (.if_icmp .ge 99, 3) := by decide +kernel
theorem dX4_follow_17 : decode cX4_follow 17 = .ok (.iload 6, 2) := by decide +kernel
theorem dX4_follow_19 : decode cX4_follow 19 = .ok (.iload 4, 2) := by decide +kernel
theorem dX4_follow_21 : decode cX4_follow 21 = .ok (.if_icmp .ne 86, 3) := by decide +kernel
theorem dX4_follow_24 : decode cX4_follow 24 = .ok (.aload_n 0, 1) := by decide +kernel
theorem dX4_follow_25 : decode cX4_follow 25 = .ok (.getfield 20, 3) := by decide +kernel
theorem dX4_follow_28 : decode cX4_follow 28 = .ok (.iload_n 3, 1) := by decide +kernel
theorem dX4_follow_29 : decode cX4_follow 29 = .ok (.iload 4, 2) := by decide +kernel
theorem dX4_follow_31 : decode cX4_follow 31 = .ok (.iload 5, 2) := by decide +kernel
theorem dX4_follow_33 : decode cX4_follow 33 = .ok (.invokestatic 51, 3) := by decide +kernel
theorem dX4_follow_36 : decode cX4_follow 36 = .ok (.invokevirtual 39, 3) := by decide +kernel
theorem dX4_follow_39 : decode cX4_follow 39 = .ok (.istore 7, 2) := by decide +kernel
theorem dX4_follow_41 : decode cX4_follow 41 = .ok (.aload_n 0, 1) := by decide +kernel
theorem dX4_follow_42 : decode cX4_follow 42 = .ok (.getfield 23, 3) := by decide +kernel
theorem dX4_follow_45 : decode cX4_follow 45 = .ok (.iload 4, 2) := by decide +kernel
theorem dX4_follow_47 : decode cX4_follow 47 = .ok (.iload 7, 2) := by decide +kernel
theorem dX4_follow_49 : decode cX4_follow 49 = .ok (.invokevirtual 58, 3) := by decide +kernel
theorem dX4_follow_52 : decode cX4_follow 52 = .ok (.aload_n 0, 1) := by decide +kernel
theorem dX4_follow_53 : decode cX4_follow 53 = .ok (.getfield 30, 3) := by decide +kernel
theorem dX4_follow_56 : decode cX4_follow 56 = .ok (.iload_n 3, 1) := by decide +kernel
theorem dX4_follow_57 : decode cX4_follow 57 = .ok (.iload 4, 2) := by decide +kernel
theorem dX4_follow_59 : decode cX4_follow 59 = .ok (.invokevirtual 61, 3) := by decide +kernel
theorem dX4_follow_62 : decode cX4_follow 62 = .ok (.istore 8, 2) := by decide +kernel
theorem dX4_follow_64 : decode cX4_follow 64 = .ok (.aload_n 0, 1) := by decide +kernel
theorem dX4_follow_65 : decode cX4_follow 65 = .ok (.getfield 30, 3) := by decide +kernel
theorem dX4_follow_68 : decode cX4_follow 68 = .ok (.iload 4, 2) := by decide +kernel
theorem dX4_follow_70 : decode cX4_follow 70 = .ok (.iload 7, 2) := by decide +kernel
theorem dX4_follow_72 : decode cX4_follow 72 = .ok (.invokevirtual 61, 3) := by decide +kernel
theorem dX4_follow_75 : decode cX4_follow 75 = .ok (.istore 9, 2) := by decide +kernel
theorem dX4_follow_77 : decode cX4_follow 77 = .ok (.iload_n 3, 1) := by decide +kernel
theorem dX4_follow_78 : decode cX4_follow 78 = .ok (.iload 4, 2) := by decide +kernel
theorem dX4_follow_80 : decode cX4_follow 80 = .ok (.if_icmp .ne 7, 3) := by decide +kernel
theorem dX4_follow_83 : decode cX4_follow 83 = .ok (.iconst 0, 1) := by decide +kernel
theorem dX4_follow_84 : decode cX4_follow 84 = .ok (.goto 14, 3) := by decide +kernel
theorem dX4_follow_87 : decode cX4_follow 87 = .ok (.aload_n 0, 1) := by decide +kernel
theorem dX4_follow_88 : decode cX4_follow 88 = .ok (.getfield 26, 3) := by decide +kernel
theorem dX4_follow_91 : decode cX4_follow 91 = .ok (.iload 8, 2) := by decide +kernel
theorem dX4_follow_93 : decode cX4_follow 93 = .ok (.iload 9, 2) := by decide +kernel
theorem dX4_follow_95 : decode cX4_follow 95 = .ok (.invokevirtual 71, 3) := by decide +kernel
theorem dX4_follow_98 : decode cX4_follow 98 = .ok (.istore 5, 2) := by decide +kernel
theorem dX4_follow_100 : decode cX4_follow 100 = .ok (.iload 4, 2) := by decide +kernel
theorem dX4_follow_102 : decode cX4_follow 102 = .ok (.istore_n 3, 1) := by decide +kernel
theorem dX4_follow_103 : decode cX4_follow 103 = .ok (.iload 7, 2) := by decide +kernel
theorem dX4_follow_105 : decode cX4_follow 105 = .ok (.istore 4, 2) := by decide +kernel
theorem dX4_follow_107 : decode cX4_follow 107 = .ok (.iinc 6 1, 3) := by decide +kernel
theorem dX4_follow_110 : decode cX4_follow 110 = .ok (.goto (-99), 3) := by decide +kernel
theorem dX4_follow_113 : decode cX4_follow 113 = .ok (.return_, 1) := by decide +kernel
theorem dX4_slot_0 : decode cX4_slot 0 = .ok (.iload_n 1, 1) := by decide +kernel
theorem dX4_slot_1 : decode cX4_slot 1 = .ok (.iload_n 1, 1) := by decide +kernel
theorem dX4_slot_2 : decode cX4_slot 2 = .ok (.iconst 1, 1) := by decide +kernel
theorem dX4_slot_3 : decode cX4_slot 3 = .ok (.iadd, 1) := by decide +kernel
theorem dX4_slot_4 : decode cX4_slot 4 = .ok (.imul, 1) := by decide +kernel
theorem dX4_slot_5 : decode cX4_slot 5 = .ok (.iconst 2, 1) := by decide +kernel
theorem dX4_slot_6 : decode cX4_slot 6 = .ok (.idiv, 1) := by decide +kernel
theorem dX4_slot_7 : decode cX4_slot 7 = .ok (.iload_n 0, 1) := by decide +kernel
theorem dX4_slot_8 : decode cX4_slot 8 = .ok (.iadd, 1) := by decide +kernel
theorem dX4_slot_9 : decode cX4_slot 9 = .ok (.iconst 3, 1) := by decide +kernel
theorem dX4_slot_10 : decode cX4_slot 10 = .ok (.imul, 1) := by decide +kernel
theorem dX4_slot_11 : decode cX4_slot 11 = .ok (.iload_n 2, 1) := by decide +kernel
theorem dX4_slot_12 : decode cX4_slot 12 = .ok (.iadd, 1) := by decide +kernel
theorem dX4_slot_13 : decode cX4_slot 13 = .ok (.iconst 1, 1) := by decide +kernel
theorem dX4_slot_14 : decode cX4_slot 14 = .ok (.iadd, 1) := by decide +kernel
theorem dX4_slot_15 : decode cX4_slot 15 = .ok (.ireturn, 1) := by decide +kernel
theorem dX5_init_0 : decode cX5_init 0 = .ok (.aload_n 0, 1) := by decide +kernel
theorem dX5_init_1 : decode cX5_init 1 = .ok (.invokespecial 3, 3) := by decide +kernel
theorem dX5_init_4 : decode cX5_init 4 = .ok (.aload_n 0, 1) := by decide +kernel
theorem dX5_init_5 : decode cX5_init 5 = .ok (.new 9, 3) := by decide +kernel
theorem dX5_init_8 : decode cX5_init 8 = .ok (.dup, 1) := by decide +kernel
theorem dX5_init_9 : decode cX5_init 9 = .ok (.bipush 41, 2) := by decide +kernel
theorem dX5_init_11 : decode cX5_init 11 = .ok (.invokespecial 11, 3) := by decide +kernel
theorem dX5_init_14 : decode cX5_init 14 = .ok (.putfield 14, 3) := by decide +kernel
theorem dX5_init_17 : decode cX5_init 17 = .ok (.aload_n 0, 1) := by decide +kernel
theorem dX5_init_18 : decode cX5_init 18 = .ok (.new 9, 3) := by decide +kernel
theorem dX5_init_21 : decode cX5_init 21 = .ok (.dup, 1) := by decide +kernel
theorem dX5_init_22 : decode cX5_init 22 = .ok (.bipush 40, 2) := by decide +kernel
theorem dX5_init_24 : decode cX5_init 24 = .ok (.invokespecial 11, 3) := by decide +kernel
theorem dX5_init_27 : decode cX5_init 27 = .ok (.putfield 20, 3) := by decide +kernel
theorem dX5_init_30 : decode cX5_init 30 = .ok (.aload_n 0, 1) := by decide +kernel
theorem dX5_init_31 : decode cX5_init 31 = .ok (.iconst 0, 1) := by decide +kernel
theorem dX5_init_32 : decode cX5_init 32 = .ok (.putfield 23, 3) := by decide +kernel
theorem dX5_init_35 : decode cX5_init 35 = .ok (.aload_n 0, 1) := by decide +kernel
theorem dX5_init_36 : decode cX5_init 36 = .ok (.aload_n 1, 1) := by decide +kernel
theorem dX5_init_37 : decode cX5_init 37 = .ok (.putfield 27, 3) := by decide +kernel
theorem dX5_init_40 : decode cX5_init 40 = .ok (.aload_n 0, 1) := by decide +kernel
theorem dX5_init_41 : decode cX5_init 41 = .ok (.aload_n 2, 1) := by decide +kernel
theorem dX5_init_42 : decode cX5_init 42 = .ok (.putfield 31, 3) := by decide +kernel
theorem dX5_init_45 : decode cX5_init 45 = .ok (.return_, 1) := by decide +kernel
theorem dX5_fill_0 : decode cX5_fill 0 = .ok (.aload_n 0, 1) := by decide +kernel
theorem dX5_fill_1 : decode cX5_fill 1 = .ok (.iconst 0, 1) := by decide +kernel
theorem dX5_fill_2 : decode cX5_fill 2 = .ok (.putfield 23, 3) := by decide +kernel
theorem dX5_fill_5 : decode cX5_fill 5 = .ok (.iconst 0, 1) := by decide +kernel
theorem dX5_fill_6 : decode cX5_fill 6 = .ok (.istore_n 1, 1) := by decide +kernel
theorem dX5_fill_7 : decode cX5_fill 7 = .ok (.iconst 0, 1) := by decide +kernel
theorem dX5_fill_8 : decode cX5_fill 8 = .ok (.istore_n 2, 1) := by decide +kernel
theorem dX5_fill_9 : decode cX5_fill 9 = .ok (.iload_n 2, 1) := by decide +kernel
theorem dX5_fill_10 : decode cX5_fill 10 = .ok (.aload_n 0, 1) := by decide +kernel
theorem dX5_fill_11 : decode cX5_fill 11 = .ok (.getfield 31, 3) := by decide +kernel
theorem dX5_fill_14 : decode cX5_fill 14 = .ok (.getfield 35, 3) := by decide +kernel
theorem dX5_fill_17 : decode cX5_fill 17 = .ok (.if_icmp .ge 113, 3) := by decide +kernel
theorem dX5_fill_20 : decode cX5_fill 20 = .ok (.iload_n 2, 1) := by decide +kernel
theorem dX5_fill_21 : decode cX5_fill 21 = .ok (.iload_n 1, 1) := by decide +kernel
theorem dX5_fill_22 : decode cX5_fill 22 = .ok (.if_icmp .ne 88, 3) := by decide +kernel
theorem dX5_fill_25 : decode cX5_fill 25 = .ok (.aload_n 0, 1) := by decide +kernel
theorem dX5_fill_26 : decode cX5_fill 26 = .ok (.getfield 14, 3) := by decide +kernel
theorem dX5_fill_29 : decode cX5_fill 29 = .ok (.aload_n 0, 1) := by decide +kernel
theorem dX5_fill_30 : decode cX5_fill 30 = .ok (.getfield 23, 3) := by decide +kernel
theorem dX5_fill_33 : decode cX5_fill 33 = .ok (.iload_n 2, 1) := by decide +kernel
theorem dX5_fill_34 : decode cX5_fill 34 = .ok (.invokevirtual 38, 3) := by decide +kernel
theorem dX5_fill_37 : decode cX5_fill 37 = .ok (.aload_n 0, 1) := by decide +kernel
theorem dX5_fill_38 : decode cX5_fill 38 = .ok (.dup, 1) := by decide +kernel
theorem dX5_fill_39 : decode cX5_fill 39 = .ok (.getfield 23, 3) := by decide +kernel
theorem dX5_fill_42 : decode cX5_fill 42 = .ok (.iconst 1, 1) := by decide +kernel
theorem dX5_fill_43 : decode cX5_fill 43 = .ok (.iadd, 1) := by decide +kernel
theorem dX5_fill_44 : decode cX5_fill 44 = .ok (.putfield 23, 3) := by decide +kernel
theorem dX5_fill_47 : decode cX5_fill 47 = .ok (.iload_n 2, 1) := by decide +kernel
theorem dX5_fill_48 : decode cX5_fill 48 = .ok (.aload_n 0, 1) := by decide +kernel
theorem dX5_fill_49 : decode cX5_fill 49 = .ok (.getfield 27, 3) := by decide +kernel
theorem dX5_fill_52 : decode cX5_fill 52 = .ok (.getfield 42, 3) := by decide +kernel
theorem dX5_fill_55 : decode cX5_fill 55 = .ok (.iadd, 1) := by decide +kernel
theorem dX5_fill_56 : decode cX5_fill 56 = .ok (.istore_n 1, 1) := by decide +kernel
theorem dX5_fill_57 : decode cX5_fill 57 = .ok (.iload_n 1, 1) := by decide +kernel
theorem dX5_fill_58 : decode cX5_fill 58 = .ok (.aload_n 0, 1) := by decide +kernel
theorem dX5_fill_59 : decode cX5_fill 59 = .ok (.getfield 31, 3) := by decide +kernel
theorem dX5_fill_62 : decode cX5_fill 62 = .ok (.getfield 35, 3) := by decide +kernel
theorem dX5_fill_65 : decode cX5_fill 65 = .ok (.if_icmp .ge 31, 3) := by decide +kernel
theorem dX5_fill_68 : decode cX5_fill 68 = .ok (.aload_n 0, 1) := by decide +kernel
theorem dX5_fill_69 : decode cX5_fill 69 = .ok (.getfield 31, 3) := by decide +kernel
theorem dX5_fill_72 : decode cX5_fill 72 = .ok (.iload_n 1, 1) := by decide +kernel
theorem dX5_fill_73 : decode cX5_fill 73 = .ok (.iconst 1, 1) := by decide +kernel
theorem dX5_fill_74 : decode cX5_fill 74 = .ok (.isub, 1) := by decide +kernel
theorem dX5_fill_75 : decode cX5_fill 75 = .ok (.invokevirtual 47, 3) := by decide +kernel
theorem dX5_fill_78 : decode cX5_fill 78 = .ok (.ifCond .ne 14, 3) := by decide +kernel
theorem dX5_fill_81 : decode cX5_fill 81 = .ok (.aload_n 0, 1) := by decide +kernel
theorem dX5_fill_82 : decode cX5_fill 82 = .ok (.getfield 31, 3) := by decide +kernel
theorem dX5_fill_85 : decode cX5_fill 85 = .ok (.iload_n 1, 1) := by decide +kernel
theorem dX5_fill_86 : decode cX5_fill 86 = .ok (.invokevirtual 51, 3) := by decide +kernel
theorem dX5_fill_89 : decode cX5_fill 89 = .ok (.ifCond .eq 7, 3) := by decide +kernel
theorem dX5_fill_92 : decode cX5_fill 92 = .ok (.iconst 1, 1) := by decide +kernel
theorem dX5_fill_93 : decode cX5_fill 93 = .ok (.goto 4, 3) := by decide +kernel
theorem dX5_fill_96 : decode cX5_fill 96 = .ok (.iconst 0, 1) := by decide +kernel
theorem dX5_fill_97 : decode cX5_fill 97 = .ok (.istore_n 3, 1) := by decide +kernel
theorem dX5_fill_98 : decode cX5_fill 98 = .ok (.iload_n 3, 1) := by decide +kernel
theorem dX5_fill_99 : decode cX5_fill 99 = .ok (.ifCond .eq 9, 3) := by decide +kernel
theorem dX5_fill_102 : decode cX5_fill 102 = .ok (.iload_n 1, 1) := by decide +kernel
theorem dX5_fill_103 : decode cX5_fill 103 = .ok (.iconst 1, 1) := by decide +kernel
theorem dX5_fill_104 : decode cX5_fill 104 = .ok (.isub, 1) := by decide +kernel
theorem dX5_fill_105 : decode cX5_fill 105 = .ok (.goto 4, 3) := by decide +kernel
theorem dX5_fill_108 : decode cX5_fill 108 = .ok (.iload_n 1, 1) := by decide +kernel
theorem dX5_fill_109 : decode cX5_fill 109 = .ok (.istore_n 1, 1) := by decide +kernel
theorem dX5_fill_110 : decode cX5_fill 110 = .ok (.aload_n 0, 1) := by decide +kernel
theorem dX5_fill_111 : decode cX5_fill 111 = .ok (.getfield 20, 3) := by decide +kernel
theorem dX5_fill_114 : decode cX5_fill 114 = .ok (.iload_n 2, 1) := by decide +kernel
theorem dX5_fill_115 : decode cX5_fill 115 = .ok (.aload_n 0, 1) := by decide +kernel
theorem dX5_fill_116 : decode cX5_fill 116 = .ok (.getfield 23, 3) := by decide +kernel
theorem dX5_fill_119 : decode cX5_fill 119 = .ok (.iconst 1, 1) := by decide +kernel
theorem dX5_fill_120 : decode cX5_fill 120 = .ok (.isub, 1) := by decide +kernel
theorem dX5_fill_121 : decode cX5_fill 121 = .ok (.invokevirtual 38, 3) := by decide +kernel
theorem dX5_fill_124 : decode cX5_fill 124 = .ok (.iinc 2 1, 3) := by decide +kernel
theorem dX5_fill_127 : decode cX5_fill 127 = .ok (.goto (-118), 3) := by decide +kernel
theorem dX5_fill_130 : decode cX5_fill 130 = .ok (.aload_n 0, 1) := by decide +kernel
theorem dX5_fill_131 : decode cX5_fill 131 = .ok (.getfield 14, 3) := by decide +kernel
theorem dX5_fill_134 : decode cX5_fill 134 = .ok (.aload_n 0, 1) := by decide +kernel
theorem dX5_fill_135 : decode cX5_fill 135 = .ok (.getfield 23, 3) := by decide +kernel
theorem dX5_fill_138 : decode cX5_fill 138 = .ok (.aload_n 0, 1) := by decide +kernel
theorem dX5_fill_139 : decode cX5_fill 139 = .ok (.getfield 31, 3) := by decide +kernel
theorem dX5_fill_142 : decode cX5_fill 142 = .ok (.getfield 35, 3) := by decide +kernel
theorem dX5_fill_145 : decode cX5_fill 145 = .ok (.invokevirtual 38, 3) := by decide +kernel
theorem dX5_fill_148 : decode cX5_fill 148 = .ok (.return_, 1) := by decide +kernel
theorem dX5_countWidows_0 : decode cX5_countWidows 0 = .ok (.iconst 0, 1) := by decide +kernel
theorem dX5_countWidows_1 : decode cX5_countWidows 1 = .ok (.istore_n 1, 1) := by decide +kernel
theorem dX5_countWidows_2 : decode cX5_countWidows 2 = .ok (.iconst 1, 1) := by decide +kernel
theorem dX5_countWidows_3 : decode cX5_countWidows 3 = .ok (.istore_n 2, 1) := by decide +kernel
theorem dX5_countWidows_4 : decode cX5_countWidows 4 = .ok (.iload_n 2, 1) := by decide +kernel
theorem dX5_countWidows_5 : decode cX5_countWidows 5 = .ok (.aload_n 0, 1) := by decide +kernel
theorem dX5_countWidows_6 : decode cX5_countWidows 6 = .ok (.getfield 23, 3) := by decide +kernel
theorem dX5_countWidows_9 : decode cX5_countWidows 9 = .ok (.if_icmp .ge 30, 3) := by decide +kernel
theorem dX5_countWidows_12 : decode cX5_countWidows 12 = .ok (.aload_n 0, 1) := by decide +kernel
theorem dX5_countWidows_13 : decode cX5_countWidows 13 = .ok (.getfield 31, 3) := by decide +kernel
theorem dX5_countWidows_16 : decode cX5_countWidows 16 = .ok (.aload_n 0, 1) := by decide +kernel
theorem dX5_countWidows_17 : decode cX5_countWidows 17 = .ok (.getfield 14, 3) := by decide +kernel
theorem dX5_countWidows_20 : decode cX5_countWidows 20 = .ok (.iload_n 2, 1) := by decide +kernel
theorem dX5_countWidows_21 : decode cX5_countWidows 21 = .ok (.invokevirtual 54, 3) := by decide +kernel
theorem dX5_countWidows_24 : decode cX5_countWidows 24 = .ok (.invokevirtual 51, 3) := by decide +kernel
theorem dX5_countWidows_27 : decode cX5_countWidows 27 = .ok (.ifCond .eq 6, 3) := by decide +kernel
theorem dX5_countWidows_30 : decode cX5_countWidows 30 = .ok (.iinc 1 1, 3) := by decide +kernel
theorem dX5_countWidows_33 : decode cX5_countWidows 33 = .ok (.iinc 2 1, 3) := by decide +kernel
theorem dX5_countWidows_36 : decode cX5_countWidows 36 = .ok (.goto (-32), 3) := by decide +kernel
theorem dX5_countWidows_39 : decode cX5_countWidows 39 = .ok (.iload_n 1, 1) := by decide +kernel
theorem dX5_countWidows_40 : decode cX5_countWidows 40 = .ok (.ireturn, 1) := by decide +kernel
theorem dX5_countOrphans_0 : decode cX5_countOrphans 0 = .ok (.iconst 0, 1) := by decide +kernel
theorem dX5_countOrphans_1 : decode cX5_countOrphans 1 = .ok (.istore_n 1, 1) := by decide +kernel
theorem dX5_countOrphans_2 : decode cX5_countOrphans 2 = .ok (.iconst 0, 1) := by decide +kernel
theorem dX5_countOrphans_3 : decode cX5_countOrphans 3 = .ok (.istore_n 2, 1) := by decide +kernel
theorem dX5_countOrphans_4 : decode cX5_countOrphans 4 = .ok (.iload_n 2, 1) := by decide +kernel
theorem dX5_countOrphans_5 : decode cX5_countOrphans 5 = .ok (.aload_n 0, 1) := by decide +kernel
theorem dX5_countOrphans_6 : decode cX5_countOrphans 6 = .ok (.getfield 23, 3) := by decide +kernel
theorem dX5_countOrphans_9 : decode cX5_countOrphans 9 = .ok (.iconst 1, 1) := by decide +kernel
theorem dX5_countOrphans_10 : decode cX5_countOrphans 10 = .ok (.isub, 1) := by decide +kernel
theorem dX5_countOrphans_11 : decode cX5_countOrphans 11 = .ok (.if_icmp .ge 34, 3) := by decide +kernel
theorem dX5_countOrphans_14 : decode cX5_countOrphans 14 = .ok (.aload_n 0, 1) := by decide +kernel
theorem dX5_countOrphans_15 : decode cX5_countOrphans 15 = .ok (.getfield 31, 3) := by decide +kernel
theorem dX5_countOrphans_18 : decode cX5_countOrphans 18 = .ok (.aload_n 0, 1) := by decide +kernel
theorem dX5_countOrphans_19 : decode cX5_countOrphans 19 = .ok (.getfield 14, 3) := by decide +kernel
theorem dX5_countOrphans_22 : decode cX5_countOrphans 22 = .ok (.iload_n 2, 1) := by decide +kernel
theorem dX5_countOrphans_23 : decode cX5_countOrphans 23 = .ok (.iconst 1, 1) := by decide +kernel
theorem dX5_countOrphans_24 : decode cX5_countOrphans 24 = .ok (.iadd, 1) := by decide +kernel
theorem dX5_countOrphans_25 : decode cX5_countOrphans 25 = .ok (.invokevirtual 54, 3) := by decide +kernel
theorem dX5_countOrphans_28 : decode cX5_countOrphans 28 = .ok (.iconst 1, 1) := by decide +kernel
theorem dX5_countOrphans_29 : decode cX5_countOrphans 29 = .ok (.isub, 1) := by decide +kernel
theorem dX5_countOrphans_30 : decode cX5_countOrphans 30 = .ok (.invokevirtual 47, 3) := by decide +kernel
theorem dX5_countOrphans_33 : decode cX5_countOrphans 33 = .ok (.ifCond .eq 6, 3) := by decide +kernel
theorem dX5_countOrphans_36 : decode cX5_countOrphans 36 = .ok (.iinc 1 1, 3) := by decide +kernel
theorem dX5_countOrphans_39 : decode cX5_countOrphans 39 = .ok (.iinc 2 1, 3) := by decide +kernel
theorem dX5_countOrphans_42 : decode cX5_countOrphans 42 = .ok (.goto (-38), 3) := by decide +kernel
theorem dX5_countOrphans_45 : decode cX5_countOrphans 45 = .ok (.iload_n 1, 1) := by decide +kernel
theorem dX5_countOrphans_46 : decode cX5_countOrphans 46 = .ok (.ireturn, 1) := by decide +kernel
theorem dX6_init_0 : decode cX6_init 0 = .ok (.aload_n 0, 1) := by decide +kernel
theorem dX6_init_1 : decode cX6_init 1 = .ok (.invokespecial 1, 3) := by decide +kernel
theorem dX6_init_4 : decode cX6_init 4 = .ok (.aload_n 0, 1) := by decide +kernel
theorem dX6_init_5 : decode cX6_init 5 = .ok (.iload_n 1, 1) := by decide +kernel
theorem dX6_init_6 : decode cX6_init 6 = .ok (.iconst 0, 1) := by decide +kernel
theorem dX6_init_7 : decode cX6_init 7 = .ok (.invokestatic 7, 3) := by decide +kernel
theorem dX6_init_10 : decode cX6_init 10 = .ok (.newarray .int, 2) := by decide +kernel
theorem dX6_init_12 : decode cX6_init 12 = .ok (.putfield 13, 3) := by decide +kernel
theorem dX6_init_15 : decode cX6_init 15 = .ok (.return_, 1) := by decide +kernel
theorem dX6_at_0 : decode cX6_at 0 = .ok (.iload_n 1, 1) := by decide +kernel
theorem dX6_at_1 : decode cX6_at 1 = .ok (.ifCond .lt 21, 3) := by decide +kernel
theorem dX6_at_4 : decode cX6_at 4 = .ok (.iload_n 1, 1) := by decide +kernel
theorem dX6_at_5 : decode cX6_at 5 = .ok (.aload_n 0, 1) := by decide +kernel
theorem dX6_at_6 : decode cX6_at 6 = .ok (.getfield 13, 3) := by decide +kernel
theorem dX6_at_9 : decode cX6_at 9 = .ok (.arraylength, 1) := by decide +kernel
theorem dX6_at_10 : decode cX6_at 10 = .ok (.if_icmp .ge 12, 3) := by decide +kernel
theorem dX6_at_13 : decode cX6_at 13 = .ok (.aload_n 0, 1) := by decide +kernel
theorem dX6_at_14 : decode cX6_at 14 = .ok (.getfield 13, 3) := by decide +kernel
theorem dX6_at_17 : decode cX6_at 17 = .ok (.iload_n 1, 1) := by decide +kernel
theorem dX6_at_18 : decode cX6_at 18 = .ok (.iaload, 1) := by decide +kernel
theorem dX6_at_19 : decode cX6_at 19 = .ok (.goto 4, 3) := by decide +kernel
theorem dX6_at_22 : decode cX6_at 22 = .ok (.iconst 0, 1) := by decide +kernel
theorem dX6_at_23 : decode cX6_at 23 = .ok (.ireturn, 1) := by decide +kernel
theorem dX6_put_0 : decode cX6_put 0 = .ok (.iload_n 1, 1) := by decide +kernel
theorem dX6_put_1 : decode cX6_put 1 = .ok (.ifCond .lt 19, 3) := by decide +kernel
theorem dX6_put_4 : decode cX6_put 4 = .ok (.iload_n 1, 1) := by decide +kernel
theorem dX6_put_5 : decode cX6_put 5 = .ok (.aload_n 0, 1) := by decide +kernel
theorem dX6_put_6 : decode cX6_put 6 = .ok (.getfield 13, 3) := by decide +kernel
theorem dX6_put_9 : decode cX6_put 9 = .ok (.arraylength, 1) := by decide +kernel
theorem dX6_put_10 : decode cX6_put 10 = .ok (.if_icmp .ge 10, 3) := by decide +kernel
theorem dX6_put_13 : decode cX6_put 13 = .ok (.aload_n 0, 1) := by decide +kernel
theorem dX6_put_14 : decode cX6_put 14 = .ok (.getfield 13, 3) := by decide +kernel
theorem dX6_put_17 : decode cX6_put 17 = .ok (.iload_n 1, 1) := by decide +kernel
theorem dX6_put_18 : decode cX6_put 18 = .ok (.iload_n 2, 1) := by decide +kernel
theorem dX6_put_19 : decode cX6_put 19 = .ok (.iastore, 1) := by decide +kernel
theorem dX6_put_20 : decode cX6_put 20 = .ok (.return_, 1) := by decide +kernel
theorem dX6_copyFrom_0 : decode cX6_copyFrom 0 = .ok (.iconst 0, 1) := by decide +kernel
theorem dX6_copyFrom_1 : decode cX6_copyFrom 1 = .ok (.istore_n 2, 1) := by decide +kernel
theorem dX6_copyFrom_2 : decode cX6_copyFrom 2 = .ok (.iload_n 2, 1) := by decide +kernel
theorem dX6_copyFrom_3 : decode cX6_copyFrom 3 = .ok (.aload_n 0, 1) := by decide +kernel
theorem dX6_copyFrom_4 : decode cX6_copyFrom 4 = .ok (.getfield 13, 3) := by decide +kernel
theorem dX6_copyFrom_7 : decode cX6_copyFrom 7 = .ok (.arraylength, 1) := by decide +kernel
theorem dX6_copyFrom_8 : decode cX6_copyFrom 8 = .ok (.if_icmp .ge 20, 3) := by decide +kernel
theorem dX6_copyFrom_11 : decode cX6_copyFrom 11 = .ok (.aload_n 0, 1) := by decide +kernel
theorem dX6_copyFrom_12 : decode cX6_copyFrom 12 = .ok (.getfield 13, 3) := by decide +kernel
theorem dX6_copyFrom_15 : decode cX6_copyFrom 15 = .ok (.iload_n 2, 1) := by decide +kernel
theorem dX6_copyFrom_16 : decode cX6_copyFrom 16 = .ok (.aload_n 1, 1) := by decide +kernel
theorem dX6_copyFrom_17 : decode cX6_copyFrom 17 = .ok (.iload_n 2, 1) := by decide +kernel
theorem dX6_copyFrom_18 : decode cX6_copyFrom 18 = .ok (.invokevirtual 19, 3) := by decide +kernel
theorem dX6_copyFrom_21 : decode cX6_copyFrom 21 = .ok (.iastore, 1) := by decide +kernel
theorem dX6_copyFrom_22 : decode cX6_copyFrom 22 = .ok (.iinc 2 1, 3) := by decide +kernel
theorem dX6_copyFrom_25 : decode cX6_copyFrom 25 = .ok (.goto (-23), 3) := by decide +kernel
theorem dX6_copyFrom_28 : decode cX6_copyFrom 28 = .ok (.return_, 1) := by decide +kernel
theorem dX6_putBetween_0 : decode cX6_putBetween 0 = .ok (.aload_n 0, 1) := by decide +kernel
theorem dX6_putBetween_1 : decode cX6_putBetween 1 = .ok (.getfield 13, 3) := by decide +kernel
theorem dX6_putBetween_4 : decode cX6_putBetween 4 = .ok (.arraylength, 1) := by decide +kernel
theorem dX6_putBetween_5 : decode cX6_putBetween 5 = .ok (.iconst 1, 1) := by decide +kernel
theorem dX6_putBetween_6 : decode cX6_putBetween 6 = .ok (.isub, 1) := by decide +kernel
theorem dX6_putBetween_7 : decode cX6_putBetween 7 = .ok (.istore_n 3, 1) := by decide +kernel
theorem dX6_putBetween_8 : decode cX6_putBetween 8 = .ok (.iload_n 3, 1) := by decide +kernel
theorem dX6_putBetween_9 : decode cX6_putBetween 9 = .ok (.iload_n 1, 1) := by decide +kernel
theorem dX6_putBetween_10 : decode cX6_putBetween 10 = .ok (.if_icmp .le 21, 3) := by decide +kernel
theorem dX6_putBetween_13 : decode cX6_putBetween 13 = .ok (.aload_n 0, 1) := by decide +kernel
theorem dX6_putBetween_14 : decode cX6_putBetween 14 = .ok (.iload_n 3, 1) := by decide +kernel
theorem dX6_putBetween_15 : decode cX6_putBetween 15 = .ok (.aload_n 0, 1) := by decide +kernel
theorem dX6_putBetween_16 : decode cX6_putBetween 16 = .ok (.iload_n 3, 1) := by decide +kernel
theorem dX6_putBetween_17 : decode cX6_putBetween 17 = .ok (.iconst 1, 1) := by decide +kernel
theorem dX6_putBetween_18 : decode cX6_putBetween 18 = .ok (.isub, 1) := by decide +kernel
theorem dX6_putBetween_19 : decode cX6_putBetween 19 = .ok (.invokevirtual 19, 3) := by decide +kernel
theorem dX6_putBetween_22 : decode cX6_putBetween 22 = .ok (.invokevirtual 23, 3) := by decide +kernel
theorem dX6_putBetween_25 : decode cX6_putBetween 25 = .ok (.iinc 3 (-1), 3) := by decide +kernel
theorem dX6_putBetween_28 : decode cX6_putBetween 28 = .ok (.goto (-20), 3) := by decide +kernel
theorem dX6_putBetween_31 : decode cX6_putBetween 31 = .ok (.aload_n 0, 1) := by decide +kernel
theorem dX6_putBetween_32 : decode cX6_putBetween 32 = .ok (.iload_n 1, 1) := by decide +kernel
theorem dX6_putBetween_33 : decode cX6_putBetween 33 = .ok (.iload_n 2, 1) := by decide +kernel
theorem dX6_putBetween_34 : decode cX6_putBetween 34 = .ok (.invokevirtual 23, 3) := by decide +kernel
theorem dX6_putBetween_37 : decode cX6_putBetween 37 = .ok (.return_, 1) := by decide +kernel
theorem dX6_dropAt_0 : decode cX6_dropAt 0 = .ok (.iload_n 1, 1) := by decide +kernel
theorem dX6_dropAt_1 : decode cX6_dropAt 1 = .ok (.istore_n 2, 1) := by decide +kernel
theorem dX6_dropAt_2 : decode cX6_dropAt 2 = .ok (.iload_n 2, 1) := by decide +kernel
theorem dX6_dropAt_3 : decode cX6_dropAt 3 = .ok (.aload_n 0, 1) := by decide +kernel
theorem dX6_dropAt_4 : decode cX6_dropAt 4 = .ok (.getfield 13, 3) := by decide +kernel
theorem dX6_dropAt_7 : decode cX6_dropAt 7 = .ok (.arraylength, 1) := by decide +kernel
theorem dX6_dropAt_8 : decode cX6_dropAt 8 = .ok (.if_icmp .ge 21, 3) := by decide +kernel
theorem dX6_dropAt_11 : decode cX6_dropAt 11 = .ok (.aload_n 0, 1) := by decide +kernel
theorem dX6_dropAt_12 : decode cX6_dropAt 12 = .ok (.iload_n 2, 1) := by decide +kernel
theorem dX6_dropAt_13 : decode cX6_dropAt 13 = .ok (.aload_n 0, 1) := by decide +kernel
theorem dX6_dropAt_14 : decode cX6_dropAt 14 = .ok (.iload_n 2, 1) := by decide +kernel
theorem dX6_dropAt_15 : decode cX6_dropAt 15 = .ok (.iconst 1, 1) := by decide +kernel
theorem dX6_dropAt_16 : decode cX6_dropAt 16 = .ok (.iadd, 1) := by decide +kernel
theorem dX6_dropAt_17 : decode cX6_dropAt 17 = .ok (.invokevirtual 19, 3) := by decide +kernel
theorem dX6_dropAt_20 : decode cX6_dropAt 20 = .ok (.invokevirtual 23, 3) := by decide +kernel
theorem dX6_dropAt_23 : decode cX6_dropAt 23 = .ok (.iinc 2 1, 3) := by decide +kernel
theorem dX6_dropAt_26 : decode cX6_dropAt 26 = .ok (.goto (-24), 3) := by decide +kernel
theorem dX6_dropAt_29 : decode cX6_dropAt 29 = .ok (.return_, 1) := by decide +kernel
theorem dX7_init_0 : decode cX7_init 0 = .ok (.aload_n 0, 1) := by decide +kernel
theorem dX7_init_1 : decode cX7_init 1 = .ok (.invokespecial 3, 3) := by decide +kernel
theorem dX7_init_4 : decode cX7_init 4 = .ok (.aload_n 0, 1) := by decide +kernel
theorem dX7_init_5 : decode cX7_init 5 = .ok (.new 9, 3) := by decide +kernel
theorem dX7_init_8 : decode cX7_init 8 = .ok (.dup, 1) := by decide +kernel
theorem dX7_init_9 : decode cX7_init 9 = .ok (.bipush 40, 2) := by decide +kernel
theorem dX7_init_11 : decode cX7_init 11 = .ok (.invokespecial 11, 3) := by decide +kernel
theorem dX7_init_14 : decode cX7_init 14 = .ok (.putfield 14, 3) := by decide +kernel
theorem dX7_init_17 : decode cX7_init 17 = .ok (.aload_n 0, 1) := by decide +kernel
theorem dX7_init_18 : decode cX7_init 18 = .ok (.new 9, 3) := by decide +kernel
theorem dX7_init_21 : decode cX7_init 21 = .ok (.dup, 1) := by decide +kernel
theorem dX7_init_22 : decode cX7_init 22 = .ok (.bipush 40, 2) := by decide +kernel
theorem dX7_init_24 : decode cX7_init 24 = .ok (.invokespecial 11, 3) := by decide +kernel
theorem dX7_init_27 : decode cX7_init 27 = .ok (.putfield 20, 3) := by decide +kernel
theorem dX7_init_30 : decode cX7_init 30 = .ok (.aload_n 0, 1) := by decide +kernel
theorem dX7_init_31 : decode cX7_init 31 = .ok (.iconst 0, 1) := by decide +kernel
theorem dX7_init_32 : decode cX7_init 32 = .ok (.putfield 23, 3) := by decide +kernel
theorem dX7_init_35 : decode cX7_init 35 = .ok (.aload_n 0, 1) := by decide +kernel
theorem dX7_init_36 : decode cX7_init 36 = .ok (.bipush 60, 2) := by decide +kernel
theorem dX7_init_38 : decode cX7_init 38 = .ok (.putfield 27, 3) := by decide +kernel
theorem dX7_init_41 : decode cX7_init 41 = .ok (.aload_n 0, 1) := by decide +kernel
theorem dX7_init_42 : decode cX7_init 42 = .ok (.iconst 2, 1) := by decide +kernel
theorem dX7_init_43 : decode cX7_init 43 = .ok (.putfield 30, 3) := by decide +kernel
theorem dX7_init_46 : decode cX7_init 46 = .ok (.aload_n 0, 1) := by decide +kernel
theorem dX7_init_47 : decode cX7_init 47 = .ok (.iconst 3, 1) := by decide +kernel
theorem dX7_init_48 : decode cX7_init 48 = .ok (.putfield 33, 3) := by decide +kernel
theorem dX7_init_51 : decode cX7_init 51 = .ok (.aload_n 0, 1) := by decide +kernel
theorem dX7_init_52 : decode cX7_init 52 = .ok (.sipush 500, 3) := by decide +kernel
theorem dX7_init_55 : decode cX7_init 55 = .ok (.putfield 36, 3) := by decide +kernel
theorem dX7_init_58 : decode cX7_init 58 = .ok (.aload_n 0, 1) := by decide +kernel
theorem dX7_init_59 : decode cX7_init 59 = .ok (.sipush 300, 3) := by decide +kernel
theorem dX7_init_62 : decode cX7_init 62 = .ok (.putfield 39, 3) := by decide +kernel
theorem dX7_init_65 : decode cX7_init 65 = .ok (.aload_n 0, 1) := by decide +kernel
theorem dX7_init_66 : decode cX7_init 66 = .ok (.bipush 6, 2) := by decide +kernel
theorem dX7_init_68 : decode cX7_init 68 = .ok (.putfield 42, 3) := by decide +kernel
theorem dX7_init_71 : decode cX7_init 71 = .ok (.aload_n 0, 1) := by decide +kernel
theorem dX7_init_72 : decode cX7_init 72 = .ok (.iconst 1, 1) := by decide +kernel
theorem dX7_init_73 : decode cX7_init 73 = .ok (.putfield 45, 3) := by decide +kernel
theorem dX7_init_76 : decode cX7_init 76 = .ok (.return_, 1) := by decide +kernel
theorem dX7_copyFrom_0 : decode cX7_copyFrom 0 = .ok (.aload_n 0, 1) := by decide +kernel
theorem dX7_copyFrom_1 : decode cX7_copyFrom 1 = .ok (.getfield 14, 3) := by decide +kernel
theorem dX7_copyFrom_4 : decode cX7_copyFrom 4 = .ok (.aload_n 1, 1) := by decide +kernel
theorem dX7_copyFrom_5 : decode cX7_copyFrom 5 = .ok (.getfield 14, 3) := by decide +kernel
theorem dX7_copyFrom_8 : decode cX7_copyFrom 8 = .ok (.invokevirtual 49, 3) := by decide +kernel
theorem dX7_copyFrom_11 : decode cX7_copyFrom 11 = .ok (.aload_n 0, 1) := by decide +kernel
theorem dX7_copyFrom_12 : decode cX7_copyFrom 12 = .ok (.getfield 20, 3) := by decide +kernel
theorem dX7_copyFrom_15 : decode cX7_copyFrom 15 = .ok (.aload_n 1, 1) := by decide +kernel
theorem dX7_copyFrom_16 : decode cX7_copyFrom 16 = .ok (.getfield 20, 3) := by decide +kernel
theorem dX7_copyFrom_19 : decode cX7_copyFrom 19 = .ok (.invokevirtual 49, 3) := by decide +kernel
theorem dX7_copyFrom_22 : decode cX7_copyFrom 22 = .ok (.aload_n 0, 1) := by decide +kernel
theorem dX7_copyFrom_23 : decode cX7_copyFrom 23 = .ok (.aload_n 1, 1) := by decide +kernel
theorem dX7_copyFrom_24 : decode cX7_copyFrom 24 = .ok (.getfield 23, 3) := by decide +kernel
theorem dX7_copyFrom_27 : decode cX7_copyFrom 27 = .ok (.putfield 23, 3) := by decide +kernel
theorem dX7_copyFrom_30 : decode cX7_copyFrom 30 = .ok (.aload_n 0, 1) := by decide +kernel
theorem dX7_copyFrom_31 : decode cX7_copyFrom 31 = .ok (.aload_n 1, 1) := by decide +kernel
theorem dX7_copyFrom_32 : decode cX7_copyFrom 32 = .ok (.getfield 27, 3) := by decide +kernel
theorem dX7_copyFrom_35 : decode cX7_copyFrom 35 = .ok (.putfield 27, 3) := by decide +kernel
theorem dX7_copyFrom_38 : decode cX7_copyFrom 38 = .ok (.aload_n 0, 1) := by decide +kernel
theorem dX7_copyFrom_39 : decode cX7_copyFrom 39 = .ok (.aload_n 1, 1) := by decide +kernel
theorem dX7_copyFrom_40 : decode cX7_copyFrom 40 = .ok (.getfield 30, 3) := by decide +kernel
theorem dX7_copyFrom_43 : decode cX7_copyFrom 43 = .ok (.putfield 30, 3) := by decide +kernel
theorem dX7_copyFrom_46 : decode cX7_copyFrom 46 = .ok (.aload_n 0, 1) := by decide +kernel
theorem dX7_copyFrom_47 : decode cX7_copyFrom 47 = .ok (.aload_n 1, 1) := by decide +kernel
theorem dX7_copyFrom_48 : decode cX7_copyFrom 48 = .ok (.getfield 33, 3) := by decide +kernel
theorem dX7_copyFrom_51 : decode cX7_copyFrom 51 = .ok (.putfield 33, 3) := by decide +kernel
theorem dX7_copyFrom_54 : decode cX7_copyFrom 54 = .ok (.aload_n 0, 1) := by decide +kernel
theorem dX7_copyFrom_55 : decode cX7_copyFrom 55 = .ok (.aload_n 1, 1) := by decide +kernel
theorem dX7_copyFrom_56 : decode cX7_copyFrom 56 = .ok (.getfield 36, 3) := by decide +kernel
theorem dX7_copyFrom_59 : decode cX7_copyFrom 59 = .ok (.putfield 36, 3) := by decide +kernel
theorem dX7_copyFrom_62 : decode cX7_copyFrom 62 = .ok (.aload_n 0, 1) := by decide +kernel
theorem dX7_copyFrom_63 : decode cX7_copyFrom 63 = .ok (.aload_n 1, 1) := by decide +kernel
theorem dX7_copyFrom_64 : decode cX7_copyFrom 64 = .ok (.getfield 39, 3) := by decide +kernel
theorem dX7_copyFrom_67 : decode cX7_copyFrom 67 = .ok (.putfield 39, 3) := by decide +kernel
theorem dX7_copyFrom_70 : decode cX7_copyFrom 70 = .ok (.aload_n 0, 1) := by decide +kernel
theorem dX7_copyFrom_71 : decode cX7_copyFrom 71 = .ok (.aload_n 1, 1) := by decide +kernel
theorem dX7_copyFrom_72 : decode cX7_copyFrom 72 = .ok (.getfield 42, 3) := by decide +kernel
theorem dX7_copyFrom_75 : decode cX7_copyFrom 75 = .ok (.putfield 42, 3) := by decide +kernel
theorem dX7_copyFrom_78 : decode cX7_copyFrom 78 = .ok (.aload_n 0, 1) := by decide +kernel
theorem dX7_copyFrom_79 : decode cX7_copyFrom 79 = .ok (.aload_n 1, 1) := by decide +kernel
theorem dX7_copyFrom_80 : decode cX7_copyFrom 80 = .ok (.getfield 45, 3) := by decide +kernel
theorem dX7_copyFrom_83 : decode cX7_copyFrom 83 = .ok (.putfield 45, 3) := by decide +kernel
theorem dX7_copyFrom_86 : decode cX7_copyFrom 86 = .ok (.return_, 1) := by decide +kernel
theorem dX7_putWord_0 : decode cX7_putWord 0 = .ok (.aload_n 0, 1) := by decide +kernel
theorem dX7_putWord_1 : decode cX7_putWord 1 = .ok (.getfield 23, 3) := by decide +kernel
theorem dX7_putWord_4 : decode cX7_putWord 4 = .ok (.bipush 40, 2) := by decide +kernel
theorem dX7_putWord_6 : decode cX7_putWord 6 = .ok (.if_icmp .ge 31, 3) := by decide +kernel
theorem dX7_putWord_9 : decode cX7_putWord 9 = .ok (.aload_n 0, 1) := by decide +kernel
theorem dX7_putWord_10 : decode cX7_putWord 10 = .ok (.getfield 14, 3) := by decide +kernel
theorem dX7_putWord_13 : decode cX7_putWord 13 = .ok (.iload_n 1, 1) := by decide +kernel
theorem dX7_putWord_14 : decode cX7_putWord 14 = .ok (.iload_n 2, 1) := by decide +kernel
theorem dX7_putWord_15 : decode cX7_putWord 15 = .ok (.invokevirtual 53, 3) := by decide +kernel
theorem dX7_putWord_18 : decode cX7_putWord 18 = .ok (.aload_n 0, 1) := by decide +kernel
theorem dX7_putWord_19 : decode cX7_putWord 19 = .ok (.getfield 20, 3) := by decide +kernel
theorem dX7_putWord_22 : decode cX7_putWord 22 = .ok (.iload_n 1, 1) := by decide +kernel
theorem dX7_putWord_23 : decode cX7_putWord 23 = .ok (.iload_n 3, 1) := by decide +kernel
theorem dX7_putWord_24 : decode cX7_putWord 24 = .ok (.invokevirtual 53, 3) := by decide +kernel
theorem dX7_putWord_27 : decode cX7_putWord 27 = .ok (.aload_n 0, 1) := by decide +kernel
theorem dX7_putWord_28 : decode cX7_putWord 28 = .ok (.dup, 1) := by decide +kernel
theorem dX7_putWord_29 : decode cX7_putWord 29 = .ok (.getfield 23, 3) := by decide +kernel
theorem dX7_putWord_32 : decode cX7_putWord 32 = .ok (.iconst 1, 1) := by decide +kernel
theorem dX7_putWord_33 : decode cX7_putWord 33 = .ok (.iadd, 1) := by decide +kernel
theorem dX7_putWord_34 : decode cX7_putWord 34 = .ok (.putfield 23, 3) := by decide +kernel
theorem dX7_putWord_37 : decode cX7_putWord 37 = .ok (.return_, 1) := by decide +kernel
theorem dX7_dropWord_0 : decode cX7_dropWord 0 = .ok (.aload_n 0, 1) := by decide +kernel
theorem dX7_dropWord_1 : decode cX7_dropWord 1 = .ok (.getfield 23, 3) := by decide +kernel
theorem dX7_dropWord_4 : decode cX7_dropWord 4 = .ok (.ifCond .le 29, 3) := by decide +kernel
theorem dX7_dropWord_7 : decode cX7_dropWord 7 = .ok (.aload_n 0, 1) := by decide +kernel
theorem dX7_dropWord_8 : decode cX7_dropWord 8 = .ok (.getfield 14, 3) := by decide +kernel
theorem dX7_dropWord_11 : decode cX7_dropWord 11 = .ok (.iload_n 1, 1) := by decide +kernel
theorem dX7_dropWord_12 : decode cX7_dropWord 12 = .ok (.invokevirtual 57, 3) := by decide +kernel
theorem dX7_dropWord_15 : decode cX7_dropWord 15 = .ok (.aload_n 0, 1) := by decide +kernel
theorem dX7_dropWord_16 : decode cX7_dropWord 16 = .ok (.getfield 20, 3) := by decide +kernel
theorem dX7_dropWord_19 : decode cX7_dropWord 19 = .ok (.iload_n 1, 1) := by decide +kernel
theorem dX7_dropWord_20 : decode cX7_dropWord 20 = .ok (.invokevirtual 57, 3) := by decide +kernel
theorem dX7_dropWord_23 : decode cX7_dropWord 23 = .ok (.aload_n 0, 1) := by decide +kernel
theorem dX7_dropWord_24 : decode cX7_dropWord 24 = .ok (.dup, 1) := by decide +kernel
theorem dX7_dropWord_25 : decode cX7_dropWord 25 = .ok (.getfield 23, 3) := by decide +kernel
theorem dX7_dropWord_28 : decode cX7_dropWord 28 = .ok (.iconst 1, 1) := by decide +kernel
theorem dX7_dropWord_29 : decode cX7_dropWord 29 = .ok (.isub, 1) := by decide +kernel
theorem dX7_dropWord_30 : decode cX7_dropWord 30 = .ok (.putfield 23, 3) := by decide +kernel
theorem dX7_dropWord_33 : decode cX7_dropWord 33 = .ok (.return_, 1) := by decide +kernel
theorem dX7_endsParagraph_0 : decode cX7_endsParagraph 0 = .ok (.aload_n 0, 1) := by decide +kernel
theorem dX7_endsParagraph_1 : decode cX7_endsParagraph 1 = .ok (.getfield 20, 3) := by decide +kernel
theorem dX7_endsParagraph_4 : decode cX7_endsParagraph 4 = .ok (.iload_n 1, 1) := by decide +kernel
theorem dX7_endsParagraph_5 : decode cX7_endsParagraph 5 = .ok (.invokevirtual 60, 3) := by decide +kernel
theorem dX7_endsParagraph_8 : decode cX7_endsParagraph 8 = .ok (.iconst 2, 1) := by decide +kernel
theorem dX7_endsParagraph_9 : decode cX7_endsParagraph 9 = .ok (.if_icmp .eq 13, 3) := by decide +kernel
theorem dX7_endsParagraph_12 : decode cX7_endsParagraph 12 = .ok (.iload_n 1, 1) := by decide +kernel
theorem dX7_endsParagraph_13 : decode cX7_endsParagraph 13 = .ok (.aload_n 0, 1) := by decide +kernel
theorem dX7_endsParagraph_14 : decode cX7_endsParagraph 14 = .ok (.getfield 23, 3) := by decide +kernel
theorem dX7_endsParagraph_17 : decode cX7_endsParagraph 17 = .ok (.iconst 1, 1) := by decide +kernel
theorem dX7_endsParagraph_18 : decode cX7_endsParagraph 18 = .ok (.isub, 1) := by decide +kernel
theorem dX7_endsParagraph_19 : decode cX7_endsParagraph 19 = .ok (.if_icmp .ne 7, 3) := by decide +kernel
theorem dX7_endsParagraph_22 : decode cX7_endsParagraph 22 = .ok (.iconst 1, 1) := by decide +kernel
theorem dX7_endsParagraph_23 : decode cX7_endsParagraph 23 = .ok (.goto 4, 3) := by decide +kernel
theorem dX7_endsParagraph_26 : decode cX7_endsParagraph 26 = .ok (.iconst 0, 1) := by decide +kernel
theorem dX7_endsParagraph_27 : decode cX7_endsParagraph 27 = .ok (.ireturn, 1) := by decide +kernel
theorem dX7_countParagraphs_0 : decode cX7_countParagraphs 0 = .ok (.iconst 0, 1) := by decide +kernel
theorem dX7_countParagraphs_1 : decode cX7_countParagraphs 1 = .ok (.istore_n 1, 1) := by decide +kernel
theorem dX7_countParagraphs_2 : decode cX7_countParagraphs 2 = .ok (.iconst 0, 1) := by decide +kernel
theorem dX7_countParagraphs_3 : decode cX7_countParagraphs 3 = .ok (.istore_n 2, 1) := by decide +kernel
theorem dX7_countParagraphs_4 : decode cX7_countParagraphs 4 = .ok (.iload_n 2, 1) := by decide +kernel
theorem dX7_countParagraphs_5 : decode cX7_countParagraphs 5 = .ok (.aload_n 0, 1) := by decide +kernel
theorem dX7_countParagraphs_6 : decode cX7_countParagraphs 6 = .ok (.getfield 23, 3) := by decide +kernel
theorem dX7_countParagraphs_9 : decode cX7_countParagraphs 9 = .ok (.if_icmp .ge 20, 3) := by decide +kernel
theorem dX7_countParagraphs_12 : decode cX7_countParagraphs 12 = .ok (.aload_n 0, 1) := by decide +kernel
theorem dX7_countParagraphs_13 : decode cX7_countParagraphs 13 = .ok (.iload_n 2, 1) := by decide +kernel
theorem dX7_countParagraphs_14 : decode cX7_countParagraphs 14 = .ok (.invokevirtual 64, 3) := by decide +kernel
theorem dX7_countParagraphs_17 : decode cX7_countParagraphs 17 = .ok (.ifCond .eq 6, 3) := by decide +kernel
theorem dX7_countParagraphs_20 : decode cX7_countParagraphs 20 = .ok (.iinc 1 1, 3) := by decide +kernel
theorem dX7_countParagraphs_23 : decode cX7_countParagraphs 23 = .ok (.iinc 2 1, 3) := by decide +kernel
theorem dX7_countParagraphs_26 : decode cX7_countParagraphs 26 = .ok (.goto (-22), 3) := by decide +kernel
theorem dX7_countParagraphs_29 : decode cX7_countParagraphs 29 = .ok (.iload_n 1, 1) := by decide +kernel
theorem dX7_countParagraphs_30 : decode cX7_countParagraphs 30 = .ok (.ireturn, 1) := by decide +kernel
theorem dX7_slackCost_0 : decode cX7_slackCost 0 = .ok (.aload_n 0, 1) := by decide +kernel
theorem dX7_slackCost_1 : decode cX7_slackCost 1 = .ok (.getfield 27, 3) := by decide +kernel
theorem dX7_slackCost_4 : decode cX7_slackCost 4 = .ok (.iload_n 1, 1) := by decide +kernel
theorem dX7_slackCost_5 : decode cX7_slackCost 5 = .ok (.isub, 1) := by decide +kernel
theorem dX7_slackCost_6 : decode cX7_slackCost 6 = .ok (.istore_n 2, 1) := by decide +kernel
theorem dX7_slackCost_7 : decode cX7_slackCost 7 = .ok (.iload_n 2, 1) := by decide +kernel
theorem dX7_slackCost_8 : decode cX7_slackCost 8 = .ok (.iload_n 2, 1) := by decide +kernel
theorem dX7_slackCost_9 : decode cX7_slackCost 9 = .ok (.imul, 1) := by decide +kernel
theorem dX7_slackCost_10 : decode cX7_slackCost 10 = .ok (.ireturn, 1) := by decide +kernel
theorem dX7_lastLineCost_0 : decode cX7_lastLineCost 0 = .ok (.iload_n 2, 1) := by decide +kernel
theorem dX7_lastLineCost_1 : decode cX7_lastLineCost 1 = .ok (.ifCond .ne 20, 3) := by decide +kernel
theorem dX7_lastLineCost_4 : decode cX7_lastLineCost 4 = .ok (.iconst 4, 1) := by decide +kernel
theorem dX7_lastLineCost_5 : decode cX7_lastLineCost 5 = .ok (.iload_n 1, 1) := by decide +kernel
theorem dX7_lastLineCost_6 : decode cX7_lastLineCost 6 = .ok (.imul, 1) := by decide +kernel
theorem dX7_lastLineCost_7 : decode cX7_lastLineCost 7 = .ok (.aload_n 0, 1) := by decide +kernel
theorem dX7_lastLineCost_8 : decode cX7_lastLineCost 8 = .ok (.getfield 27, 3) := by decide +kernel
theorem dX7_lastLineCost_11 : decode cX7_lastLineCost 11 = .ok (.if_icmp .ge 10, 3) := by decide +kernel
theorem dX7_lastLineCost_14 : decode cX7_lastLineCost 14 = .ok (.aload_n 0, 1) := by decide +kernel
theorem dX7_lastLineCost_15 : decode cX7_lastLineCost 15 = .ok (.getfield 39, 3) := by decide +kernel
theorem dX7_lastLineCost_18 : decode cX7_lastLineCost 18 = .ok (.goto 4, 3) := by decide +kernel
theorem dX7_lastLineCost_21 : decode cX7_lastLineCost 21 = .ok (.iconst 0, 1) := by decide +kernel
theorem dX7_lastLineCost_22 : decode cX7_lastLineCost 22 = .ok (.ireturn, 1) := by decide +kernel
theorem dX7_turn_0 : decode cX7_turn 0 = .ok (.iload_n 2, 1) := by decide +kernel
theorem dX7_turn_1 : decode cX7_turn 1 = .ok (.iload_n 1, 1) := by decide +kernel
theorem dX7_turn_2 : decode cX7_turn 2 = .ok (.aload_n 0, 1) := by decide +kernel
theorem dX7_turn_3 : decode cX7_turn 3 = .ok (.getfield 33, 3) := by decide +kernel
theorem dX7_turn_6 : decode cX7_turn 6 = .ok (.isub, 1) := by decide +kernel
theorem dX7_turn_7 : decode cX7_turn 7 = .ok (.if_icmp .gt 5, 3) := by decide +kernel
theorem dX7_turn_10 : decode cX7_turn 10 = .ok (.iconst (-1), 1) := by decide +kernel
theorem dX7_turn_11 : decode cX7_turn 11 = .ok (.ireturn, 1) := by decide +kernel
theorem dX7_turn_12 : decode cX7_turn 12 = .ok (.iload_n 2, 1) := by decide +kernel
theorem dX7_turn_13 : decode cX7_turn 13 = .ok (.iload_n 1, 1) := by decide +kernel
theorem dX7_turn_14 : decode cX7_turn 14 = .ok (.aload_n 0, 1) := by decide +kernel
theorem dX7_turn_15 : decode cX7_turn 15 = .ok (.getfield 33, 3) := by decide +kernel
theorem dX7_turn_18 : decode cX7_turn 18 = .ok (.iadd, 1) := by decide +kernel
theorem dX7_turn_19 : decode cX7_turn 19 = .ok (.if_icmp .lt 7, 3) := by decide +kernel
theorem dX7_turn_22 : decode cX7_turn 22 = .ok (.iconst 1, 1) := by decide +kernel
theorem dX7_turn_23 : decode cX7_turn 23 = .ok (.goto 4, 3) := by decide +kernel
theorem dX7_turn_26 : decode cX7_turn 26 = .ok (.iconst 0, 1) := by decide +kernel
theorem dX7_turn_27 : decode cX7_turn 27 = .ok (.ireturn, 1) := by decide +kernel
theorem dX8_init_0 : decode cX8_init 0 = .ok (.aload_n 0, 1) := by decide +kernel
theorem dX8_init_1 : decode cX8_init 1 = .ok (.invokespecial 1, 3) := by decide +kernel
theorem dX8_init_4 : decode cX8_init 4 = .ok (.aload_n 0, 1) := by decide +kernel
theorem dX8_init_5 : decode cX8_init 5 = .ok (.new 7, 3) := by decide +kernel
theorem dX8_init_8 : decode cX8_init 8 = .ok (.dup, 1) := by decide +kernel
theorem dX8_init_9 : decode cX8_init 9 = .ok (.invokespecial 9, 3) := by decide +kernel
theorem dX8_init_12 : decode cX8_init 12 = .ok (.putfield 10, 3) := by decide +kernel
theorem dX8_init_15 : decode cX8_init 15 = .ok (.aload_n 0, 1) := by decide +kernel
theorem dX8_init_16 : decode cX8_init 16 = .ok (.new 16, 3) := by decide +kernel
theorem dX8_init_19 : decode cX8_init 19 = .ok (.dup, 1) := by decide +kernel
theorem dX8_init_20 : decode cX8_init 20 = .ok (.aload_n 0, 1) := by decide +kernel
theorem dX8_init_21 : decode cX8_init 21 = .ok (.getfield 10, 3) := by decide +kernel
theorem dX8_init_24 : decode cX8_init 24 = .ok (.invokespecial 18, 3) := by decide +kernel
theorem dX8_init_27 : decode cX8_init 27 = .ok (.putfield 21, 3) := by decide +kernel
theorem dX8_init_30 : decode cX8_init 30 = .ok (.aload_n 0, 1) := by decide +kernel
theorem dX8_init_31 : decode cX8_init 31 = .ok (.new 25, 3) := by decide +kernel
theorem dX8_init_34 : decode cX8_init 34 = .ok (.dup, 1) := by decide +kernel
theorem dX8_init_35 : decode cX8_init 35 = .ok (.aload_n 0, 1) := by decide +kernel
theorem dX8_init_36 : decode cX8_init 36 = .ok (.getfield 10, 3) := by decide +kernel
theorem dX8_init_39 : decode cX8_init 39 = .ok (.aload_n 0, 1) := by decide +kernel
theorem dX8_init_40 : decode cX8_init 40 = .ok (.getfield 21, 3) := by decide +kernel
theorem dX8_init_43 : decode cX8_init 43 = .ok (.invokespecial 27, 3) := by decide +kernel
theorem dX8_init_46 : decode cX8_init 46 = .ok (.putfield 30, 3) := by decide +kernel
theorem dX8_init_49 : decode cX8_init 49 = .ok (.aload_n 0, 1) := by decide +kernel
theorem dX8_init_50 : decode cX8_init 50 = .ok (.new 7, 3) := by decide +kernel
theorem dX8_init_53 : decode cX8_init 53 = .ok (.dup, 1) := by decide +kernel
theorem dX8_init_54 : decode cX8_init 54 = .ok (.invokespecial 9, 3) := by decide +kernel
theorem dX8_init_57 : decode cX8_init 57 = .ok (.putfield 34, 3) := by decide +kernel
theorem dX8_init_60 : decode cX8_init 60 = .ok (.aload_n 0, 1) := by decide +kernel
theorem dX8_init_61 : decode cX8_init 61 = .ok (.new 16, 3) := by decide +kernel
theorem dX8_init_64 : decode cX8_init 64 = .ok (.dup, 1) := by decide +kernel
theorem dX8_init_65 : decode cX8_init 65 = .ok (.aload_n 0, 1) := by decide +kernel
theorem dX8_init_66 : decode cX8_init 66 = .ok (.getfield 34, 3) := by decide +kernel
theorem dX8_init_69 : decode cX8_init 69 = .ok (.invokespecial 18, 3) := by decide +kernel
theorem dX8_init_72 : decode cX8_init 72 = .ok (.putfield 37, 3) := by decide +kernel
theorem dX8_init_75 : decode cX8_init 75 = .ok (.aload_n 0, 1) := by decide +kernel
theorem dX8_init_76 : decode cX8_init 76 = .ok (.new 40, 3) := by decide +kernel
theorem dX8_init_79 : decode cX8_init 79 = .ok (.dup, 1) := by decide +kernel
theorem dX8_init_80 : decode cX8_init 80 = .ok (.invokespecial 42, 3) := by decide +kernel
theorem dX8_init_83 : decode cX8_init 83 = .ok (.putfield 43, 3) := by decide +kernel
theorem dX8_init_86 : decode cX8_init 86 = .ok (.aload_n 0, 1) := by decide +kernel
theorem dX8_init_87 : decode cX8_init 87 = .ok (.new 47, 3) := by decide +kernel
theorem dX8_init_90 : decode cX8_init 90 = .ok (.dup, 1) := by decide +kernel
theorem dX8_init_91 : decode cX8_init 91 = .ok (.invokespecial 49, 3) := by decide +kernel
theorem dX8_init_94 : decode cX8_init 94 = .ok (.putfield 50, 3) := by decide +kernel
theorem dX8_init_97 : decode cX8_init 97 = .ok (.aload_n 0, 1) := by decide +kernel
theorem dX8_init_98 : decode cX8_init 98 = .ok (.iconst 1, 1) := by decide +kernel
theorem dX8_init_99 : decode cX8_init 99 = .ok (.putfield 54, 3) := by decide +kernel
theorem dX8_init_102 : decode cX8_init 102 = .ok (.return_, 1) := by decide +kernel
theorem dX8_insert_0 : decode cX8_insert 0 = .ok (.iload_n 1, 1) := by decide +kernel
theorem dX8_insert_1 : decode cX8_insert 1 = .ok (.aload_n 0, 1) := by decide +kernel
theorem dX8_insert_2 : decode cX8_insert 2 = .ok (.getfield 10, 3) := by decide +kernel
theorem dX8_insert_5 : decode cX8_insert 5 = .ok (.getfield 58, 3) := by decide +kernel
theorem dX8_insert_8 : decode cX8_insert 8 = .ok (.iconst 1, 1) := by decide +kernel
theorem dX8_insert_9 : decode cX8_insert 9 = .ok (.iadd, 1) := by decide +kernel
theorem dX8_insert_10 : decode cX8_insert 10 = .ok (.invokestatic 62, 3) := by decide +kernel
theorem dX8_insert_13 : decode cX8_insert 13 = .ok (.iload_n 2, 1) := by decide +kernel
theorem dX8_insert_14 : decode cX8_insert 14 = .ok (.iconst 1, 1) := by decide +kernel
theorem dX8_insert_15 : decode cX8_insert 15 = .ok (.bipush 30, 2) := by decide +kernel
theorem dX8_insert_17 : decode cX8_insert 17 = .ok (.invokestatic 66, 3) := by decide +kernel
theorem dX8_insert_20 : decode cX8_insert 20 = .ok (.aload_n 0, 1) := by decide +kernel
theorem dX8_insert_21 : decode cX8_insert 21 = .ok (.getfield 10, 3) := by decide +kernel
theorem dX8_insert_24 : decode cX8_insert 24 = .ok (.getfield 58, 3) := by decide +kernel
theorem dX8_insert_27 : decode cX8_insert 27 = .ok (.bipush 40, 2) := by decide +kernel
theorem dX8_insert_29 : decode cX8_insert 29 = .ok (.if_icmp .lt 13, 3) := by decide +kernel
theorem dX8_insert_32 : decode cX8_insert 32 = .ok (.new 70, 3) := by decide +kernel
theorem dX8_insert_35 : decode cX8_insert 35 = .ok (.dup, 1) := by decide +kernel
theorem dX8_insert_36 : decode cX8_insert 36 = .ok (.ldc 72, 2) := by decide +kernel
theorem dX8_insert_38 : decode cX8_insert 38 = .ok (.invokespecial 74, 3) := by decide +kernel
theorem dX8_insert_41 : decode cX8_insert 41 = .ok (.athrow, 1) := by decide +kernel
theorem dX8_insert_42 : decode cX8_insert 42 = .ok (.aload_n 0, 1) := by decide +kernel
theorem dX8_insert_43 : decode cX8_insert 43 = .ok (.invokevirtual 77, 3) := by decide +kernel
theorem dX8_insert_46 : decode cX8_insert 46 = .ok (.aload_n 0, 1) := by decide +kernel
theorem dX8_insert_47 : decode cX8_insert 47 = .ok (.getfield 10, 3) := by decide +kernel
theorem dX8_insert_50 : decode cX8_insert 50 = .ok (.iload_n 1, 1) := by decide +kernel
theorem dX8_insert_51 : decode cX8_insert 51 = .ok (.iload_n 2, 1) := by decide +kernel
theorem dX8_insert_52 : decode cX8_insert 52 = .ok (.iconst 0, 1) := by decide +kernel
theorem dX8_insert_53 : decode cX8_insert 53 = .ok (.invokevirtual 80, 3) := by decide +kernel
theorem dX8_insert_56 : decode cX8_insert 56 = .ok (.aload_n 0, 1) := by decide +kernel
theorem dX8_insert_57 : decode cX8_insert 57 = .ok (.getfield 10, 3) := by decide +kernel
theorem dX8_insert_60 : decode cX8_insert 60 = .ok (.getfield 58, 3) := by decide +kernel
theorem dX8_insert_63 : decode cX8_insert 63 = .ok (.ireturn, 1) := by decide +kernel
theorem dX8_remove_0 : decode cX8_remove 0 = .ok (.iload_n 1, 1) := by decide +kernel
theorem dX8_remove_1 : decode cX8_remove 1 = .ok (.aload_n 0, 1) := by decide +kernel
theorem dX8_remove_2 : decode cX8_remove 2 = .ok (.getfield 10, 3) := by decide +kernel
theorem dX8_remove_5 : decode cX8_remove 5 = .ok (.getfield 58, 3) := by decide +kernel
theorem dX8_remove_8 : decode cX8_remove 8 = .ok (.invokestatic 62, 3) := by decide +kernel
theorem dX8_remove_11 : decode cX8_remove 11 = .ok (.aload_n 0, 1) := by decide +kernel
theorem dX8_remove_12 : decode cX8_remove 12 = .ok (.invokevirtual 77, 3) := by decide +kernel
theorem dX8_remove_15 : decode cX8_remove 15 = .ok (.aload_n 0, 1) := by decide +kernel
theorem dX8_remove_16 : decode cX8_remove 16 = .ok (.getfield 10, 3) := by decide +kernel
theorem dX8_remove_19 : decode cX8_remove 19 = .ok (.getfield 83, 3) := by decide +kernel
theorem dX8_remove_22 : decode cX8_remove 22 = .ok (.iload_n 1, 1) := by decide +kernel
theorem dX8_remove_23 : decode cX8_remove 23 = .ok (.invokevirtual 87, 3) := by decide +kernel
theorem dX8_remove_26 : decode cX8_remove 26 = .ok (.istore_n 2, 1) := by decide +kernel
theorem dX8_remove_27 : decode cX8_remove 27 = .ok (.aload_n 0, 1) := by decide +kernel
theorem dX8_remove_28 : decode cX8_remove 28 = .ok (.getfield 10, 3) := by decide +kernel
theorem dX8_remove_31 : decode cX8_remove 31 = .ok (.iload_n 1, 1) := by decide +kernel
theorem dX8_remove_32 : decode cX8_remove 32 = .ok (.invokevirtual 93, 3) := by decide +kernel
theorem dX8_remove_35 : decode cX8_remove 35 = .ok (.iload_n 2, 1) := by decide +kernel
theorem dX8_remove_36 : decode cX8_remove 36 = .ok (.ireturn, 1) := by decide +kernel
theorem dX8_setMark_0 : decode cX8_setMark 0 = .ok (.iload_n 1, 1) := by decide +kernel
theorem dX8_setMark_1 : decode cX8_setMark 1 = .ok (.aload_n 0, 1) := by decide +kernel
theorem dX8_setMark_2 : decode cX8_setMark 2 = .ok (.getfield 10, 3) := by decide +kernel
theorem dX8_setMark_5 : decode cX8_setMark 5 = .ok (.getfield 58, 3) := by decide +kernel
theorem dX8_setMark_8 : decode cX8_setMark 8 = .ok (.invokestatic 62, 3) := by decide +kernel
theorem dX8_setMark_11 : decode cX8_setMark 11 = .ok (.iload_n 2, 1) := by decide +kernel
theorem dX8_setMark_12 : decode cX8_setMark 12 = .ok (.iconst 0, 1) := by decide +kernel
theorem dX8_setMark_13 : decode cX8_setMark 13 = .ok (.iconst 2, 1) := by decide +kernel
theorem dX8_setMark_14 : decode cX8_setMark 14 = .ok (.invokestatic 66, 3) := by decide +kernel
theorem dX8_setMark_17 : decode cX8_setMark 17 = .ok (.aload_n 0, 1) := by decide +kernel
theorem dX8_setMark_18 : decode cX8_setMark 18 = .ok (.invokevirtual 77, 3) := by decide +kernel
theorem dX8_setMark_21 : decode cX8_setMark 21 = .ok (.aload_n 0, 1) := by decide +kernel
theorem dX8_setMark_22 : decode cX8_setMark 22 = .ok (.getfield 10, 3) := by decide +kernel
theorem dX8_setMark_25 : decode cX8_setMark 25 = .ok (.getfield 97, 3) := by decide +kernel
theorem dX8_setMark_28 : decode cX8_setMark 28 = .ok (.iload_n 1, 1) := by decide +kernel
theorem dX8_setMark_29 : decode cX8_setMark 29 = .ok (.invokevirtual 87, 3) := by decide +kernel
theorem dX8_setMark_32 : decode cX8_setMark 32 = .ok (.istore_n 3, 1) := by decide +kernel
theorem dX8_setMark_33 : decode cX8_setMark 33 = .ok (.aload_n 0, 1) := by decide +kernel
theorem dX8_setMark_34 : decode cX8_setMark 34 = .ok (.getfield 10, 3) := by decide +kernel
theorem dX8_setMark_37 : decode cX8_setMark 37 = .ok (.getfield 97, 3) := by decide +kernel
theorem dX8_setMark_40 : decode cX8_setMark 40 = .ok (.iload_n 1, 1) := by decide +kernel
theorem dX8_setMark_41 : decode cX8_setMark 41 = .ok (.iload_n 2, 1) := by decide +kernel
theorem dX8_setMark_42 : decode cX8_setMark 42 = .ok (.invokevirtual 100, 3) := by decide +kernel
theorem dX8_setMark_45 : decode cX8_setMark 45 = .ok (.iload_n 3, 1) := by decide +kernel
theorem dX8_setMark_46 : decode cX8_setMark 46 = .ok (.ireturn, 1) := by decide +kernel
theorem dX8_words_0 : decode cX8_words 0 = .ok (.aload_n 0, 1) := by decide +kernel
theorem dX8_words_1 : decode cX8_words 1 = .ok (.getfield 10, 3) := by decide +kernel
theorem dX8_words_4 : decode cX8_words 4 = .ok (.getfield 58, 3) := by decide +kernel
theorem dX8_words_7 : decode cX8_words 7 = .ok (.ireturn, 1) := by decide +kernel
theorem dX8_wordWidth_0 : decode cX8_wordWidth 0 = .ok (.iload_n 1, 1) := by decide +kernel
theorem dX8_wordWidth_1 : decode cX8_wordWidth 1 = .ok (.aload_n 0, 1) := by decide +kernel
theorem dX8_wordWidth_2 : decode cX8_wordWidth 2 = .ok (.getfield 10, 3) := by decide +kernel
theorem dX8_wordWidth_5 : decode cX8_wordWidth 5 = .ok (.getfield 58, 3) := by decide +kernel
theorem dX8_wordWidth_8 : decode cX8_wordWidth 8 = .ok (.invokestatic 62, 3) := by decide +kernel
theorem dX8_wordWidth_11 : decode cX8_wordWidth 11 = .ok (.aload_n 0, 1) := by decide +kernel
theorem dX8_wordWidth_12 : decode cX8_wordWidth 12 = .ok (.getfield 10, 3) := by decide +kernel
theorem dX8_wordWidth_15 : decode cX8_wordWidth 15 = .ok (.getfield 83, 3) := by decide +kernel
theorem dX8_wordWidth_18 : decode cX8_wordWidth 18 = .ok (.iload_n 1, 1) := by decide +kernel
theorem dX8_wordWidth_19 : decode cX8_wordWidth 19 = .ok (.invokevirtual 87, 3) := by decide +kernel
theorem dX8_wordWidth_22 : decode cX8_wordWidth 22 = .ok (.ireturn, 1) := by decide +kernel
theorem dX8_mark_0 : decode cX8_mark 0 = .ok (.iload_n 1, 1) := by decide +kernel
theorem dX8_mark_1 : decode cX8_mark 1 = .ok (.aload_n 0, 1) := by decide +kernel
theorem dX8_mark_2 : decode cX8_mark 2 = .ok (.getfield 10, 3) := by decide +kernel
theorem dX8_mark_5 : decode cX8_mark 5 = .ok (.getfield 58, 3) := by decide +kernel
theorem dX8_mark_8 : decode cX8_mark 8 = .ok (.invokestatic 62, 3) := by decide +kernel
theorem dX8_mark_11 : decode cX8_mark 11 = .ok (.aload_n 0, 1) := by decide +kernel
theorem dX8_mark_12 : decode cX8_mark 12 = .ok (.getfield 10, 3) := by decide +kernel
theorem dX8_mark_15 : decode cX8_mark 15 = .ok (.getfield 97, 3) := by decide +kernel
theorem dX8_mark_18 : decode cX8_mark 18 = .ok (.iload_n 1, 1) := by decide +kernel
theorem dX8_mark_19 : decode cX8_mark 19 = .ok (.invokevirtual 87, 3) := by decide +kernel
theorem dX8_mark_22 : decode cX8_mark 22 = .ok (.ireturn, 1) := by decide +kernel
theorem dX8_setColumn_0 : decode cX8_setColumn 0 = .ok (.iload_n 1, 1) := by decide +kernel
theorem dX8_setColumn_1 : decode cX8_setColumn 1 = .ok (.bipush 30, 2) := by decide +kernel
theorem dX8_setColumn_3 : decode cX8_setColumn 3 = .ok (.bipush 100, 2) := by decide +kernel
theorem dX8_setColumn_5 : decode cX8_setColumn 5 = .ok (.invokestatic 66, 3) := by decide +kernel
theorem dX8_setColumn_8 : decode cX8_setColumn 8 = .ok (.aload_n 0, 1) := by decide +kernel
theorem dX8_setColumn_9 : decode cX8_setColumn 9 = .ok (.invokevirtual 77, 3) := by decide +kernel
theorem dX8_setColumn_12 : decode cX8_setColumn 12 = .ok (.aload_n 0, 1) := by decide +kernel
theorem dX8_setColumn_13 : decode cX8_setColumn 13 = .ok (.getfield 10, 3) := by decide +kernel
theorem dX8_setColumn_16 : decode cX8_setColumn 16 = .ok (.getfield 103, 3) := by decide +kernel
theorem dX8_setColumn_19 : decode cX8_setColumn 19 = .ok (.istore_n 2, 1) := by decide +kernel
theorem dX8_setColumn_20 : decode cX8_setColumn 20 = .ok (.aload_n 0, 1) := by decide +kernel
theorem dX8_setColumn_21 : decode cX8_setColumn 21 = .ok (.getfield 10, 3) := by decide +kernel
theorem dX8_setColumn_24 : decode cX8_setColumn 24 = .ok (.iload_n 1, 1) := by decide +kernel
theorem dX8_setColumn_25 : decode cX8_setColumn 25 = .ok (.putfield 103, 3) := by decide +kernel
theorem dX8_setColumn_28 : decode cX8_setColumn 28 = .ok (.iload_n 2, 1) := by decide +kernel
theorem dX8_setColumn_29 : decode cX8_setColumn 29 = .ok (.ireturn, 1) := by decide +kernel
theorem dX8_setSpace_0 : decode cX8_setSpace 0 = .ok (.iload_n 1, 1) := by decide +kernel
theorem dX8_setSpace_1 : decode cX8_setSpace 1 = .ok (.iconst 1, 1) := by decide +kernel
theorem dX8_setSpace_2 : decode cX8_setSpace 2 = .ok (.iconst 5, 1) := by decide +kernel
theorem dX8_setSpace_3 : decode cX8_setSpace 3 = .ok (.invokestatic 66, 3) := by decide +kernel
theorem dX8_setSpace_6 : decode cX8_setSpace 6 = .ok (.aload_n 0, 1) := by decide +kernel
theorem dX8_setSpace_7 : decode cX8_setSpace 7 = .ok (.invokevirtual 77, 3) := by decide +kernel
theorem dX8_setSpace_10 : decode cX8_setSpace 10 = .ok (.aload_n 0, 1) := by decide +kernel
theorem dX8_setSpace_11 : decode cX8_setSpace 11 = .ok (.getfield 10, 3) := by decide +kernel
theorem dX8_setSpace_14 : decode cX8_setSpace 14 = .ok (.getfield 106, 3) := by decide +kernel
theorem dX8_setSpace_17 : decode cX8_setSpace 17 = .ok (.istore_n 2, 1) := by decide +kernel
theorem dX8_setSpace_18 : decode cX8_setSpace 18 = .ok (.aload_n 0, 1) := by decide +kernel
theorem dX8_setSpace_19 : decode cX8_setSpace 19 = .ok (.getfield 10, 3) := by decide +kernel
theorem dX8_setSpace_22 : decode cX8_setSpace 22 = .ok (.iload_n 1, 1) := by decide +kernel
theorem dX8_setSpace_23 : decode cX8_setSpace 23 = .ok (.putfield 106, 3) := by decide +kernel
theorem dX8_setSpace_26 : decode cX8_setSpace 26 = .ok (.iload_n 2, 1) := by decide +kernel
theorem dX8_setSpace_27 : decode cX8_setSpace 27 = .ok (.ireturn, 1) := by decide +kernel
theorem dX8_setPenalties_0 : decode cX8_setPenalties 0 = .ok (.iload_n 1, 1) := by decide +kernel
theorem dX8_setPenalties_1 : decode cX8_setPenalties 1 = .ok (.iconst 1, 1) := by decide +kernel
theorem dX8_setPenalties_2 : decode cX8_setPenalties 2 = .ok (.bipush 20, 2) := by decide +kernel
theorem dX8_setPenalties_4 : decode cX8_setPenalties 4 = .ok (.invokestatic 66, 3) := by decide +kernel
theorem dX8_setPenalties_7 : decode cX8_setPenalties 7 = .ok (.iload_n 2, 1) := by decide +kernel
theorem dX8_setPenalties_8 : decode cX8_setPenalties 8 = .ok (.iconst 0, 1) := by decide +kernel
theorem dX8_setPenalties_9 : decode cX8_setPenalties 9 = .ok (.sipush 9999, 3) := by decide +kernel
theorem dX8_setPenalties_12 : decode cX8_setPenalties 12 = .ok (.invokestatic 66, 3) := by decide +kernel
theorem dX8_setPenalties_15 : decode cX8_setPenalties 15 = .ok (.iload_n 3, 1) := by decide +kernel
theorem dX8_setPenalties_16 : decode cX8_setPenalties 16 = .ok (.iconst 0, 1) := by decide +kernel
theorem dX8_setPenalties_17 : decode cX8_setPenalties 17 = .ok (.sipush 9999, 3) := by decide +kernel
theorem dX8_setPenalties_20 : decode cX8_setPenalties 20 = .ok (.invokestatic 66, 3) := by decide +kernel
theorem dX8_setPenalties_23 : decode cX8_setPenalties 23 = .ok (.aload_n 0, 1) := by decide +kernel
theorem dX8_setPenalties_24 : decode cX8_setPenalties 24 = .ok (.invokevirtual 77, 3) := by decide +kernel
theorem dX8_setPenalties_27 : decode cX8_setPenalties 27 = .ok (.aload_n 0, 1) := by decide +kernel
theorem dX8_setPenalties_28 : decode cX8_setPenalties 28 = .ok (.getfield 10, 3) := by decide +kernel
theorem dX8_setPenalties_31 : decode cX8_setPenalties 31 = .ok (.getfield 109, 3) := by decide +kernel
theorem dX8_setPenalties_34 : decode cX8_setPenalties 34 = .ok (.istore 4, 2) := by decide +kernel
theorem dX8_setPenalties_36 : decode cX8_setPenalties 36 = .ok (.aload_n 0, 1) := by decide +kernel
theorem dX8_setPenalties_37 : decode cX8_setPenalties 37 = .ok (.getfield 10, 3) := by decide +kernel
theorem dX8_setPenalties_40 : decode cX8_setPenalties 40 = .ok (.iload_n 1, 1) := by decide +kernel
theorem dX8_setPenalties_41 : decode cX8_setPenalties 41 = .ok (.putfield 109, 3) := by decide +kernel
theorem dX8_setPenalties_44 : decode cX8_setPenalties 44 = .ok (.aload_n 0, 1) := by decide +kernel
theorem dX8_setPenalties_45 : decode cX8_setPenalties 45 = .ok (.getfield 10, 3) := by decide +kernel
theorem dX8_setPenalties_48 : decode cX8_setPenalties 48 = .ok (.iload_n 2, 1) := by decide +kernel
theorem dX8_setPenalties_49 : decode cX8_setPenalties 49 = .ok (.putfield 112, 3) := by decide +kernel
theorem dX8_setPenalties_52 : decode cX8_setPenalties 52 = .ok (.aload_n 0, 1) := by decide +kernel
theorem dX8_setPenalties_53 : decode cX8_setPenalties 53 = .ok (.getfield 10, 3) := by decide +kernel
theorem dX8_setPenalties_56 : decode cX8_setPenalties 56 = .ok (.iload_n 3, 1) := by decide +kernel
theorem dX8_setPenalties_57 : decode cX8_setPenalties 57 = .ok (.putfield 115, 3) := by decide +kernel
theorem dX8_setPenalties_60 : decode cX8_setPenalties 60 = .ok (.iload 4, 2) := by decide +kernel
theorem dX8_setPenalties_62 : decode cX8_setPenalties 62 = .ok (.ireturn, 1) := by decide +kernel
theorem dX8_setPage_0 : decode cX8_setPage 0 = .ok (.iload_n 1, 1) := by decide +kernel
theorem dX8_setPage_1 : decode cX8_setPage 1 = .ok (.iconst 2, 1) := by decide +kernel
theorem dX8_setPage_2 : decode cX8_setPage 2 = .ok (.bipush 20, 2) := by decide +kernel
theorem dX8_setPage_4 : decode cX8_setPage 4 = .ok (.invokestatic 66, 3) := by decide +kernel
theorem dX8_setPage_7 : decode cX8_setPage 7 = .ok (.aload_n 0, 1) := by decide +kernel
theorem dX8_setPage_8 : decode cX8_setPage 8 = .ok (.invokevirtual 77, 3) := by decide +kernel
theorem dX8_setPage_11 : decode cX8_setPage 11 = .ok (.aload_n 0, 1) := by decide +kernel
theorem dX8_setPage_12 : decode cX8_setPage 12 = .ok (.getfield 10, 3) := by decide +kernel
theorem dX8_setPage_15 : decode cX8_setPage 15 = .ok (.getfield 118, 3) := by decide +kernel
theorem dX8_setPage_18 : decode cX8_setPage 18 = .ok (.istore_n 2, 1) := by decide +kernel
theorem dX8_setPage_19 : decode cX8_setPage 19 = .ok (.aload_n 0, 1) := by decide +kernel
theorem dX8_setPage_20 : decode cX8_setPage 20 = .ok (.getfield 10, 3) := by decide +kernel
theorem dX8_setPage_23 : decode cX8_setPage 23 = .ok (.iload_n 1, 1) := by decide +kernel
theorem dX8_setPage_24 : decode cX8_setPage 24 = .ok (.putfield 118, 3) := by decide +kernel
theorem dX8_setPage_27 : decode cX8_setPage 27 = .ok (.iload_n 2, 1) := by decide +kernel
theorem dX8_setPage_28 : decode cX8_setPage 28 = .ok (.ireturn, 1) := by decide +kernel
theorem dX8_setOptimal_0 : decode cX8_setOptimal 0 = .ok (.aload_n 0, 1) := by decide +kernel
theorem dX8_setOptimal_1 : decode cX8_setOptimal 1 = .ok (.invokevirtual 77, 3) := by decide +kernel
theorem dX8_setOptimal_4 : decode cX8_setOptimal 4 = .ok (.aload_n 0, 1) := by decide +kernel
theorem dX8_setOptimal_5 : decode cX8_setOptimal 5 = .ok (.getfield 10, 3) := by decide +kernel
theorem dX8_setOptimal_8 : decode cX8_setOptimal 8 = .ok (.getfield 121, 3) := by decide +kernel
theorem dX8_setOptimal_11 : decode cX8_setOptimal 11 = .ok (.istore_n 2, 1) := by decide +kernel
theorem dX8_setOptimal_12 : decode cX8_setOptimal 12 = .ok (.aload_n 0, 1) := by decide +kernel
theorem dX8_setOptimal_13 : decode cX8_setOptimal 13 = .ok (.getfield 10, 3) := by decide +kernel
theorem dX8_setOptimal_16 : decode cX8_setOptimal 16 = .ok (.iload_n 1, 1) := by decide +kernel
theorem dX8_setOptimal_17 : decode cX8_setOptimal 17 = .ok (.putfield 121, 3) := by decide +kernel
theorem dX8_setOptimal_20 : decode cX8_setOptimal 20 = .ok (.iload_n 2, 1) := by decide +kernel
theorem dX8_setOptimal_21 : decode cX8_setOptimal 21 = .ok (.ireturn, 1) := by decide +kernel
theorem dX8_lines_0 : decode cX8_lines 0 = .ok (.aload_n 0, 1) := by decide +kernel
theorem dX8_lines_1 : decode cX8_lines 1 = .ok (.invokevirtual 124, 3) := by decide +kernel
theorem dX8_lines_4 : decode cX8_lines 4 = .ok (.aload_n 0, 1) := by decide +kernel
theorem dX8_lines_5 : decode cX8_lines 5 = .ok (.getfield 21, 3) := by decide +kernel
theorem dX8_lines_8 : decode cX8_lines 8 = .ok (.getfield 127, 3) := by decide +kernel
theorem dX8_lines_11 : decode cX8_lines 11 = .ok (.ireturn, 1) := by decide +kernel
theorem dX8_lineOf_0 : decode cX8_lineOf 0 = .ok (.iload_n 1, 1) := by decide +kernel
theorem dX8_lineOf_1 : decode cX8_lineOf 1 = .ok (.aload_n 0, 1) := by decide +kernel
theorem dX8_lineOf_2 : decode cX8_lineOf 2 = .ok (.getfield 10, 3) := by decide +kernel
theorem dX8_lineOf_5 : decode cX8_lineOf 5 = .ok (.getfield 58, 3) := by decide +kernel
theorem dX8_lineOf_8 : decode cX8_lineOf 8 = .ok (.invokestatic 62, 3) := by decide +kernel
theorem dX8_lineOf_11 : decode cX8_lineOf 11 = .ok (.aload_n 0, 1) := by decide +kernel
theorem dX8_lineOf_12 : decode cX8_lineOf 12 = .ok (.invokevirtual 124, 3) := by decide +kernel
theorem dX8_lineOf_15 : decode cX8_lineOf 15 = .ok (.aload_n 0, 1) := by decide +kernel
theorem dX8_lineOf_16 : decode cX8_lineOf 16 = .ok (.getfield 21, 3) := by decide +kernel
theorem dX8_lineOf_19 : decode cX8_lineOf 19 = .ok (.getfield 128, 3) := by decide +kernel
theorem dX8_lineOf_22 : decode cX8_lineOf 22 = .ok (.iload_n 1, 1) := by decide +kernel
theorem dX8_lineOf_23 : decode cX8_lineOf 23 = .ok (.invokevirtual 87, 3) := by decide +kernel
theorem dX8_lineOf_26 : decode cX8_lineOf 26 = .ok (.ireturn, 1) := by decide +kernel
theorem dX8_firstWord_0 : decode cX8_firstWord 0 = .ok (.aload_n 0, 1) := by decide +kernel
theorem dX8_firstWord_1 : decode cX8_firstWord 1 = .ok (.invokevirtual 124, 3) := by decide +kernel
theorem dX8_firstWord_4 : decode cX8_firstWord 4 = .ok (.iload_n 1, 1) := by decide +kernel
theorem dX8_firstWord_5 : decode cX8_firstWord 5 = .ok (.aload_n 0, 1) := by decide +kernel
theorem dX8_firstWord_6 : decode cX8_firstWord 6 = .ok (.getfield 21, 3) := by decide +kernel
theorem dX8_firstWord_9 : decode cX8_firstWord 9 = .ok (.getfield 127, 3) := by decide +kernel
theorem dX8_firstWord_12 : decode cX8_firstWord 12 = .ok (.invokestatic 62, 3) := by decide +kernel
theorem dX8_firstWord_15 : decode cX8_firstWord 15 = .ok (.aload_n 0, 1) := by decide +kernel
theorem dX8_firstWord_16 : decode cX8_firstWord 16 = .ok (.getfield 21, 3) := by decide +kernel
theorem dX8_firstWord_19 : decode cX8_firstWord 19 = .ok (.getfield 131, 3) := by decide +kernel
theorem dX8_firstWord_22 : decode cX8_firstWord 22 = .ok (.iload_n 1, 1) := by decide +kernel
theorem dX8_firstWord_23 : decode cX8_firstWord 23 = .ok (.invokevirtual 87, 3) := by decide +kernel
theorem dX8_firstWord_26 : decode cX8_firstWord 26 = .ok (.ireturn, 1) := by decide +kernel
theorem dX8_lineWidth_0 : decode cX8_lineWidth 0 = .ok (.aload_n 0, 1) := by decide +kernel
theorem dX8_lineWidth_1 : decode cX8_lineWidth 1 = .ok (.invokevirtual 124, 3) := by decide +kernel
theorem dX8_lineWidth_4 : decode cX8_lineWidth 4 = .ok (.iload_n 1, 1) := by decide +kernel
theorem dX8_lineWidth_5 : decode cX8_lineWidth 5 = .ok (.aload_n 0, 1) := by decide +kernel
theorem dX8_lineWidth_6 : decode cX8_lineWidth 6 = .ok (.getfield 21, 3) := by decide +kernel
theorem dX8_lineWidth_9 : decode cX8_lineWidth 9 = .ok (.getfield 127, 3) := by decide +kernel
theorem dX8_lineWidth_12 : decode cX8_lineWidth 12 = .ok (.invokestatic 62, 3) := by decide +kernel
theorem dX8_lineWidth_15 : decode cX8_lineWidth 15 = .ok (.aload_n 0, 1) := by decide +kernel
theorem dX8_lineWidth_16 : decode cX8_lineWidth 16 = .ok (.getfield 21, 3) := by decide +kernel
theorem dX8_lineWidth_19 : decode cX8_lineWidth 19 = .ok (.iload_n 1, 1) := by decide +kernel
theorem dX8_lineWidth_20 : decode cX8_lineWidth 20 = .ok (.invokevirtual 134, 3) := by decide +kernel
theorem dX8_lineWidth_23 : decode cX8_lineWidth 23 = .ok (.ireturn, 1) := by decide +kernel
theorem dX8_stairAt_0 : decode cX8_stairAt 0 = .ok (.aload_n 0, 1) := by decide +kernel
theorem dX8_stairAt_1 : decode cX8_stairAt 1 = .ok (.invokevirtual 124, 3) := by decide +kernel
theorem dX8_stairAt_4 : decode cX8_stairAt 4 = .ok (.iload_n 1, 1) := by decide +kernel
theorem dX8_stairAt_5 : decode cX8_stairAt 5 = .ok (.aload_n 0, 1) := by decide +kernel
theorem dX8_stairAt_6 : decode cX8_stairAt 6 = .ok (.getfield 21, 3) := by decide +kernel
theorem dX8_stairAt_9 : decode cX8_stairAt 9 = .ok (.getfield 127, 3) := by decide +kernel
theorem dX8_stairAt_12 : decode cX8_stairAt 12 = .ok (.invokestatic 62, 3) := by decide +kernel
theorem dX8_stairAt_15 : decode cX8_stairAt 15 = .ok (.aload_n 0, 1) := by decide +kernel
theorem dX8_stairAt_16 : decode cX8_stairAt 16 = .ok (.getfield 21, 3) := by decide +kernel
theorem dX8_stairAt_19 : decode cX8_stairAt 19 = .ok (.iload_n 1, 1) := by decide +kernel
theorem dX8_stairAt_20 : decode cX8_stairAt 20 = .ok (.invokevirtual 137, 3) := by decide +kernel
theorem dX8_stairAt_23 : decode cX8_stairAt 23 = .ok (.ireturn, 1) := by decide +kernel
theorem dX8_reason_0 : decode cX8_reason 0 = .ok (.iload_n 1, 1) := by decide +kernel
theorem dX8_reason_1 : decode cX8_reason 1 = .ok (.aload_n 0, 1) := by decide +kernel
theorem dX8_reason_2 : decode cX8_reason 2 = .ok (.getfield 10, 3) := by decide +kernel
theorem dX8_reason_5 : decode cX8_reason 5 = .ok (.getfield 58, 3) := by decide +kernel
theorem dX8_reason_8 : decode cX8_reason 8 = .ok (.invokestatic 62, 3) := by decide +kernel
theorem dX8_reason_11 : decode cX8_reason 11 = .ok (.aload_n 0, 1) := by decide +kernel
theorem dX8_reason_12 : decode cX8_reason 12 = .ok (.invokevirtual 124, 3) := by decide +kernel
theorem dX8_reason_15 : decode cX8_reason 15 = .ok (.aload_n 0, 1) := by decide +kernel
theorem dX8_reason_16 : decode cX8_reason 16 = .ok (.getfield 21, 3) := by decide +kernel
theorem dX8_reason_19 : decode cX8_reason 19 = .ok (.iload_n 1, 1) := by decide +kernel
theorem dX8_reason_20 : decode cX8_reason 20 = .ok (.invokevirtual 140, 3) := by decide +kernel
theorem dX8_reason_23 : decode cX8_reason 23 = .ok (.ireturn, 1) := by decide +kernel
theorem dX8_paragraphs_0 : decode cX8_paragraphs 0 = .ok (.aload_n 0, 1) := by decide +kernel
theorem dX8_paragraphs_1 : decode cX8_paragraphs 1 = .ok (.getfield 10, 3) := by decide +kernel
theorem dX8_paragraphs_4 : decode cX8_paragraphs 4 = .ok (.invokevirtual 143, 3) := by decide +kernel
theorem dX8_paragraphs_7 : decode cX8_paragraphs 7 = .ok (.ireturn, 1) := by decide +kernel
theorem dX8_stairs_0 : decode cX8_stairs 0 = .ok (.aload_n 0, 1) := by decide +kernel
theorem dX8_stairs_1 : decode cX8_stairs 1 = .ok (.invokevirtual 124, 3) := by decide +kernel
theorem dX8_stairs_4 : decode cX8_stairs 4 = .ok (.aload_n 0, 1) := by decide +kernel
theorem dX8_stairs_5 : decode cX8_stairs 5 = .ok (.getfield 21, 3) := by decide +kernel
theorem dX8_stairs_8 : decode cX8_stairs 8 = .ok (.invokevirtual 147, 3) := by decide +kernel
theorem dX8_stairs_11 : decode cX8_stairs 11 = .ok (.ireturn, 1) := by decide +kernel
theorem dX8_cost_0 : decode cX8_cost 0 = .ok (.aload_n 0, 1) := by decide +kernel
theorem dX8_cost_1 : decode cX8_cost 1 = .ok (.invokevirtual 124, 3) := by decide +kernel
theorem dX8_cost_4 : decode cX8_cost 4 = .ok (.aload_n 0, 1) := by decide +kernel
theorem dX8_cost_5 : decode cX8_cost 5 = .ok (.getfield 21, 3) := by decide +kernel
theorem dX8_cost_8 : decode cX8_cost 8 = .ok (.invokevirtual 150, 3) := by decide +kernel
theorem dX8_cost_11 : decode cX8_cost 11 = .ok (.ireturn, 1) := by decide +kernel
theorem dX8_pages_0 : decode cX8_pages 0 = .ok (.aload_n 0, 1) := by decide +kernel
theorem dX8_pages_1 : decode cX8_pages 1 = .ok (.invokevirtual 124, 3) := by decide +kernel
theorem dX8_pages_4 : decode cX8_pages 4 = .ok (.aload_n 0, 1) := by decide +kernel
theorem dX8_pages_5 : decode cX8_pages 5 = .ok (.getfield 30, 3) := by decide +kernel
theorem dX8_pages_8 : decode cX8_pages 8 = .ok (.getfield 153, 3) := by decide +kernel
theorem dX8_pages_11 : decode cX8_pages 11 = .ok (.ireturn, 1) := by decide +kernel
theorem dX8_pageOf_0 : decode cX8_pageOf 0 = .ok (.aload_n 0, 1) := by decide +kernel
theorem dX8_pageOf_1 : decode cX8_pageOf 1 = .ok (.invokevirtual 124, 3) := by decide +kernel
theorem dX8_pageOf_4 : decode cX8_pageOf 4 = .ok (.iload_n 1, 1) := by decide +kernel
theorem dX8_pageOf_5 : decode cX8_pageOf 5 = .ok (.aload_n 0, 1) := by decide +kernel
theorem dX8_pageOf_6 : decode cX8_pageOf 6 = .ok (.getfield 21, 3) := by decide +kernel
theorem dX8_pageOf_9 : decode cX8_pageOf 9 = .ok (.getfield 127, 3) := by decide +kernel
theorem dX8_pageOf_12 : decode cX8_pageOf 12 = .ok (.invokestatic 62, 3) := by decide +kernel
theorem dX8_pageOf_15 : decode cX8_pageOf 15 = .ok (.aload_n 0, 1) := by decide +kernel
theorem dX8_pageOf_16 : decode cX8_pageOf 16 = .ok (.getfield 30, 3) := by decide +kernel
theorem dX8_pageOf_19 : decode cX8_pageOf 19 = .ok (.getfield 154, 3) := by decide +kernel
theorem dX8_pageOf_22 : decode cX8_pageOf 22 = .ok (.iload_n 1, 1) := by decide +kernel
theorem dX8_pageOf_23 : decode cX8_pageOf 23 = .ok (.invokevirtual 87, 3) := by decide +kernel
theorem dX8_pageOf_26 : decode cX8_pageOf 26 = .ok (.ireturn, 1) := by decide +kernel
theorem dX8_linesOn_0 : decode cX8_linesOn 0 = .ok (.aload_n 0, 1) := by decide +kernel
theorem dX8_linesOn_1 : decode cX8_linesOn 1 = .ok (.invokevirtual 124, 3) := by decide +kernel
theorem dX8_linesOn_4 : decode cX8_linesOn 4 = .ok (.iload_n 1, 1) := by decide +kernel
theorem dX8_linesOn_5 : decode cX8_linesOn 5 = .ok (.aload_n 0, 1) := by decide +kernel
theorem dX8_linesOn_6 : decode cX8_linesOn 6 = .ok (.getfield 30, 3) := by decide +kernel
theorem dX8_linesOn_9 : decode cX8_linesOn 9 = .ok (.getfield 153, 3) := by decide +kernel
theorem dX8_linesOn_12 : decode cX8_linesOn 12 = .ok (.invokestatic 62, 3) := by decide +kernel
theorem dX8_linesOn_15 : decode cX8_linesOn 15 = .ok (.aload_n 0, 1) := by decide +kernel
theorem dX8_linesOn_16 : decode cX8_linesOn 16 = .ok (.getfield 30, 3) := by decide +kernel
theorem dX8_linesOn_19 : decode cX8_linesOn 19 = .ok (.getfield 157, 3) := by decide +kernel
theorem dX8_linesOn_22 : decode cX8_linesOn 22 = .ok (.iload_n 1, 1) := by decide +kernel
theorem dX8_linesOn_23 : decode cX8_linesOn 23 = .ok (.iconst 1, 1) := by decide +kernel
theorem dX8_linesOn_24 : decode cX8_linesOn 24 = .ok (.iadd, 1) := by decide +kernel
theorem dX8_linesOn_25 : decode cX8_linesOn 25 = .ok (.invokevirtual 87, 3) := by decide +kernel
theorem dX8_linesOn_28 : decode cX8_linesOn 28 = .ok (.aload_n 0, 1) := by decide +kernel
theorem dX8_linesOn_29 : decode cX8_linesOn 29 = .ok (.getfield 30, 3) := by decide +kernel
theorem dX8_linesOn_32 : decode cX8_linesOn 32 = .ok (.getfield 157, 3) := by decide +kernel
theorem dX8_linesOn_35 : decode cX8_linesOn 35 = .ok (.iload_n 1, 1) := by decide +kernel
theorem dX8_linesOn_36 : decode cX8_linesOn 36 = .ok (.invokevirtual 87, 3) := by decide +kernel
theorem dX8_linesOn_39 : decode cX8_linesOn 39 = .ok (.isub, 1) := by decide +kernel
theorem dX8_linesOn_40 : decode cX8_linesOn 40 = .ok (.ireturn, 1) := by decide +kernel
theorem dX8_widows_0 : decode cX8_widows 0 = .ok (.aload_n 0, 1) := by decide +kernel
theorem dX8_widows_1 : decode cX8_widows 1 = .ok (.invokevirtual 124, 3) := by decide +kernel
theorem dX8_widows_4 : decode cX8_widows 4 = .ok (.aload_n 0, 1) := by decide +kernel
theorem dX8_widows_5 : decode cX8_widows 5 = .ok (.getfield 30, 3) := by decide +kernel
theorem dX8_widows_8 : decode cX8_widows 8 = .ok (.invokevirtual 158, 3) := by decide +kernel
theorem dX8_widows_11 : decode cX8_widows 11 = .ok (.ireturn, 1) := by decide +kernel
theorem dX8_orphans_0 : decode cX8_orphans 0 = .ok (.aload_n 0, 1) := by decide +kernel
theorem dX8_orphans_1 : decode cX8_orphans 1 = .ok (.invokevirtual 124, 3) := by decide +kernel
theorem dX8_orphans_4 : decode cX8_orphans 4 = .ok (.aload_n 0, 1) := by decide +kernel
theorem dX8_orphans_5 : decode cX8_orphans 5 = .ok (.getfield 30, 3) := by decide +kernel
theorem dX8_orphans_8 : decode cX8_orphans 8 = .ok (.invokevirtual 161, 3) := by decide +kernel
theorem dX8_orphans_11 : decode cX8_orphans 11 = .ok (.ireturn, 1) := by decide +kernel
theorem dX8_costFor_0 : decode cX8_costFor 0 = .ok (.iload_n 1, 1) := by decide +kernel
theorem dX8_costFor_1 : decode cX8_costFor 1 = .ok (.bipush 30, 2) := by decide +kernel
theorem dX8_costFor_3 : decode cX8_costFor 3 = .ok (.bipush 100, 2) := by decide +kernel
theorem dX8_costFor_5 : decode cX8_costFor 5 = .ok (.invokestatic 66, 3) := by decide +kernel
theorem dX8_costFor_8 : decode cX8_costFor 8 = .ok (.aload_n 0, 1) := by decide +kernel
theorem dX8_costFor_9 : decode cX8_costFor 9 = .ok (.getfield 34, 3) := by decide +kernel
theorem dX8_costFor_12 : decode cX8_costFor 12 = .ok (.aload_n 0, 1) := by decide +kernel
theorem dX8_costFor_13 : decode cX8_costFor 13 = .ok (.getfield 10, 3) := by decide +kernel
theorem dX8_costFor_16 : decode cX8_costFor 16 = .ok (.invokevirtual 164, 3) := by decide +kernel
theorem dX8_costFor_19 : decode cX8_costFor 19 = .ok (.aload_n 0, 1) := by decide +kernel
theorem dX8_costFor_20 : decode cX8_costFor 20 = .ok (.getfield 34, 3) := by decide +kernel
theorem dX8_costFor_23 : decode cX8_costFor 23 = .ok (.iload_n 1, 1) := by decide +kernel
theorem dX8_costFor_24 : decode cX8_costFor 24 = .ok (.putfield 103, 3) := by decide +kernel
theorem dX8_costFor_27 : decode cX8_costFor 27 = .ok (.aload_n 0, 1) := by decide +kernel
theorem dX8_costFor_28 : decode cX8_costFor 28 = .ok (.getfield 37, 3) := by decide +kernel
theorem dX8_costFor_31 : decode cX8_costFor 31 = .ok (.iload_n 2, 1) := by decide +kernel
theorem dX8_costFor_32 : decode cX8_costFor 32 = .ok (.invokevirtual 167, 3) := by decide +kernel
theorem dX8_costFor_35 : decode cX8_costFor 35 = .ok (.aload_n 0, 1) := by decide +kernel
theorem dX8_costFor_36 : decode cX8_costFor 36 = .ok (.getfield 37, 3) := by decide +kernel
theorem dX8_costFor_39 : decode cX8_costFor 39 = .ok (.invokevirtual 150, 3) := by decide +kernel
theorem dX8_costFor_42 : decode cX8_costFor 42 = .ok (.ireturn, 1) := by decide +kernel
theorem dX8_bestColumn_0 : decode cX8_bestColumn 0 = .ok (.iload_n 1, 1) := by decide +kernel
theorem dX8_bestColumn_1 : decode cX8_bestColumn 1 = .ok (.bipush 30, 2) := by decide +kernel
theorem dX8_bestColumn_3 : decode cX8_bestColumn 3 = .ok (.bipush 100, 2) := by decide +kernel
theorem dX8_bestColumn_5 : decode cX8_bestColumn 5 = .ok (.invokestatic 66, 3) := by decide +kernel
theorem dX8_bestColumn_8 : decode cX8_bestColumn 8 = .ok (.iload_n 2, 1) := by decide +kernel
theorem dX8_bestColumn_9 : decode cX8_bestColumn 9 = .ok (.iload_n 1, 1) := by decide +kernel
theorem dX8_bestColumn_10 : decode cX8_bestColumn 10 = .ok (.bipush 100, 2) := by decide +kernel
theorem dX8_bestColumn_12 : decode cX8_bestColumn 12 = .ok (.invokestatic 66, 3) := by decide +kernel
theorem dX8_bestColumn_15 : decode cX8_bestColumn 15 = .ok (.aload_n 0, 1) := by decide +kernel
theorem dX8_bestColumn_16 : decode cX8_bestColumn 16 = .ok (.getfield 34, 3) := by decide +kernel
theorem dX8_bestColumn_19 : decode cX8_bestColumn 19 = .ok (.aload_n 0, 1) := by decide +kernel
theorem dX8_bestColumn_20 : decode cX8_bestColumn 20 = .ok (.getfield 10, 3) := by decide +kernel
theorem dX8_bestColumn_23 : decode cX8_bestColumn 23 = .ok (.invokevirtual 164, 3) := by decide +kernel
theorem dX8_bestColumn_26 : decode cX8_bestColumn 26 = .ok (.iload_n 1, 1) := by decide +kernel
theorem dX8_bestColumn_27 : decode cX8_bestColumn 27 = .ok (.istore_n 3, 1) := by decide +kernel
theorem dX8_bestColumn_28 : decode cX8_bestColumn 28 = .ok (.ldc 173, 2) := by decide +kernel
theorem dX8_bestColumn_30 : decode cX8_bestColumn 30 = .ok (.istore 4, 2) := by decide +kernel
theorem dX8_bestColumn_32 : decode cX8_bestColumn 32 = .ok (.iload_n 1, 1) := by decide +kernel
theorem dX8_bestColumn_33 : decode cX8_bestColumn 33 = .ok (.istore 5, 2) := by decide +kernel
theorem dX8_bestColumn_35 : decode cX8_bestColumn 35 = .ok (.iload 5, 2) := by decide +kernel
theorem dX8_bestColumn_37 : decode cX8_bestColumn 37 = .ok (.iload_n 2, 1) := by decide +kernel
theorem dX8_bestColumn_38 : decode cX8_bestColumn 38 = .ok (.if_icmp .gt 54, 3) := by decide +kernel
theorem dX8_bestColumn_41 : decode cX8_bestColumn 41 = .ok (.iload 4, 2) := by decide +kernel
theorem dX8_bestColumn_43 : decode cX8_bestColumn 43 = .ok (.ifCond .le 49, 3) := by decide +kernel
theorem dX8_bestColumn_46 : decode cX8_bestColumn 46 = .ok (.aload_n 0, 1) := by decide +kernel
theorem dX8_bestColumn_47 : decode cX8_bestColumn 47 = .ok (.getfield 34, 3) := by decide +kernel
theorem dX8_bestColumn_50 : decode cX8_bestColumn 50 = .ok (.iload 5, 2) := by decide +kernel
theorem dX8_bestColumn_52 : decode cX8_bestColumn 52 = .ok (.putfield 103, 3) := by decide +kernel
theorem dX8_bestColumn_55 : decode cX8_bestColumn 55 = .ok (.aload_n 0, 1) := by decide +kernel
theorem dX8_bestColumn_56 : decode cX8_bestColumn 56 = .ok (.getfield 37, 3) := by decide +kernel
theorem dX8_bestColumn_59 : decode cX8_bestColumn 59 = .ok (.iconst 1, 1) := by decide +kernel
theorem dX8_bestColumn_60 : decode cX8_bestColumn 60 = .ok (.invokevirtual 167, 3) := by decide +kernel
theorem dX8_bestColumn_63 : decode cX8_bestColumn 63 = .ok (.aload_n 0, 1) := by decide +kernel
theorem dX8_bestColumn_64 : decode cX8_bestColumn 64 = .ok (.getfield 37, 3) := by decide +kernel
theorem dX8_bestColumn_67 : decode cX8_bestColumn 67 = .ok (.invokevirtual 150, 3) := by decide +kernel
theorem dX8_bestColumn_70 : decode cX8_bestColumn 70 = .ok (.istore 6, 2) := by decide +kernel
theorem dX8_bestColumn_72 : decode cX8_bestColumn 72 = .ok (.iload 6, 2) := by decide +kernel
theorem dX8_bestColumn_74 : decode cX8_bestColumn 74 = .ok (.iload 4, 2) := by decide +kernel
theorem dX8_bestColumn_76 : decode cX8_bestColumn 76 = .ok (.if_icmp .ge 10, 3) := by decide +kernel
theorem dX8_bestColumn_79 : decode cX8_bestColumn 79 = .ok (.iload 6, 2) := by decide +kernel
theorem dX8_bestColumn_81 : decode cX8_bestColumn 81 = .ok (.istore 4, 2) := by decide +kernel
theorem dX8_bestColumn_83 : decode cX8_bestColumn 83 = .ok (.iload 5, 2) := by decide +kernel
theorem dX8_bestColumn_85 : decode cX8_bestColumn 85 = .ok (.istore_n 3, 1) := by decide +kernel
theorem dX8_bestColumn_86 : decode cX8_bestColumn 86 = .ok (.iinc 5 1, 3) := by decide +kernel
theorem dX8_bestColumn_89 : decode cX8_bestColumn 89 = .ok (.goto (-54), 3) := by decide +kernel
theorem dX8_bestColumn_92 : decode cX8_bestColumn 92 = .ok (.iload_n 3, 1) := by decide +kernel
theorem dX8_bestColumn_93 : decode cX8_bestColumn 93 = .ok (.ireturn, 1) := by decide +kernel
theorem dX8_saving_0 : decode cX8_saving 0 = .ok (.aload_n 0, 1) := by decide +kernel
theorem dX8_saving_1 : decode cX8_saving 1 = .ok (.getfield 34, 3) := by decide +kernel
theorem dX8_saving_4 : decode cX8_saving 4 = .ok (.aload_n 0, 1) := by decide +kernel
theorem dX8_saving_5 : decode cX8_saving 5 = .ok (.getfield 10, 3) := by decide +kernel
theorem dX8_saving_8 : decode cX8_saving 8 = .ok (.invokevirtual 164, 3) := by decide +kernel
theorem dX8_saving_11 : decode cX8_saving 11 = .ok (.aload_n 0, 1) := by decide +kernel
theorem dX8_saving_12 : decode cX8_saving 12 = .ok (.getfield 37, 3) := by decide +kernel
theorem dX8_saving_15 : decode cX8_saving 15 = .ok (.iconst 0, 1) := by decide +kernel
theorem dX8_saving_16 : decode cX8_saving 16 = .ok (.invokevirtual 167, 3) := by decide +kernel
theorem dX8_saving_19 : decode cX8_saving 19 = .ok (.aload_n 0, 1) := by decide +kernel
theorem dX8_saving_20 : decode cX8_saving 20 = .ok (.getfield 37, 3) := by decide +kernel
theorem dX8_saving_23 : decode cX8_saving 23 = .ok (.invokevirtual 150, 3) := by decide +kernel
theorem dX8_saving_26 : decode cX8_saving 26 = .ok (.istore_n 1, 1) := by decide +kernel
theorem dX8_saving_27 : decode cX8_saving 27 = .ok (.aload_n 0, 1) := by decide +kernel
theorem dX8_saving_28 : decode cX8_saving 28 = .ok (.getfield 37, 3) := by decide +kernel
theorem dX8_saving_31 : decode cX8_saving 31 = .ok (.iconst 1, 1) := by decide +kernel
theorem dX8_saving_32 : decode cX8_saving 32 = .ok (.invokevirtual 167, 3) := by decide +kernel
theorem dX8_saving_35 : decode cX8_saving 35 = .ok (.iload_n 1, 1) := by decide +kernel
theorem dX8_saving_36 : decode cX8_saving 36 = .ok (.aload_n 0, 1) := by decide +kernel
theorem dX8_saving_37 : decode cX8_saving 37 = .ok (.getfield 37, 3) := by decide +kernel
theorem dX8_saving_40 : decode cX8_saving 40 = .ok (.invokevirtual 150, 3) := by decide +kernel
theorem dX8_saving_43 : decode cX8_saving 43 = .ok (.isub, 1) := by decide +kernel
theorem dX8_saving_44 : decode cX8_saving 44 = .ok (.ireturn, 1) := by decide +kernel
theorem dX8_costIfMarked_0 : decode cX8_costIfMarked 0 = .ok (.iload_n 1, 1) := by decide +kernel
theorem dX8_costIfMarked_1 : decode cX8_costIfMarked 1 = .ok (.aload_n 0, 1) := by decide +kernel
theorem dX8_costIfMarked_2 : decode cX8_costIfMarked 2 = .ok (.getfield 10, 3) := by decide +kernel
theorem dX8_costIfMarked_5 : decode cX8_costIfMarked 5 = .ok (.getfield 58, 3) := by decide +kernel
theorem dX8_costIfMarked_8 : decode cX8_costIfMarked 8 = .ok (.invokestatic 62, 3) := by decide +kernel
theorem dX8_costIfMarked_11 : decode cX8_costIfMarked 11 = .ok (.iload_n 2, 1) := by decide +kernel
theorem dX8_costIfMarked_12 : decode cX8_costIfMarked 12 = .ok (.iconst 0, 1) := by decide +kernel
theorem dX8_costIfMarked_13 : decode cX8_costIfMarked 13 = .ok (.iconst 2, 1) := by decide +kernel
theorem dX8_costIfMarked_14 : decode cX8_costIfMarked 14 = .ok (.invokestatic 66, 3) := by decide +kernel
theorem dX8_costIfMarked_17 : decode cX8_costIfMarked 17 = .ok (.aload_n 0, 1) := by decide +kernel
theorem dX8_costIfMarked_18 : decode cX8_costIfMarked 18 = .ok (.getfield 34, 3) := by decide +kernel
theorem dX8_costIfMarked_21 : decode cX8_costIfMarked 21 = .ok (.aload_n 0, 1) := by decide +kernel
theorem dX8_costIfMarked_22 : decode cX8_costIfMarked 22 = .ok (.getfield 10, 3) := by decide +kernel
theorem dX8_costIfMarked_25 : decode cX8_costIfMarked 25 = .ok (.invokevirtual 164, 3) := by decide +kernel
theorem dX8_costIfMarked_28 : decode cX8_costIfMarked 28 = .ok (.aload_n 0, 1) := by decide +kernel
theorem dX8_costIfMarked_29 : decode cX8_costIfMarked 29 = .ok (.getfield 34, 3) := by decide +kernel
theorem dX8_costIfMarked_32 : decode cX8_costIfMarked 32 = .ok (.getfield 97, 3) := by decide +kernel
theorem dX8_costIfMarked_35 : decode cX8_costIfMarked 35 = .ok (.iload_n 1, 1) := by decide +kernel
theorem dX8_costIfMarked_36 : decode cX8_costIfMarked 36 = .ok (.iload_n 2, 1) := by decide +kernel
theorem dX8_costIfMarked_37 : decode cX8_costIfMarked 37 = .ok (.invokevirtual 100, 3) := by decide +kernel
theorem dX8_costIfMarked_40 : decode cX8_costIfMarked 40 = .ok (.aload_n 0, 1) := by decide +kernel
theorem dX8_costIfMarked_41 : decode cX8_costIfMarked 41 = .ok (.getfield 37, 3) := by decide +kernel
theorem dX8_costIfMarked_44 : decode cX8_costIfMarked 44 = .ok (.aload_n 0, 1) := by decide +kernel
theorem dX8_costIfMarked_45 : decode cX8_costIfMarked 45 = .ok (.getfield 34, 3) := by decide +kernel
theorem dX8_costIfMarked_48 : decode cX8_costIfMarked 48 = .ok (.getfield 121, 3) := by decide +kernel
theorem dX8_costIfMarked_51 : decode cX8_costIfMarked 51 = .ok (.invokevirtual 167, 3) := by decide +kernel
theorem dX8_costIfMarked_54 : decode cX8_costIfMarked 54 = .ok (.aload_n 0, 1) := by decide +kernel
theorem dX8_costIfMarked_55 : decode cX8_costIfMarked 55 = .ok (.getfield 37, 3) := by decide +kernel
theorem dX8_costIfMarked_58 : decode cX8_costIfMarked 58 = .ok (.invokevirtual 150, 3) := by decide +kernel
theorem dX8_costIfMarked_61 : decode cX8_costIfMarked 61 = .ok (.ireturn, 1) := by decide +kernel
theorem dX8_undo_0 : decode cX8_undo 0 = .ok (.aload_n 0, 1) := by decide +kernel
theorem dX8_undo_1 : decode cX8_undo 1 = .ok (.getfield 50, 3) := by decide +kernel
theorem dX8_undo_4 : decode cX8_undo 4 = .ok (.getfield 201, 3) := by decide +kernel
theorem dX8_undo_7 : decode cX8_undo 7 = .ok (.ifCond .gt 13, 3) := by decide +kernel
theorem dX8_undo_10 : decode cX8_undo 10 = .ok (.new 70, 3) := by decide +kernel
theorem dX8_undo_13 : decode cX8_undo 13 = .ok (.dup, 1) := by decide +kernel
theorem dX8_undo_14 : decode cX8_undo 14 = .ok (.ldc 202, 2) := by decide +kernel
theorem dX8_undo_16 : decode cX8_undo 16 = .ok (.invokespecial 74, 3) := by decide +kernel
theorem dX8_undo_19 : decode cX8_undo 19 = .ok (.athrow, 1) := by decide +kernel
theorem dX8_undo_20 : decode cX8_undo 20 = .ok (.aload_n 0, 1) := by decide +kernel
theorem dX8_undo_21 : decode cX8_undo 21 = .ok (.getfield 50, 3) := by decide +kernel
theorem dX8_undo_24 : decode cX8_undo 24 = .ok (.aload_n 0, 1) := by decide +kernel
theorem dX8_undo_25 : decode cX8_undo 25 = .ok (.getfield 10, 3) := by decide +kernel
theorem dX8_undo_28 : decode cX8_undo 28 = .ok (.invokevirtual 204, 3) := by decide +kernel
theorem dX8_undo_31 : decode cX8_undo 31 = .ok (.aload_n 0, 1) := by decide +kernel
theorem dX8_undo_32 : decode cX8_undo 32 = .ok (.iconst 1, 1) := by decide +kernel
theorem dX8_undo_33 : decode cX8_undo 33 = .ok (.putfield 54, 3) := by decide +kernel
theorem dX8_undo_36 : decode cX8_undo 36 = .ok (.aload_n 0, 1) := by decide +kernel
theorem dX8_undo_37 : decode cX8_undo 37 = .ok (.getfield 50, 3) := by decide +kernel
theorem dX8_undo_40 : decode cX8_undo 40 = .ok (.getfield 201, 3) := by decide +kernel
theorem dX8_undo_43 : decode cX8_undo 43 = .ok (.ireturn, 1) := by decide +kernel
theorem dX8_savedStates_0 : decode cX8_savedStates 0 = .ok (.aload_n 0, 1) := by decide +kernel
theorem dX8_savedStates_1 : decode cX8_savedStates 1 = .ok (.getfield 50, 3) := by decide +kernel
theorem dX8_savedStates_4 : decode cX8_savedStates 4 = .ok (.getfield 201, 3) := by decide +kernel
theorem dX8_savedStates_7 : decode cX8_savedStates 7 = .ok (.ireturn, 1) := by decide +kernel
theorem dX8_requireIndex_0 : decode cX8_requireIndex 0 = .ok (.iload_n 0, 1) := by decide +kernel
theorem dX8_requireIndex_1 : decode cX8_requireIndex 1 = .ok (.ifCond .lt 8, 3) := by decide +kernel
theorem dX8_requireIndex_4 : decode cX8_requireIndex 4 = .ok (.iload_n 0, 1) := by decide +kernel
theorem dX8_requireIndex_5 : decode cX8_requireIndex 5 = .ok (.iload_n 1, 1) := by decide +kernel
theorem dX8_requireIndex_6 : decode cX8_requireIndex 6 = .ok (.if_icmp .lt 13, 3) := by decide +kernel
theorem dX8_requireIndex_9 : decode cX8_requireIndex 9 = .ok (.new 218, 3) := by decide +kernel
theorem dX8_requireIndex_12 : decode cX8_requireIndex 12 = .ok (.dup, 1) := by decide +kernel
theorem dX8_requireIndex_13 : decode cX8_requireIndex 13 = .ok (.ldc 220, 2) := by decide +kernel
theorem dX8_requireIndex_15 : decode cX8_requireIndex 15 = .ok (.invokespecial 222, 3) := by decide +kernel
theorem dX8_requireIndex_18 : decode cX8_requireIndex 18 = .ok (.athrow, 1) := by decide +kernel
theorem dX8_requireIndex_19 : decode cX8_requireIndex 19 = .ok (.return_, 1) := by decide +kernel
theorem dX8_requireRange_0 : decode cX8_requireRange 0 = .ok (.iload_n 0, 1) := by decide +kernel
theorem dX8_requireRange_1 : decode cX8_requireRange 1 = .ok (.iload_n 1, 1) := by decide +kernel
theorem dX8_requireRange_2 : decode cX8_requireRange 2 = .ok (.if_icmp .lt 8, 3) := by decide +kernel
theorem dX8_requireRange_5 : decode cX8_requireRange 5 = .ok (.iload_n 0, 1) := by decide +kernel
theorem dX8_requireRange_6 : decode cX8_requireRange 6 = .ok (.iload_n 2, 1) := by decide +kernel
theorem dX8_requireRange_7 : decode cX8_requireRange 7 = .ok (.if_icmp .le 13, 3) := by decide +kernel
theorem dX8_requireRange_10 : decode cX8_requireRange 10 = .ok (.new 189, 3) := by decide +kernel
theorem dX8_requireRange_13 : decode cX8_requireRange 13 = .ok (.dup, 1) := by decide +kernel
theorem dX8_requireRange_14 : decode cX8_requireRange 14 = .ok (.ldc 223, 2) := by decide +kernel
theorem dX8_requireRange_16 : decode cX8_requireRange 16 = .ok (.invokespecial 193, 3) := by decide +kernel
theorem dX8_requireRange_19 : decode cX8_requireRange 19 = .ok (.athrow, 1) := by decide +kernel
theorem dX8_requireRange_20 : decode cX8_requireRange 20 = .ok (.return_, 1) := by decide +kernel
theorem dX8_prepareChange_0 : decode cX8_prepareChange 0 = .ok (.aload_n 0, 1) := by decide +kernel
theorem dX8_prepareChange_1 : decode cX8_prepareChange 1 = .ok (.getfield 50, 3) := by decide +kernel
theorem dX8_prepareChange_4 : decode cX8_prepareChange 4 = .ok (.aload_n 0, 1) := by decide +kernel
theorem dX8_prepareChange_5 : decode cX8_prepareChange 5 = .ok (.getfield 10, 3) := by decide +kernel
theorem dX8_prepareChange_8 : decode cX8_prepareChange 8 = .ok (.invokevirtual 225, 3) := by decide +kernel
theorem dX8_prepareChange_11 : decode cX8_prepareChange 11 = .ok (.aload_n 0, 1) := by decide +kernel
theorem dX8_prepareChange_12 : decode cX8_prepareChange 12 = .ok (.iconst 1, 1) := by decide +kernel
theorem dX8_prepareChange_13 : decode cX8_prepareChange 13 = .ok (.putfield 54, 3) := by decide +kernel
theorem dX8_prepareChange_16 : decode cX8_prepareChange 16 = .ok (.return_, 1) := by decide +kernel
theorem dX8_refresh_0 : decode cX8_refresh 0 = .ok (.aload_n 0, 1) := by decide +kernel
theorem dX8_refresh_1 : decode cX8_refresh 1 = .ok (.getfield 54, 3) := by decide +kernel
theorem dX8_refresh_4 : decode cX8_refresh 4 = .ok (.ifCond .eq 29, 3) := by decide +kernel
theorem dX8_refresh_7 : decode cX8_refresh 7 = .ok (.aload_n 0, 1) := by decide +kernel
theorem dX8_refresh_8 : decode cX8_refresh 8 = .ok (.getfield 21, 3) := by decide +kernel
theorem dX8_refresh_11 : decode cX8_refresh 11 = .ok (.aload_n 0, 1) := by decide +kernel
theorem dX8_refresh_12 : decode cX8_refresh 12 = .ok (.getfield 10, 3) := by decide +kernel
theorem dX8_refresh_15 : decode cX8_refresh 15 = .ok (.getfield 121, 3) := by decide +kernel
theorem dX8_refresh_18 : decode cX8_refresh 18 = .ok (.invokevirtual 167, 3) := by decide +kernel
theorem dX8_refresh_21 : decode cX8_refresh 21 = .ok (.aload_n 0, 1) := by decide +kernel
theorem dX8_refresh_22 : decode cX8_refresh 22 = .ok (.getfield 30, 3) := by decide +kernel
theorem dX8_refresh_25 : decode cX8_refresh 25 = .ok (.invokevirtual 228, 3) := by decide +kernel
theorem dX8_refresh_28 : decode cX8_refresh 28 = .ok (.aload_n 0, 1) := by decide +kernel
theorem dX8_refresh_29 : decode cX8_refresh 29 = .ok (.iconst 0, 1) := by decide +kernel
theorem dX8_refresh_30 : decode cX8_refresh 30 = .ok (.putfield 54, 3) := by decide +kernel
theorem dX8_refresh_33 : decode cX8_refresh 33 = .ok (.return_, 1) := by decide +kernel
