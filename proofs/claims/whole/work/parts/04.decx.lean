theorem dX0_init_0 : decode cX0_init 0 = .ok (.aload_n 0, 1) := by decide +kernel
theorem dX0_init_1 : decode cX0_init 1 = .ok (.invokespecial 3, 3) := by decide +kernel
theorem dX0_init_4 : decode cX0_init 4 = .ok (.aload_n 0, 1) := by decide +kernel
theorem dX0_init_5 : decode cX0_init 5 = .ok (.new 9, 3) := by decide +kernel
theorem dX0_init_8 : decode cX0_init 8 = .ok (.dup, 1) := by decide +kernel
theorem dX0_init_9 : decode cX0_init 9 = .ok (.bipush 60, 2) := by decide +kernel
theorem dX0_init_11 : decode cX0_init 11 = .ok (.invokespecial 11, 3) := by decide +kernel
theorem dX0_init_14 : decode cX0_init 14 = .ok (.putfield 14, 3) := by decide +kernel
theorem dX0_init_17 : decode cX0_init 17 = .ok (.aload_n 0, 1) := by decide +kernel
theorem dX0_init_18 : decode cX0_init 18 = .ok (.new 9, 3) := by decide +kernel
theorem dX0_init_21 : decode cX0_init 21 = .ok (.dup, 1) := by decide +kernel
theorem dX0_init_22 : decode cX0_init 22 = .ok (.bipush 60, 2) := by decide +kernel
theorem dX0_init_24 : decode cX0_init 24 = .ok (.invokespecial 11, 3) := by decide +kernel
theorem dX0_init_27 : decode cX0_init 27 = .ok (.putfield 20, 3) := by decide +kernel
theorem dX0_init_30 : decode cX0_init 30 = .ok (.aload_n 0, 1) := by decide +kernel
theorem dX0_init_31 : decode cX0_init 31 = .ok (.new 9, 3) := by decide +kernel
theorem dX0_init_34 : decode cX0_init 34 = .ok (.dup, 1) := by decide +kernel
theorem dX0_init_35 : decode cX0_init 35 = .ok (.bipush 60, 2) := by decide +kernel
theorem dX0_init_37 : decode cX0_init 37 = .ok (.invokespecial 11, 3) := by decide +kernel
theorem dX0_init_40 : decode cX0_init 40 = .ok (.putfield 23, 3) := by decide +kernel
theorem dX0_init_43 : decode cX0_init 43 = .ok (.aload_n 0, 1) := by decide +kernel
theorem dX0_init_44 : decode cX0_init 44 = .ok (.iconst 0, 1) := by decide +kernel
theorem dX0_init_45 : decode cX0_init 45 = .ok (.putfield 26, 3) := by decide +kernel
theorem dX0_init_48 : decode cX0_init 48 = .ok (.aload_n 0, 1) := by decide +kernel
theorem dX0_init_49 : decode cX0_init 49 = .ok (.iconst 0, 1) := by decide +kernel
theorem dX0_init_50 : decode cX0_init 50 = .ok (.putfield 30, 3) := by decide +kernel
theorem dX0_init_53 : decode cX0_init 53 = .ok (.return_, 1) := by decide +kernel
theorem dX0_add_0 : decode cX0_add 0 = .ok (.aload_n 0, 1) := by decide +kernel
theorem dX0_add_1 : decode cX0_add 1 = .ok (.getfield 26, 3) := by decide +kernel
theorem dX0_add_4 : decode cX0_add 4 = .ok (.bipush 60, 2) := by decide +kernel
theorem dX0_add_6 : decode cX0_add 6 = .ok (.if_icmp .ge 25, 3) := by decide +kernel
theorem dX0_add_9 : decode cX0_add 9 = .ok (.aload_n 0, 1) := by decide +kernel
theorem dX0_add_10 : decode cX0_add 10 = .ok (.getfield 14, 3) := by decide +kernel
theorem dX0_add_13 : decode cX0_add 13 = .ok (.aload_n 0, 1) := by decide +kernel
theorem dX0_add_14 : decode cX0_add 14 = .ok (.getfield 26, 3) := by decide +kernel
theorem dX0_add_17 : decode cX0_add 17 = .ok (.iload_n 1, 1) := by decide +kernel
theorem dX0_add_18 : decode cX0_add 18 = .ok (.invokevirtual 33, 3) := by decide +kernel
theorem dX0_add_21 : decode cX0_add 21 = .ok (.aload_n 0, 1) := by decide +kernel
theorem dX0_add_22 : decode cX0_add 22 = .ok (.dup, 1) := by decide +kernel
theorem dX0_add_23 : decode cX0_add 23 = .ok (.getfield 26, 3) := by decide +kernel
theorem dX0_add_26 : decode cX0_add 26 = .ok (.iconst 1, 1) := by decide +kernel
theorem dX0_add_27 : decode cX0_add 27 = .ok (.iadd, 1) := by decide +kernel
theorem dX0_add_28 : decode cX0_add 28 = .ok (.putfield 26, 3) := by decide +kernel
theorem dX0_add_31 : decode cX0_add 31 = .ok (.return_, 1) := by decide +kernel
theorem dX0_scan_0 : decode cX0_scan 0 = .ok (.aload_n 0, 1) := by decide +kernel
theorem dX0_scan_1 : decode cX0_scan 1 = .ok (.iconst 0, 1) := by decide +kernel
theorem dX0_scan_2 : decode cX0_scan 2 = .ok (.invokevirtual 37, 3) := by decide +kernel
theorem dX0_scan_5 : decode cX0_scan 5 = .ok (.iconst 0, 1) := by decide +kernel
theorem dX0_scan_6 : decode cX0_scan 6 = .ok (.istore_n 1, 1) := by decide +kernel
theorem dX0_scan_7 : decode cX0_scan 7 = .ok (.iload_n 1, 1) := by decide +kernel
theorem dX0_scan_8 : decode cX0_scan 8 = .ok (.aload_n 0, 1) := by decide +kernel
theorem dX0_scan_9 : decode cX0_scan 9 = .ok (.getfield 26, 3) := by decide +kernel
theorem dX0_scan_12 : decode cX0_scan 12 = .ok (.if_icmp .ge 26, 3) := by decide +kernel
theorem dX0_scan_15 : decode cX0_scan 15 = .ok (.aload_n 0, 1) := by decide +kernel
theorem dX0_scan_16 : decode cX0_scan 16 = .ok (.aload_n 0, 1) := by decide +kernel
theorem dX0_scan_17 : decode cX0_scan 17 = .ok (.getfield 14, 3) := by decide +kernel
theorem dX0_scan_20 : decode cX0_scan 20 = .ok (.iload_n 1, 1) := by decide +kernel
theorem dX0_scan_21 : decode cX0_scan 21 = .ok (.invokevirtual 40, 3) := by decide +kernel
theorem dX0_scan_24 : decode cX0_scan 24 = .ok (.invokevirtual 44, 3) := by decide +kernel
theorem dX0_scan_27 : decode cX0_scan 27 = .ok (.ifCond .ne 5, 3) := by decide +kernel
theorem dX0_scan_30 : decode cX0_scan 30 = .ok (.iload_n 1, 1) := by decide +kernel
theorem dX0_scan_31 : decode cX0_scan 31 = .ok (.ireturn, 1) := by decide +kernel
theorem dX0_scan_32 : decode cX0_scan 32 = .ok (.iinc 1 1, 3) := by decide +kernel
theorem dX0_scan_35 : decode cX0_scan 35 = .ok (.goto (-28), 3) := by decide +kernel
theorem dX0_scan_38 : decode cX0_scan 38 = .ok (.aload_n 0, 1) := by decide +kernel
theorem dX0_scan_39 : decode cX0_scan 39 = .ok (.getfield 26, 3) := by decide +kernel
theorem dX0_scan_42 : decode cX0_scan 42 = .ok (.ireturn, 1) := by decide +kernel
theorem dX0_endsInWord_0 : decode cX0_endsInWord 0 = .ok (.aload_n 0, 1) := by decide +kernel
theorem dX0_endsInWord_1 : decode cX0_endsInWord 1 = .ok (.getfield 20, 3) := by decide +kernel
theorem dX0_endsInWord_4 : decode cX0_endsInWord 4 = .ok (.aload_n 0, 1) := by decide +kernel
theorem dX0_endsInWord_5 : decode cX0_endsInWord 5 = .ok (.getfield 30, 3) := by decide +kernel
theorem dX0_endsInWord_8 : decode cX0_endsInWord 8 = .ok (.invokevirtual 40, 3) := by decide +kernel
theorem dX0_endsInWord_11 : decode cX0_endsInWord 11 = .ok (.ifCond .le 7, 3) := by decide +kernel
theorem dX0_endsInWord_14 : decode cX0_endsInWord 14 = .ok (.iconst 1, 1) := by decide +kernel
theorem dX0_endsInWord_15 : decode cX0_endsInWord 15 = .ok (.goto 4, 3) := by decide +kernel
theorem dX0_endsInWord_18 : decode cX0_endsInWord 18 = .ok (.iconst 0, 1) := by decide +kernel
theorem dX0_endsInWord_19 : decode cX0_endsInWord 19 = .ok (.ireturn, 1) := by decide +kernel
theorem dX0_countWords_0 : decode cX0_countWords 0 = .ok (.aload_n 0, 1) := by decide +kernel
theorem dX0_countWords_1 : decode cX0_countWords 1 = .ok (.getfield 30, 3) := by decide +kernel
theorem dX0_countWords_4 : decode cX0_countWords 4 = .ok (.iconst 1, 1) := by decide +kernel
theorem dX0_countWords_5 : decode cX0_countWords 5 = .ok (.iadd, 1) := by decide +kernel
theorem dX0_countWords_6 : decode cX0_countWords 6 = .ok (.ireturn, 1) := by decide +kernel
theorem dX0_beginWord_0 : decode cX0_beginWord 0 = .ok (.aload_n 0, 1) := by decide +kernel
theorem dX0_beginWord_1 : decode cX0_beginWord 1 = .ok (.iload_n 1, 1) := by decide +kernel
theorem dX0_beginWord_2 : decode cX0_beginWord 2 = .ok (.putfield 30, 3) := by decide +kernel
theorem dX0_beginWord_5 : decode cX0_beginWord 5 = .ok (.aload_n 0, 1) := by decide +kernel
theorem dX0_beginWord_6 : decode cX0_beginWord 6 = .ok (.getfield 20, 3) := by decide +kernel
theorem dX0_beginWord_9 : decode cX0_beginWord 9 = .ok (.iload_n 1, 1) := by decide +kernel
theorem dX0_beginWord_10 : decode cX0_beginWord 10 = .ok (.iconst 0, 1) := by decide +kernel
theorem dX0_beginWord_11 : decode cX0_beginWord 11 = .ok (.invokevirtual 33, 3) := by decide +kernel
theorem dX0_beginWord_14 : decode cX0_beginWord 14 = .ok (.aload_n 0, 1) := by decide +kernel
theorem dX0_beginWord_15 : decode cX0_beginWord 15 = .ok (.getfield 23, 3) := by decide +kernel
theorem dX0_beginWord_18 : decode cX0_beginWord 18 = .ok (.iload_n 1, 1) := by decide +kernel
theorem dX0_beginWord_19 : decode cX0_beginWord 19 = .ok (.iconst 0, 1) := by decide +kernel
theorem dX0_beginWord_20 : decode cX0_beginWord 20 = .ok (.invokevirtual 33, 3) := by decide +kernel
theorem dX0_beginWord_23 : decode cX0_beginWord 23 = .ok (.return_, 1) := by decide +kernel
theorem dX0_take_0 : decode cX0_take 0 = .ok (.iload_n 1, 1) := by decide +kernel
theorem dX0_take_1 : decode cX0_take 1 = .ok (.bipush 48, 2) := by decide +kernel
theorem dX0_take_3 : decode cX0_take 3 = .ok (.if_icmp .lt 18, 3) := by decide +kernel
theorem dX0_take_6 : decode cX0_take 6 = .ok (.iload_n 1, 1) := by decide +kernel
theorem dX0_take_7 : decode cX0_take 7 = .ok (.bipush 57, 2) := by decide +kernel
theorem dX0_take_9 : decode cX0_take 9 = .ok (.if_icmp .gt 12, 3) := by decide +kernel
theorem dX0_take_12 : decode cX0_take 12 = .ok (.aload_n 0, 1) := by decide +kernel
theorem dX0_take_13 : decode cX0_take 13 = .ok (.iload_n 1, 1) := by decide +kernel
theorem dX0_take_14 : decode cX0_take 14 = .ok (.bipush 48, 2) := by decide +kernel
theorem dX0_take_16 : decode cX0_take 16 = .ok (.isub, 1) := by decide +kernel
theorem dX0_take_17 : decode cX0_take 17 = .ok (.invokevirtual 48, 3) := by decide +kernel
theorem dX0_take_20 : decode cX0_take 20 = .ok (.ireturn, 1) := by decide +kernel
theorem dX0_take_21 : decode cX0_take 21 = .ok (.aload_n 0, 1) := by decide +kernel
theorem dX0_take_22 : decode cX0_take 22 = .ok (.invokevirtual 51, 3) := by decide +kernel
theorem dX0_take_25 : decode cX0_take 25 = .ok (.ifCond .ne 5, 3) := by decide +kernel
theorem dX0_take_28 : decode cX0_take 28 = .ok (.iconst 0, 1) := by decide +kernel
theorem dX0_take_29 : decode cX0_take 29 = .ok (.ireturn, 1) := by decide +kernel
theorem dX0_take_30 : decode cX0_take 30 = .ok (.iload_n 1, 1) := by decide +kernel
theorem dX0_take_31 : decode cX0_take 31 = .ok (.bipush 44, 2) := by decide +kernel
theorem dX0_take_33 : decode cX0_take 33 = .ok (.if_icmp .ne 15, 3) := by decide +kernel
theorem dX0_take_36 : decode cX0_take 36 = .ok (.aload_n 0, 1) := by decide +kernel
theorem dX0_take_37 : decode cX0_take 37 = .ok (.aload_n 0, 1) := by decide +kernel
theorem dX0_take_38 : decode cX0_take 38 = .ok (.getfield 30, 3) := by decide +kernel
theorem dX0_take_41 : decode cX0_take 41 = .ok (.iconst 1, 1) := by decide +kernel
theorem dX0_take_42 : decode cX0_take 42 = .ok (.iadd, 1) := by decide +kernel
theorem dX0_take_43 : decode cX0_take 43 = .ok (.invokevirtual 37, 3) := by decide +kernel
theorem dX0_take_46 : decode cX0_take 46 = .ok (.iconst 1, 1) := by decide +kernel
theorem dX0_take_47 : decode cX0_take 47 = .ok (.ireturn, 1) := by decide +kernel
theorem dX0_take_48 : decode cX0_take 48 = .ok (.iload_n 1, 1) := by decide +kernel
theorem dX0_take_49 : decode cX0_take 49 = .ok (.bipush 33, 2) := by decide +kernel
theorem dX0_take_51 : decode cX0_take 51 = .ok (.if_icmp .ne 9, 3) := by decide +kernel
theorem dX0_take_54 : decode cX0_take 54 = .ok (.aload_n 0, 1) := by decide +kernel
theorem dX0_take_55 : decode cX0_take 55 = .ok (.iconst 1, 1) := by decide +kernel
theorem dX0_take_56 : decode cX0_take 56 = .ok (.invokevirtual 55, 3) := by decide +kernel
theorem dX0_take_59 : decode cX0_take 59 = .ok (.ireturn, 1) := by decide +kernel
theorem dX0_take_60 : decode cX0_take 60 = .ok (.iload_n 1, 1) := by decide +kernel
theorem dX0_take_61 : decode cX0_take 61 = .ok (.bipush 47, 2) := by decide +kernel
theorem dX0_take_63 : decode cX0_take 63 = .ok (.if_icmp .ne 15, 3) := by decide +kernel
theorem dX0_take_66 : decode cX0_take 66 = .ok (.aload_n 0, 1) := by decide +kernel
theorem dX0_take_67 : decode cX0_take 67 = .ok (.iconst 2, 1) := by decide +kernel
theorem dX0_take_68 : decode cX0_take 68 = .ok (.invokevirtual 55, 3) := by decide +kernel
theorem dX0_take_71 : decode cX0_take 71 = .ok (.ifCond .eq 7, 3) := by decide +kernel
theorem dX0_take_74 : decode cX0_take 74 = .ok (.iconst 1, 1) := by decide +kernel
theorem dX0_take_75 : decode cX0_take 75 = .ok (.goto 4, 3) := by decide +kernel
theorem dX0_take_78 : decode cX0_take 78 = .ok (.iconst 0, 1) := by decide +kernel
theorem dX0_take_79 : decode cX0_take 79 = .ok (.ireturn, 1) := by decide +kernel
theorem dX0_takeDigit_0 : decode cX0_takeDigit 0 = .ok (.bipush 10, 2) := by decide +kernel
theorem dX0_takeDigit_2 : decode cX0_takeDigit 2 = .ok (.aload_n 0, 1) := by decide +kernel
theorem dX0_takeDigit_3 : decode cX0_takeDigit 3 = .ok (.getfield 20, 3) := by decide +kernel
theorem dX0_takeDigit_6 : decode cX0_takeDigit 6 = .ok (.aload_n 0, 1) := by decide +kernel
theorem dX0_takeDigit_7 : decode cX0_takeDigit 7 = .ok (.getfield 30, 3) := by decide +kernel
theorem dX0_takeDigit_10 : decode cX0_takeDigit 10 = .ok (.invokevirtual 40, 3) := by decide +kernel
theorem dX0_takeDigit_13 : decode cX0_takeDigit 13 = .ok (.imul, 1) := by decide +kernel
theorem dX0_takeDigit_14 : decode cX0_takeDigit 14 = .ok (.iload_n 1, 1) := by decide +kernel
theorem dX0_takeDigit_15 : decode cX0_takeDigit 15 = .ok (.iadd, 1) := by decide +kernel
theorem dX0_takeDigit_16 : decode cX0_takeDigit 16 = .ok (.istore_n 2, 1) := by decide +kernel
theorem dX0_takeDigit_17 : decode cX0_takeDigit 17 = .ok (.aload_n 0, 1) := by decide +kernel
theorem dX0_takeDigit_18 : decode cX0_takeDigit 18 = .ok (.getfield 23, 3) := by decide +kernel
theorem dX0_takeDigit_21 : decode cX0_takeDigit 21 = .ok (.aload_n 0, 1) := by decide +kernel
theorem dX0_takeDigit_22 : decode cX0_takeDigit 22 = .ok (.getfield 30, 3) := by decide +kernel
theorem dX0_takeDigit_25 : decode cX0_takeDigit 25 = .ok (.invokevirtual 40, 3) := by decide +kernel
theorem dX0_takeDigit_28 : decode cX0_takeDigit 28 = .ok (.ifCond .ne 14, 3) := by decide +kernel
theorem dX0_takeDigit_31 : decode cX0_takeDigit 31 = .ok (.iload_n 2, 1) := by decide +kernel
theorem dX0_takeDigit_32 : decode cX0_takeDigit 32 = .ok (.iconst 1, 1) := by decide +kernel
theorem dX0_takeDigit_33 : decode cX0_takeDigit 33 = .ok (.if_icmp .lt 9, 3) := by decide +kernel
theorem dX0_takeDigit_36 : decode cX0_takeDigit 36 = .ok (.iload_n 2, 1) := by decide +kernel
theorem dX0_takeDigit_37 : decode cX0_takeDigit 37 = .ok (.bipush 30, 2) := by decide +kernel
theorem dX0_takeDigit_39 : decode cX0_takeDigit 39 = .ok (.if_icmp .le 5, 3) := by decide +kernel
theorem dX0_takeDigit_42 : decode cX0_takeDigit 42 = .ok (.iconst 0, 1) := by decide +kernel
theorem dX0_takeDigit_43 : decode cX0_takeDigit 43 = .ok (.ireturn, 1) := by decide +kernel
theorem dX0_takeDigit_44 : decode cX0_takeDigit 44 = .ok (.aload_n 0, 1) := by decide +kernel
theorem dX0_takeDigit_45 : decode cX0_takeDigit 45 = .ok (.getfield 20, 3) := by decide +kernel
theorem dX0_takeDigit_48 : decode cX0_takeDigit 48 = .ok (.aload_n 0, 1) := by decide +kernel
theorem dX0_takeDigit_49 : decode cX0_takeDigit 49 = .ok (.getfield 30, 3) := by decide +kernel
theorem dX0_takeDigit_52 : decode cX0_takeDigit 52 = .ok (.iload_n 2, 1) := by decide +kernel
theorem dX0_takeDigit_53 : decode cX0_takeDigit 53 = .ok (.invokevirtual 33, 3) := by decide +kernel
theorem dX0_takeDigit_56 : decode cX0_takeDigit 56 = .ok (.iconst 1, 1) := by decide +kernel
theorem dX0_takeDigit_57 : decode cX0_takeDigit 57 = .ok (.ireturn, 1) := by decide +kernel
theorem dX0_takeMark_0 : decode cX0_takeMark 0 = .ok (.aload_n 0, 1) := by decide +kernel
theorem dX0_takeMark_1 : decode cX0_takeMark 1 = .ok (.getfield 23, 3) := by decide +kernel
theorem dX0_takeMark_4 : decode cX0_takeMark 4 = .ok (.aload_n 0, 1) := by decide +kernel
theorem dX0_takeMark_5 : decode cX0_takeMark 5 = .ok (.getfield 30, 3) := by decide +kernel
theorem dX0_takeMark_8 : decode cX0_takeMark 8 = .ok (.invokevirtual 40, 3) := by decide +kernel
theorem dX0_takeMark_11 : decode cX0_takeMark 11 = .ok (.ifCond .eq 5, 3) := by decide +kernel
theorem dX0_takeMark_14 : decode cX0_takeMark 14 = .ok (.iconst 0, 1) := by decide +kernel
theorem dX0_takeMark_15 : decode cX0_takeMark 15 = .ok (.ireturn, 1) := by decide +kernel
theorem dX0_takeMark_16 : decode cX0_takeMark 16 = .ok (.aload_n 0, 1) := by decide +kernel
theorem dX0_takeMark_17 : decode cX0_takeMark 17 = .ok (.getfield 23, 3) := by decide +kernel
theorem dX0_takeMark_20 : decode cX0_takeMark 20 = .ok (.aload_n 0, 1) := by decide +kernel
theorem dX0_takeMark_21 : decode cX0_takeMark 21 = .ok (.getfield 30, 3) := by decide +kernel
theorem dX0_takeMark_24 : decode cX0_takeMark 24 = .ok (.iload_n 1, 1) := by decide +kernel
theorem dX0_takeMark_25 : decode cX0_takeMark 25 = .ok (.invokevirtual 33, 3) := by decide +kernel
theorem dX0_takeMark_28 : decode cX0_takeMark 28 = .ok (.iconst 1, 1) := by decide +kernel
theorem dX0_takeMark_29 : decode cX0_takeMark 29 = .ok (.ireturn, 1) := by decide +kernel
theorem dX1_init_0 : decode cX1_init 0 = .ok (.aload_n 0, 1) := by decide +kernel
theorem dX1_init_1 : decode cX1_init 1 = .ok (.invokespecial 3, 3) := by decide +kernel
theorem dX1_init_4 : decode cX1_init 4 = .ok (.aload_n 0, 1) := by decide +kernel
theorem dX1_init_5 : decode cX1_init 5 = .ok (.new 9, 3) := by decide +kernel
theorem dX1_init_8 : decode cX1_init 8 = .ok (.dup, 1) := by decide +kernel
theorem dX1_init_9 : decode cX1_init 9 = .ok (.bipush 41, 2) := by decide +kernel
theorem dX1_init_11 : decode cX1_init 11 = .ok (.invokespecial 11, 3) := by decide +kernel
theorem dX1_init_14 : decode cX1_init 14 = .ok (.putfield 14, 3) := by decide +kernel
theorem dX1_init_17 : decode cX1_init 17 = .ok (.aload_n 0, 1) := by decide +kernel
theorem dX1_init_18 : decode cX1_init 18 = .ok (.new 9, 3) := by decide +kernel
theorem dX1_init_21 : decode cX1_init 21 = .ok (.dup, 1) := by decide +kernel
theorem dX1_init_22 : decode cX1_init 22 = .ok (.bipush 40, 2) := by decide +kernel
theorem dX1_init_24 : decode cX1_init 24 = .ok (.invokespecial 11, 3) := by decide +kernel
theorem dX1_init_27 : decode cX1_init 27 = .ok (.putfield 20, 3) := by decide +kernel
theorem dX1_init_30 : decode cX1_init 30 = .ok (.aload_n 0, 1) := by decide +kernel
theorem dX1_init_31 : decode cX1_init 31 = .ok (.aload_n 1, 1) := by decide +kernel
theorem dX1_init_32 : decode cX1_init 32 = .ok (.putfield 23, 3) := by decide +kernel
theorem dX1_init_35 : decode cX1_init 35 = .ok (.return_, 1) := by decide +kernel
theorem dX1_measure_0 : decode cX1_measure 0 = .ok (.iconst 0, 1) := by decide +kernel
theorem dX1_measure_1 : decode cX1_measure 1 = .ok (.istore_n 1, 1) := by decide +kernel
theorem dX1_measure_2 : decode cX1_measure 2 = .ok (.iload_n 1, 1) := by decide +kernel
theorem dX1_measure_3 : decode cX1_measure 3 = .ok (.aload_n 0, 1) := by decide +kernel
theorem dX1_measure_4 : decode cX1_measure 4 = .ok (.getfield 23, 3) := by decide +kernel
theorem dX1_measure_7 : decode cX1_measure 7 = .ok (.getfield 27, 3) := by decide +kernel
theorem dX1_measure_10 : decode cX1_measure 10 = .ok (.if_icmp .ge 39, 3) := by decide +kernel
theorem dX1_measure_13 : decode cX1_measure 13 = .ok (.aload_n 0, 1) := by decide +kernel
theorem dX1_measure_14 : decode cX1_measure 14 = .ok (.getfield 14, 3) := by decide +kernel
theorem dX1_measure_17 : decode cX1_measure 17 = .ok (.iload_n 1, 1) := by decide +kernel
theorem dX1_measure_18 : decode cX1_measure 18 = .ok (.iconst 1, 1) := by decide +kernel
theorem dX1_measure_19 : decode cX1_measure 19 = .ok (.iadd, 1) := by decide +kernel
theorem dX1_measure_20 : decode cX1_measure 20 = .ok (.aload_n 0, 1) := by decide +kernel
theorem dX1_measure_21 : decode cX1_measure 21 = .ok (.getfield 14, 3) := by decide +kernel
theorem dX1_measure_24 : decode cX1_measure 24 = .ok (.iload_n 1, 1) := by decide +kernel
theorem dX1_measure_25 : decode cX1_measure 25 = .ok (.invokevirtual 33, 3) := by decide +kernel
theorem dX1_measure_28 : decode cX1_measure 28 = .ok (.aload_n 0, 1) := by decide +kernel
theorem dX1_measure_29 : decode cX1_measure 29 = .ok (.getfield 23, 3) := by decide +kernel
theorem dX1_measure_32 : decode cX1_measure 32 = .ok (.getfield 37, 3) := by decide +kernel
theorem dX1_measure_35 : decode cX1_measure 35 = .ok (.iload_n 1, 1) := by decide +kernel
theorem dX1_measure_36 : decode cX1_measure 36 = .ok (.invokevirtual 33, 3) := by decide +kernel
theorem dX1_measure_39 : decode cX1_measure 39 = .ok (.iadd, 1) := by decide +kernel
theorem dX1_measure_40 : decode cX1_measure 40 = .ok (.invokevirtual 40, 3) := by decide +kernel
theorem dX1_measure_43 : decode cX1_measure 43 = .ok (.iinc 1 1, 3) := by decide +kernel
theorem dX1_measure_46 : decode cX1_measure 46 = .ok (.goto (-44), 3) := by decide +kernel
theorem dX1_measure_49 : decode cX1_measure 49 = .ok (.iconst 0, 1) := by decide +kernel
theorem dX1_measure_50 : decode cX1_measure 50 = .ok (.istore_n 1, 1) := by decide +kernel
theorem dX1_measure_51 : decode cX1_measure 51 = .ok (.iload_n 1, 1) := by decide +kernel
theorem dX1_measure_52 : decode cX1_measure 52 = .ok (.aload_n 0, 1) := by decide +kernel
theorem dX1_measure_53 : decode cX1_measure 53 = .ok (.getfield 23, 3) := by decide +kernel
theorem dX1_measure_56 : decode cX1_measure 56 = .ok (.getfield 27, 3) := by decide +kernel
theorem dX1_measure_59 : decode cX1_measure 59 = .ok (.if_icmp .ge 22, 3) := by decide +kernel
theorem dX1_measure_62 : decode cX1_measure 62 = .ok (.aload_n 0, 1) := by decide +kernel
theorem dX1_measure_63 : decode cX1_measure 63 = .ok (.getfield 20, 3) := by decide +kernel
theorem dX1_measure_66 : decode cX1_measure 66 = .ok (.iload_n 1, 1) := by decide +kernel
theorem dX1_measure_67 : decode cX1_measure 67 = .ok (.aload_n 0, 1) := by decide +kernel
theorem dX1_measure_68 : decode cX1_measure 68 = .ok (.iload_n 1, 1) := by decide +kernel
theorem dX1_measure_69 : decode cX1_measure 69 = .ok (.invokevirtual 44, 3) := by decide +kernel
theorem dX1_measure_72 : decode cX1_measure 72 = .ok (.invokevirtual 40, 3) := by decide +kernel
theorem dX1_measure_75 : decode cX1_measure 75 = .ok (.iinc 1 1, 3) := by decide +kernel
theorem dX1_measure_78 : decode cX1_measure 78 = .ok (.goto (-27), 3) := by decide +kernel
theorem dX1_measure_81 : decode cX1_measure 81 = .ok (.return_, 1) := by decide +kernel
theorem dX1_longestLineEnd_0 : decode cX1_longestLineEnd 0 = .ok (.iload_n 1, 1) := by decide +kernel
theorem dX1_longestLineEnd_1 : decode cX1_longestLineEnd 1 = .ok (.iconst 1, 1) := by decide +kernel
theorem dX1_longestLineEnd_2 : decode cX1_longestLineEnd 2 = .ok (.iadd, 1) := by decide +kernel
theorem dX1_longestLineEnd_3 : decode cX1_longestLineEnd 3 = .ok (.istore_n 2, 1) := by decide +kernel
theorem dX1_longestLineEnd_4 : decode cX1_longestLineEnd 4 = .ok (.iload_n 2, 1) := by decide +kernel
theorem dX1_longestLineEnd_5 : decode cX1_longestLineEnd 5 = .ok (.aload_n 0, 1) := by decide +kernel
theorem dX1_longestLineEnd_6 : decode cX1_longestLineEnd 6 = .ok (.getfield 23, 3) := by decide +kernel
theorem dX1_longestLineEnd_9 : decode cX1_longestLineEnd 9 = .ok (.getfield 27, 3) := by decide +kernel
theorem dX1_longestLineEnd_12 : decode cX1_longestLineEnd 12 = .ok (.if_icmp .ge 43, 3) := by decide +kernel
theorem dX1_longestLineEnd_15 : decode cX1_longestLineEnd 15 = .ok (.aload_n 0, 1) := by decide +kernel
theorem dX1_longestLineEnd_16 : decode cX1_longestLineEnd 16 = .ok (.getfield 23, 3) := by decide +kernel
theorem dX1_longestLineEnd_19 : decode cX1_longestLineEnd 19 = .ok (.getfield 47, 3) := by decide +kernel
theorem dX1_longestLineEnd_22 : decode cX1_longestLineEnd 22 = .ok (.iload_n 2, 1) := by decide +kernel
theorem dX1_longestLineEnd_23 : decode cX1_longestLineEnd 23 = .ok (.iconst 1, 1) := by decide +kernel
theorem dX1_longestLineEnd_24 : decode cX1_longestLineEnd 24 = .ok (.isub, 1) := by decide +kernel
theorem dX1_longestLineEnd_25 : decode cX1_longestLineEnd 25 = .ok (.invokevirtual 33, 3) := by decide +kernel
theorem dX1_longestLineEnd_28 : decode cX1_longestLineEnd 28 = .ok (.ifCond .ne 27, 3) := by decide +kernel
theorem dX1_longestLineEnd_31 : decode cX1_longestLineEnd 31 = .ok (.aload_n 0, 1) := by decide +kernel
theorem dX1_longestLineEnd_32 : decode cX1_longestLineEnd 32 = .ok (.iload_n 1, 1) := by decide +kernel
theorem dX1_longestLineEnd_33 : decode cX1_longestLineEnd 33 = .ok (.iload_n 2, 1) := by decide +kernel
theorem dX1_longestLineEnd_34 : decode cX1_longestLineEnd 34 = .ok (.iconst 1, 1) := by decide +kernel
theorem dX1_longestLineEnd_35 : decode cX1_longestLineEnd 35 = .ok (.iadd, 1) := by decide +kernel
theorem dX1_longestLineEnd_36 : decode cX1_longestLineEnd 36 = .ok (.invokevirtual 50, 3) := by decide +kernel
theorem dX1_longestLineEnd_39 : decode cX1_longestLineEnd 39 = .ok (.aload_n 0, 1) := by decide +kernel
theorem dX1_longestLineEnd_40 : decode cX1_longestLineEnd 40 = .ok (.getfield 23, 3) := by decide +kernel
theorem dX1_longestLineEnd_43 : decode cX1_longestLineEnd 43 = .ok (.getfield 54, 3) := by decide +kernel
theorem dX1_longestLineEnd_46 : decode cX1_longestLineEnd 46 = .ok (.if_icmp .gt 9, 3) := by decide +kernel
theorem dX1_longestLineEnd_49 : decode cX1_longestLineEnd 49 = .ok (.iinc 2 1, 3) := by decide +kernel
theorem dX1_longestLineEnd_52 : decode cX1_longestLineEnd 52 = .ok (.goto (-48), 3) := by decide +kernel
theorem dX1_longestLineEnd_55 : decode cX1_longestLineEnd 55 = .ok (.iload_n 2, 1) := by decide +kernel
theorem dX1_longestLineEnd_56 : decode cX1_longestLineEnd 56 = .ok (.ireturn, 1) := by decide +kernel
theorem dX1_widthBetween_0 : decode cX1_widthBetween 0 = .ok (.aload_n 0, 1) := by decide +kernel
theorem dX1_widthBetween_1 : decode cX1_widthBetween 1 = .ok (.getfield 14, 3) := by decide +kernel
theorem dX1_widthBetween_4 : decode cX1_widthBetween 4 = .ok (.iload_n 2, 1) := by decide +kernel
theorem dX1_widthBetween_5 : decode cX1_widthBetween 5 = .ok (.invokevirtual 33, 3) := by decide +kernel
theorem dX1_widthBetween_8 : decode cX1_widthBetween 8 = .ok (.aload_n 0, 1) := by decide +kernel
theorem dX1_widthBetween_9 : decode cX1_widthBetween 9 = .ok (.getfield 14, 3) := by decide +kernel
theorem dX1_widthBetween_12 : decode cX1_widthBetween 12 = .ok (.iload_n 1, 1) := by decide +kernel
theorem dX1_widthBetween_13 : decode cX1_widthBetween 13 = .ok (.invokevirtual 33, 3) := by decide +kernel
theorem dX1_widthBetween_16 : decode cX1_widthBetween 16 = .ok (.isub, 1) := by decide +kernel
theorem dX1_widthBetween_17 : decode cX1_widthBetween 17 = .ok (.aload_n 0, 1) := by decide +kernel
theorem dX1_widthBetween_18 : decode cX1_widthBetween 18 = .ok (.getfield 23, 3) := by decide +kernel
theorem dX1_widthBetween_21 : decode cX1_widthBetween 21 = .ok (.getfield 57, 3) := by decide +kernel
theorem dX1_widthBetween_24 : decode cX1_widthBetween 24 = .ok (.iload_n 2, 1) := by decide +kernel
theorem dX1_widthBetween_25 : decode cX1_widthBetween 25 = .ok (.iload_n 1, 1) := by decide +kernel
theorem dX1_widthBetween_26 : decode cX1_widthBetween 26 = .ok (.isub, 1) := by decide +kernel
theorem dX1_widthBetween_27 : decode cX1_widthBetween 27 = .ok (.iconst 1, 1) := by decide +kernel
theorem dX1_widthBetween_28 : decode cX1_widthBetween 28 = .ok (.isub, 1) := by decide +kernel
theorem dX1_widthBetween_29 : decode cX1_widthBetween 29 = .ok (.imul, 1) := by decide +kernel
theorem dX1_widthBetween_30 : decode cX1_widthBetween 30 = .ok (.iadd, 1) := by decide +kernel
theorem dX1_widthBetween_31 : decode cX1_widthBetween 31 = .ok (.ireturn, 1) := by decide +kernel
theorem dX2_init_0 : decode cX2_init 0 = .ok (.aload_n 0, 1) := by decide +kernel
theorem dX2_init_1 : decode cX2_init 1 = .ok (.invokespecial 3, 3) := by decide +kernel
theorem dX2_init_4 : decode cX2_init 4 = .ok (.aload_n 0, 1) := by decide +kernel
theorem dX2_init_5 : decode cX2_init 5 = .ok (.bipush 6, 2) := by decide +kernel
theorem dX2_init_7 : decode cX2_init 7 = .ok (.anewarray 9, 3) := by decide +kernel
theorem dX2_init_10 : decode cX2_init 10 = .ok (.putfield 11, 3) := by decide +kernel
theorem dX2_init_13 : decode cX2_init 13 = .ok (.aload_n 0, 1) := by decide +kernel
theorem dX2_init_14 : decode cX2_init 14 = .ok (.iconst 0, 1) := by decide +kernel
theorem dX2_init_15 : decode cX2_init 15 = .ok (.putfield 17, 3) := by decide +kernel
theorem dX2_init_18 : decode cX2_init 18 = .ok (.iconst 0, 1) := by decide +kernel
theorem dX2_init_19 : decode cX2_init 19 = .ok (.istore_n 1, 1) := by decide +kernel
theorem dX2_init_20 : decode cX2_init 20 = .ok (.iload_n 1, 1) := by decide +kernel
theorem dX2_init_21 : decode cX2_init 21 = .ok (.aload_n 0, 1) := by decide +kernel
theorem dX2_init_22 : decode cX2_init 22 = .ok (.getfield 11, 3) := by decide +kernel
theorem dX2_init_25 : decode cX2_init 25 = .ok (.arraylength, 1) := by decide +kernel
theorem dX2_init_26 : decode cX2_init 26 = .ok (.if_icmp .ge 22, 3) := by decide +kernel
theorem dX2_init_29 : decode cX2_init 29 = .ok (.aload_n 0, 1) := by decide +kernel
theorem dX2_init_30 : decode cX2_init 30 = .ok (.getfield 11, 3) := by decide +kernel
theorem dX2_init_33 : decode cX2_init 33 = .ok (.iload_n 1, 1) := by decide +kernel
theorem dX2_init_34 : decode cX2_init 34 = .ok (.new 9, 3) := by decide +kernel
theorem dX2_init_37 : decode cX2_init 37 = .ok (.dup, 1) := by decide +kernel
theorem dX2_init_38 : decode cX2_init 38 = .ok (.invokespecial 21, 3) := by decide +kernel
theorem dX2_init_41 : decode cX2_init 41 = .ok (.aastore, 1) := by decide +kernel
theorem dX2_init_42 : decode cX2_init 42 = .ok (.iinc 1 1, 3) := by decide +kernel
theorem dX2_init_45 : decode cX2_init 45 = .ok (.goto (-25), 3) := by decide +kernel
theorem dX2_init_48 : decode cX2_init 48 = .ok (.return_, 1) := by decide +kernel
theorem dX2_save_0 : decode cX2_save 0 = .ok (.aload_n 0, 1) := by decide +kernel
theorem dX2_save_1 : decode cX2_save 1 = .ok (.getfield 17, 3) := by decide +kernel
theorem dX2_save_4 : decode cX2_save 4 = .ok (.aload_n 0, 1) := by decide +kernel
theorem dX2_save_5 : decode cX2_save 5 = .ok (.getfield 11, 3) := by decide +kernel
theorem dX2_save_8 : decode cX2_save 8 = .ok (.arraylength, 1) := by decide +kernel
theorem dX2_save_9 : decode cX2_save 9 = .ok (.if_icmp .lt 7, 3) := by decide +kernel
theorem dX2_save_12 : decode cX2_save 12 = .ok (.aload_n 0, 1) := by decide +kernel
theorem dX2_save_13 : decode cX2_save 13 = .ok (.invokevirtual 22, 3) := by decide +kernel
theorem dX2_save_16 : decode cX2_save 16 = .ok (.aload_n 0, 1) := by decide +kernel
theorem dX2_save_17 : decode cX2_save 17 = .ok (.aload_n 0, 1) := by decide +kernel
theorem dX2_save_18 : decode cX2_save 18 = .ok (.getfield 17, 3) := by decide +kernel
theorem dX2_save_21 : decode cX2_save 21 = .ok (.invokevirtual 25, 3) := by decide +kernel
theorem dX2_save_24 : decode cX2_save 24 = .ok (.astore_n 2, 1) := by decide +kernel
theorem dX2_save_25 : decode cX2_save 25 = .ok (.aload_n 2, 1) := by decide +kernel
theorem dX2_save_26 : decode cX2_save 26 = .ok (.ifnull 18, 3) := by decide +kernel
theorem dX2_save_29 : decode cX2_save 29 = .ok (.aload_n 2, 1) := by decide +kernel
theorem dX2_save_30 : decode cX2_save 30 = .ok (.aload_n 1, 1) := by decide +kernel
theorem dX2_save_31 : decode cX2_save 31 = .ok (.invokevirtual 29, 3) := by decide +kernel
theorem dX2_save_34 : decode cX2_save 34 = .ok (.aload_n 0, 1) := by decide +kernel
theorem dX2_save_35 : decode cX2_save 35 = .ok (.dup, 1) := by decide +kernel
theorem dX2_save_36 : decode cX2_save 36 = .ok (.getfield 17, 3) := by decide +kernel
theorem dX2_save_39 : decode cX2_save 39 = .ok (.iconst 1, 1) := by decide +kernel
theorem dX2_save_40 : decode cX2_save 40 = .ok (.iadd, 1) := by decide +kernel
theorem dX2_save_41 : decode cX2_save 41 = .ok (.putfield 17, 3) := by decide +kernel
theorem dX2_save_44 : decode cX2_save 44 = .ok (.return_, 1) := by decide +kernel
theorem dX2_restore_0 : decode cX2_restore 0 = .ok (.aload_n 0, 1) := by decide +kernel
theorem dX2_restore_1 : decode cX2_restore 1 = .ok (.aload_n 0, 1) := by decide +kernel
theorem dX2_restore_2 : decode cX2_restore 2 = .ok (.getfield 17, 3) := by decide +kernel
theorem dX2_restore_5 : decode cX2_restore 5 = .ok (.iconst 1, 1) := by decide +kernel
theorem dX2_restore_6 : decode cX2_restore 6 = .ok (.isub, 1) := by decide +kernel
theorem dX2_restore_7 : decode cX2_restore 7 = .ok (.invokevirtual 25, 3) := by decide +kernel
theorem dX2_restore_10 : decode cX2_restore 10 = .ok (.astore_n 2, 1) := by decide +kernel
theorem dX2_restore_11 : decode cX2_restore 11 = .ok (.aload_n 2, 1) := by decide +kernel
theorem dX2_restore_12 : decode cX2_restore 12 = .ok (.ifnull 18, 3) := by decide +kernel
theorem dX2_restore_15 : decode cX2_restore 15 = .ok (.aload_n 1, 1) := by decide +kernel
theorem dX2_restore_16 : decode cX2_restore 16 = .ok (.aload_n 2, 1) := by decide +kernel
theorem dX2_restore_17 : decode cX2_restore 17 = .ok (.invokevirtual 29, 3) := by decide +kernel
theorem dX2_restore_20 : decode cX2_restore 20 = .ok (.aload_n 0, 1) := by decide +kernel
theorem dX2_restore_21 : decode cX2_restore 21 = .ok (.dup, 1) := by decide +kernel
theorem dX2_restore_22 : decode cX2_restore 22 = .ok (.getfield 17, 3) := by decide +kernel
theorem dX2_restore_25 : decode cX2_restore 25 = .ok (.iconst 1, 1) := by decide +kernel
theorem dX2_restore_26 : decode cX2_restore 26 = .ok (.isub, 1) := by decide +kernel
theorem dX2_restore_27 : decode cX2_restore 27 = .ok (.putfield 17, 3) := by decide +kernel
theorem dX2_restore_30 : decode cX2_restore 30 = .ok (.return_, 1) := by decide +kernel
theorem dX2_stateAt_0 : decode cX2_stateAt 0 = .ok (.iload_n 1, 1) := by decide +kernel
theorem dX2_stateAt_1 : decode cX2_stateAt 1 = .ok (.ifCond .lt 21, 3) := by decide +kernel
theorem dX2_stateAt_4 : decode cX2_stateAt 4 = .ok (.iload_n 1, 1) := by decide +kernel
theorem dX2_stateAt_5 : decode cX2_stateAt 5 = .ok (.aload_n 0, 1) := by decide +kernel
theorem dX2_stateAt_6 : decode cX2_stateAt 6 = .ok (.getfield 11, 3) := by decide +kernel
theorem dX2_stateAt_9 : decode cX2_stateAt 9 = .ok (.arraylength, 1) := by decide +kernel
theorem dX2_stateAt_10 : decode cX2_stateAt 10 = .ok (.if_icmp .ge 12, 3) := by decide +kernel
theorem dX2_stateAt_13 : decode cX2_stateAt 13 = .ok (.aload_n 0, 1) := by decide +kernel
theorem dX2_stateAt_14 : decode cX2_stateAt 14 = .ok (.getfield 11, 3) := by decide +kernel
theorem dX2_stateAt_17 : decode cX2_stateAt 17 = .ok (.iload_n 1, 1) := by decide +kernel
theorem dX2_stateAt_18 : decode cX2_stateAt 18 = .ok (.aaload, 1) := by decide +kernel
theorem dX2_stateAt_19 : decode cX2_stateAt 19 = .ok (.goto 4, 3) := by decide +kernel
theorem dX2_stateAt_22 : decode cX2_stateAt 22 = .ok (.aconst_null, 1) := by decide +kernel
theorem dX2_stateAt_23 : decode cX2_stateAt 23 = .ok (.areturn, 1) := by decide +kernel
theorem dX2_dropOldest_0 : decode cX2_dropOldest 0 = .ok (.aload_n 0, 1) := by decide +kernel
theorem dX2_dropOldest_1 : decode cX2_dropOldest 1 = .ok (.iconst 0, 1) := by decide +kernel
theorem dX2_dropOldest_2 : decode cX2_dropOldest 2 = .ok (.invokevirtual 25, 3) := by decide +kernel
theorem dX2_dropOldest_5 : decode cX2_dropOldest 5 = .ok (.astore_n 1, 1) := by decide +kernel
theorem dX2_dropOldest_6 : decode cX2_dropOldest 6 = .ok (.iconst 1, 1) := by decide +kernel
theorem dX2_dropOldest_7 : decode cX2_dropOldest 7 = .ok (.istore_n 2, 1) := by decide +kernel
theorem dX2_dropOldest_8 : decode cX2_dropOldest 8 = .ok (.iload_n 2, 1) := by decide +kernel
theorem dX2_dropOldest_9 : decode cX2_dropOldest 9 = .ok (.aload_n 0, 1) := by decide +kernel
theorem dX2_dropOldest_10 : decode cX2_dropOldest 10 = .ok (.getfield 11, 3) := by decide +kernel
theorem dX2_dropOldest_13 : decode cX2_dropOldest 13 = .ok (.arraylength, 1) := by decide +kernel
theorem dX2_dropOldest_14 : decode cX2_dropOldest 14 = .ok (.if_icmp .ge 23, 3) := by decide +kernel
theorem dX2_dropOldest_17 : decode cX2_dropOldest 17 = .ok (.aload_n 0, 1) := by decide +kernel
theorem dX2_dropOldest_18 : decode cX2_dropOldest 18 = .ok (.getfield 11, 3) := by decide +kernel
theorem dX2_dropOldest_21 : decode cX2_dropOldest 21 = .ok (.iload_n 2, 1) := by decide +kernel
theorem dX2_dropOldest_22 : decode cX2_dropOldest 22 = .ok (.iconst 1, 1) := by decide +kernel
theorem dX2_dropOldest_23 : decode cX2_dropOldest 23 = .ok (.isub, 1) := by decide +kernel
theorem dX2_dropOldest_24 : decode cX2_dropOldest 24 = .ok (.aload_n 0, 1) := by decide +kernel
theorem dX2_dropOldest_25 : decode cX2_dropOldest 25 = .ok (.getfield 11, 3) := by decide +kernel
theorem dX2_dropOldest_28 : decode cX2_dropOldest 28 = .ok (.iload_n 2, 1) := by decide +kernel
theorem dX2_dropOldest_29 : decode cX2_dropOldest 29 = .ok (.aaload, 1) := by decide +kernel
theorem dX2_dropOldest_30 : decode cX2_dropOldest 30 = .ok (.aastore, 1) := by decide +kernel
theorem dX2_dropOldest_31 : decode cX2_dropOldest 31 = .ok (.iinc 2 1, 3) := by decide +kernel
theorem dX2_dropOldest_34 : decode cX2_dropOldest 34 = .ok (.goto (-26), 3) := by decide +kernel
theorem dX2_dropOldest_37 : decode cX2_dropOldest 37 = .ok (.aload_n 0, 1) := by decide +kernel
theorem dX2_dropOldest_38 : decode cX2_dropOldest 38 = .ok (.getfield 11, 3) := by decide +kernel
theorem dX2_dropOldest_41 : decode cX2_dropOldest 41 = .ok (.arraylength, 1) := by decide +kernel
theorem dX2_dropOldest_42 : decode cX2_dropOldest 42 = .ok (.ifCond .le 27, 3) := by decide +kernel
theorem dX2_dropOldest_45 : decode cX2_dropOldest 45 = .ok (.aload_n 0, 1) := by decide +kernel
theorem dX2_dropOldest_46 : decode cX2_dropOldest 46 = .ok (.getfield 11, 3) := by decide +kernel
theorem dX2_dropOldest_49 : decode cX2_dropOldest 49 = .ok (.aload_n 0, 1) := by decide +kernel
theorem dX2_dropOldest_50 : decode cX2_dropOldest 50 = .ok (.getfield 11, 3) := by decide +kernel
theorem dX2_dropOldest_53 : decode cX2_dropOldest 53 = .ok (.arraylength, 1) := by decide +kernel
theorem dX2_dropOldest_54 : decode cX2_dropOldest 54 = .ok (.iconst 1, 1) := by decide +kernel
theorem dX2_dropOldest_55 : decode cX2_dropOldest 55 = .ok (.isub, 1) := by decide +kernel
theorem dX2_dropOldest_56 : decode cX2_dropOldest 56 = .ok (.aload_n 1, 1) := by decide +kernel
theorem dX2_dropOldest_57 : decode cX2_dropOldest 57 = .ok (.aastore, 1) := by decide +kernel
theorem dX2_dropOldest_58 : decode cX2_dropOldest 58 = .ok (.aload_n 0, 1) := by decide +kernel
theorem dX2_dropOldest_59 : decode cX2_dropOldest 59 = .ok (.aload_n 0, 1) := by decide +kernel
theorem dX2_dropOldest_60 : decode cX2_dropOldest 60 = .ok (.getfield 11, 3) := by decide +kernel
theorem dX2_dropOldest_63 : decode cX2_dropOldest 63 = .ok (.arraylength, 1) := by decide +kernel
theorem dX2_dropOldest_64 : decode cX2_dropOldest 64 = .ok (.iconst 1, 1) := by decide +kernel
theorem dX2_dropOldest_65 : decode cX2_dropOldest 65 = .ok (.isub, 1) := by decide +kernel
theorem dX2_dropOldest_66 : decode cX2_dropOldest 66 = .ok (.putfield 17, 3) := by decide +kernel
theorem dX2_dropOldest_69 : decode cX2_dropOldest 69 = .ok (.return_, 1) := by decide +kernel
theorem dX3_init_0 : decode cX3_init 0 = .ok (.aload_n 0, 1) := by decide +kernel
theorem dX3_init_1 : decode cX3_init 1 = .ok (.invokespecial 3, 3) := by decide +kernel
theorem dX3_init_4 : decode cX3_init 4 = .ok (.aload_n 0, 1) := by decide +kernel
theorem dX3_init_5 : decode cX3_init 5 = .ok (.new 9, 3) := by decide +kernel
theorem dX3_init_8 : decode cX3_init 8 = .ok (.dup, 1) := by decide +kernel
theorem dX3_init_9 : decode cX3_init 9 = .ok (.bipush 41, 2) := by decide +kernel
theorem dX3_init_11 : decode cX3_init 11 = .ok (.invokespecial 11, 3) := by decide +kernel
theorem dX3_init_14 : decode cX3_init 14 = .ok (.putfield 14, 3) := by decide +kernel
theorem dX3_init_17 : decode cX3_init 17 = .ok (.aload_n 0, 1) := by decide +kernel
theorem dX3_init_18 : decode cX3_init 18 = .ok (.new 9, 3) := by decide +kernel
theorem dX3_init_21 : decode cX3_init 21 = .ok (.dup, 1) := by decide +kernel
theorem dX3_init_22 : decode cX3_init 22 = .ok (.bipush 40, 2) := by decide +kernel
theorem dX3_init_24 : decode cX3_init 24 = .ok (.invokespecial 11, 3) := by decide +kernel
theorem dX3_init_27 : decode cX3_init 27 = .ok (.putfield 20, 3) := by decide +kernel
theorem dX3_init_30 : decode cX3_init 30 = .ok (.aload_n 0, 1) := by decide +kernel
theorem dX3_init_31 : decode cX3_init 31 = .ok (.iconst 0, 1) := by decide +kernel
theorem dX3_init_32 : decode cX3_init 32 = .ok (.putfield 23, 3) := by decide +kernel
theorem dX3_init_35 : decode cX3_init 35 = .ok (.aload_n 0, 1) := by decide +kernel
theorem dX3_init_36 : decode cX3_init 36 = .ok (.aload_n 1, 1) := by decide +kernel
theorem dX3_init_37 : decode cX3_init 37 = .ok (.putfield 27, 3) := by decide +kernel
theorem dX3_init_40 : decode cX3_init 40 = .ok (.aload_n 0, 1) := by decide +kernel
theorem dX3_init_41 : decode cX3_init 41 = .ok (.new 31, 3) := by decide +kernel
theorem dX3_init_44 : decode cX3_init 44 = .ok (.dup, 1) := by decide +kernel
theorem dX3_init_45 : decode cX3_init 45 = .ok (.aload_n 1, 1) := by decide +kernel
theorem dX3_init_46 : decode cX3_init 46 = .ok (.invokespecial 33, 3) := by decide +kernel
theorem dX3_init_49 : decode cX3_init 49 = .ok (.putfield 36, 3) := by decide +kernel
theorem dX3_init_52 : decode cX3_init 52 = .ok (.aload_n 0, 1) := by decide +kernel
theorem dX3_init_53 : decode cX3_init 53 = .ok (.new 40, 3) := by decide +kernel
theorem dX3_init_56 : decode cX3_init 56 = .ok (.dup, 1) := by decide +kernel
theorem dX3_init_57 : decode cX3_init 57 = .ok (.aload_n 1, 1) := by decide +kernel
theorem dX3_init_58 : decode cX3_init 58 = .ok (.aload_n 0, 1) := by decide +kernel
theorem dX3_init_59 : decode cX3_init 59 = .ok (.getfield 36, 3) := by decide +kernel
theorem dX3_init_62 : decode cX3_init 62 = .ok (.invokespecial 42, 3) := by decide +kernel
theorem dX3_init_65 : decode cX3_init 65 = .ok (.putfield 45, 3) := by decide +kernel
theorem dX3_init_68 : decode cX3_init 68 = .ok (.return_, 1) := by decide +kernel
theorem dX3_arrange_0 : decode cX3_arrange 0 = .ok (.aload_n 0, 1) := by decide +kernel
theorem dX3_arrange_1 : decode cX3_arrange 1 = .ok (.getfield 36, 3) := by decide +kernel
theorem dX3_arrange_4 : decode cX3_arrange 4 = .ok (.invokevirtual 49, 3) := by decide +kernel
theorem dX3_arrange_7 : decode cX3_arrange 7 = .ok (.iconst 0, 1) := by decide +kernel
theorem dX3_arrange_8 : decode cX3_arrange 8 = .ok (.istore_n 2, 1) := by decide +kernel
theorem dX3_arrange_9 : decode cX3_arrange 9 = .ok (.iconst 0, 1) := by decide +kernel
theorem dX3_arrange_10 : decode cX3_arrange 10 = .ok (.istore_n 3, 1) := by decide +kernel
theorem dX3_arrange_11 : decode cX3_arrange 11 = .ok (.iload_n 1, 1) := by decide +kernel
theorem dX3_arrange_12 : decode cX3_arrange 12 = .ok (.ifCond .eq 46, 3) := by decide +kernel
theorem dX3_arrange_15 : decode cX3_arrange 15 = .ok (.iload_n 3, 1) := by decide +kernel
theorem dX3_arrange_16 : decode cX3_arrange 16 = .ok (.aload_n 0, 1) := by decide +kernel
theorem dX3_arrange_17 : decode cX3_arrange 17 = .ok (.getfield 27, 3) := by decide +kernel
theorem dX3_arrange_20 : decode cX3_arrange 20 = .ok (.getfield 52, 3) := by decide +kernel
theorem dX3_arrange_23 : decode cX3_arrange 23 = .ok (.if_icmp .ge 35, 3) := by decide +kernel
theorem dX3_arrange_26 : decode cX3_arrange 26 = .ok (.aload_n 0, 1) := by decide +kernel
theorem dX3_arrange_27 : decode cX3_arrange 27 = .ok (.getfield 27, 3) := by decide +kernel
theorem dX3_arrange_30 : decode cX3_arrange 30 = .ok (.iload_n 3, 1) := by decide +kernel
theorem dX3_arrange_31 : decode cX3_arrange 31 = .ok (.invokevirtual 55, 3) := by decide +kernel
theorem dX3_arrange_34 : decode cX3_arrange 34 = .ok (.ifCond .eq 18, 3) := by decide +kernel
theorem dX3_arrange_37 : decode cX3_arrange 37 = .ok (.aload_n 0, 1) := by decide +kernel
theorem dX3_arrange_38 : decode cX3_arrange 38 = .ok (.getfield 45, 3) := by decide +kernel
theorem dX3_arrange_41 : decode cX3_arrange 41 = .ok (.iload_n 2, 1) := by decide +kernel
theorem dX3_arrange_42 : decode cX3_arrange 42 = .ok (.iload_n 3, 1) := by decide +kernel
theorem dX3_arrange_43 : decode cX3_arrange 43 = .ok (.iconst 1, 1) := by decide +kernel
theorem dX3_arrange_44 : decode cX3_arrange 44 = .ok (.iadd, 1) := by decide +kernel
theorem dX3_arrange_45 : decode cX3_arrange 45 = .ok (.invokevirtual 59, 3) := by decide +kernel
theorem dX3_arrange_48 : decode cX3_arrange 48 = .ok (.iload_n 3, 1) := by decide +kernel
theorem dX3_arrange_49 : decode cX3_arrange 49 = .ok (.iconst 1, 1) := by decide +kernel
theorem dX3_arrange_50 : decode cX3_arrange 50 = .ok (.iadd, 1) := by decide +kernel
theorem dX3_arrange_51 : decode cX3_arrange 51 = .ok (.istore_n 2, 1) := by decide +kernel
theorem dX3_arrange_52 : decode cX3_arrange 52 = .ok (.iinc 3 1, 3) := by decide +kernel
theorem dX3_arrange_55 : decode cX3_arrange 55 = .ok (.goto (-44), 3) := by decide +kernel
theorem dX3_arrange_58 : decode cX3_arrange 58 = .ok (.aload_n 0, 1) := by decide +kernel
theorem dX3_arrange_59 : decode cX3_arrange 59 = .ok (.iload_n 1, 1) := by decide +kernel
theorem dX3_arrange_60 : decode cX3_arrange 60 = .ok (.ifCond .eq 13, 3) := by decide +kernel
theorem dX3_arrange_63 : decode cX3_arrange 63 = .ok (.aload_n 0, 1) := by decide +kernel
theorem dX3_arrange_64 : decode cX3_arrange 64 = .ok (.getfield 45, 3) := by decide +kernel
theorem dX3_arrange_67 : decode cX3_arrange 67 = .ok (.getfield 63, 3) := by decide +kernel
theorem dX3_arrange_70 : decode cX3_arrange 70 = .ok (.goto 10, 3) := by decide +kernel
theorem dX3_arrange_73 : decode cX3_arrange 73 = .ok (.aload_n 0, 1) := by decide +kernel
theorem dX3_arrange_74 : decode cX3_arrange 74 = .ok (.getfield 36, 3) := by decide +kernel
theorem dX3_arrange_77 : decode cX3_arrange 77 = .ok (.getfield 66, 3) := by decide +kernel
theorem dX3_arrange_80 : decode cX3_arrange 80 = .ok (.invokevirtual 69, 3) := by decide +kernel
theorem dX3_arrange_83 : decode cX3_arrange 83 = .ok (.return_, 1) := by decide +kernel
theorem dX3_takeLines_0 : decode cX3_takeLines 0 = .ok (.aload_n 0, 1) := by decide +kernel
theorem dX3_takeLines_1 : decode cX3_takeLines 1 = .ok (.iconst 0, 1) := by decide +kernel
theorem dX3_takeLines_2 : decode cX3_takeLines 2 = .ok (.putfield 23, 3) := by decide +kernel
theorem dX3_takeLines_5 : decode cX3_takeLines 5 = .ok (.iconst 0, 1) := by decide +kernel
theorem dX3_takeLines_6 : decode cX3_takeLines 6 = .ok (.istore_n 2, 1) := by decide +kernel
theorem dX3_takeLines_7 : decode cX3_takeLines 7 = .ok (.iconst 0, 1) := by decide +kernel
theorem dX3_takeLines_8 : decode cX3_takeLines 8 = .ok (.istore_n 3, 1) := by decide +kernel
theorem dX3_takeLines_9 : decode cX3_takeLines 9 = .ok (.iload_n 3, 1) := by decide +kernel
theorem dX3_takeLines_10 : decode cX3_takeLines 10 = .ok (.aload_n 0, 1) := by decide +kernel
theorem dX3_takeLines_11 : decode cX3_takeLines 11 = .ok (.getfield 27, 3) := by decide +kernel
theorem dX3_takeLines_14 : decode cX3_takeLines 14 = .ok (.getfield 52, 3) := by decide +kernel
theorem dX3_takeLines_17 : decode cX3_takeLines 17 = .ok (.if_icmp .ge 56, 3) := by decide +kernel
theorem dX3_takeLines_20 : decode cX3_takeLines 20 = .ok (.iload_n 3, 1) := by decide +kernel
theorem dX3_takeLines_21 : decode cX3_takeLines 21 = .ok (.iload_n 2, 1) := by decide +kernel
theorem dX3_takeLines_22 : decode cX3_takeLines 22 = .ok (.if_icmp .ne 31, 3) := by decide +kernel
theorem dX3_takeLines_25 : decode cX3_takeLines 25 = .ok (.aload_n 0, 1) := by decide +kernel
theorem dX3_takeLines_26 : decode cX3_takeLines 26 = .ok (.getfield 14, 3) := by decide +kernel
theorem dX3_takeLines_29 : decode cX3_takeLines 29 = .ok (.aload_n 0, 1) := by decide +kernel
theorem dX3_takeLines_30 : decode cX3_takeLines 30 = .ok (.getfield 23, 3) := by decide +kernel
theorem dX3_takeLines_33 : decode cX3_takeLines 33 = .ok (.iload_n 3, 1) := by decide +kernel
theorem dX3_takeLines_34 : decode cX3_takeLines 34 = .ok (.invokevirtual 73, 3) := by decide +kernel
theorem dX3_takeLines_37 : decode cX3_takeLines 37 = .ok (.aload_n 0, 1) := by decide +kernel
theorem dX3_takeLines_38 : decode cX3_takeLines 38 = .ok (.dup, 1) := by decide +kernel
theorem dX3_takeLines_39 : decode cX3_takeLines 39 = .ok (.getfield 23, 3) := by decide +kernel
theorem dX3_takeLines_42 : decode cX3_takeLines 42 = .ok (.iconst 1, 1) := by decide +kernel
theorem dX3_takeLines_43 : decode cX3_takeLines 43 = .ok (.iadd, 1) := by decide +kernel
theorem dX3_takeLines_44 : decode cX3_takeLines 44 = .ok (.putfield 23, 3) := by decide +kernel
theorem dX3_takeLines_47 : decode cX3_takeLines 47 = .ok (.aload_n 1, 1) := by decide +kernel
theorem dX3_takeLines_48 : decode cX3_takeLines 48 = .ok (.iload_n 3, 1) := by decide +kernel
theorem dX3_takeLines_49 : decode cX3_takeLines 49 = .ok (.invokevirtual 76, 3) := by decide +kernel
theorem dX3_takeLines_52 : decode cX3_takeLines 52 = .ok (.istore_n 2, 1) := by decide +kernel
theorem dX3_takeLines_53 : decode cX3_takeLines 53 = .ok (.aload_n 0, 1) := by decide +kernel
theorem dX3_takeLines_54 : decode cX3_takeLines 54 = .ok (.getfield 20, 3) := by decide +kernel
theorem dX3_takeLines_57 : decode cX3_takeLines 57 = .ok (.iload_n 3, 1) := by decide +kernel
theorem dX3_takeLines_58 : decode cX3_takeLines 58 = .ok (.aload_n 0, 1) := by decide +kernel
theorem dX3_takeLines_59 : decode cX3_takeLines 59 = .ok (.getfield 23, 3) := by decide +kernel
theorem dX3_takeLines_62 : decode cX3_takeLines 62 = .ok (.iconst 1, 1) := by decide +kernel
theorem dX3_takeLines_63 : decode cX3_takeLines 63 = .ok (.isub, 1) := by decide +kernel
theorem dX3_takeLines_64 : decode cX3_takeLines 64 = .ok (.invokevirtual 73, 3) := by decide +kernel
theorem dX3_takeLines_67 : decode cX3_takeLines 67 = .ok (.iinc 3 1, 3) := by decide +kernel
theorem dX3_takeLines_70 : decode cX3_takeLines 70 = .ok (.goto (-61), 3) := by decide +kernel
theorem dX3_takeLines_73 : decode cX3_takeLines 73 = .ok (.aload_n 0, 1) := by decide +kernel
theorem dX3_takeLines_74 : decode cX3_takeLines 74 = .ok (.getfield 14, 3) := by decide +kernel
theorem dX3_takeLines_77 : decode cX3_takeLines 77 = .ok (.aload_n 0, 1) := by decide +kernel
theorem dX3_takeLines_78 : decode cX3_takeLines 78 = .ok (.getfield 23, 3) := by decide +kernel
theorem dX3_takeLines_81 : decode cX3_takeLines 81 = .ok (.aload_n 0, 1) := by decide +kernel
theorem dX3_takeLines_82 : decode cX3_takeLines 82 = .ok (.getfield 27, 3) := by decide +kernel
theorem dX3_takeLines_85 : decode cX3_takeLines 85 = .ok (.getfield 52, 3) := by decide +kernel
theorem dX3_takeLines_88 : decode cX3_takeLines 88 = .ok (.invokevirtual 73, 3) := by decide +kernel
theorem dX3_takeLines_91 : decode cX3_takeLines 91 = .ok (.return_, 1) := by decide +kernel
theorem dX3_widthOfLine_0 : decode cX3_widthOfLine 0 = .ok (.aload_n 0, 1) := by decide +kernel
theorem dX3_widthOfLine_1 : decode cX3_widthOfLine 1 = .ok (.getfield 36, 3) := by decide +kernel
theorem dX3_widthOfLine_4 : decode cX3_widthOfLine 4 = .ok (.aload_n 0, 1) := by decide +kernel
theorem dX3_widthOfLine_5 : decode cX3_widthOfLine 5 = .ok (.getfield 14, 3) := by decide +kernel
theorem dX3_widthOfLine_8 : decode cX3_widthOfLine 8 = .ok (.iload_n 1, 1) := by decide +kernel
theorem dX3_widthOfLine_9 : decode cX3_widthOfLine 9 = .ok (.invokevirtual 76, 3) := by decide +kernel
theorem dX3_widthOfLine_12 : decode cX3_widthOfLine 12 = .ok (.aload_n 0, 1) := by decide +kernel
theorem dX3_widthOfLine_13 : decode cX3_widthOfLine 13 = .ok (.getfield 14, 3) := by decide +kernel
theorem dX3_widthOfLine_16 : decode cX3_widthOfLine 16 = .ok (.iload_n 1, 1) := by decide +kernel
theorem dX3_widthOfLine_17 : decode cX3_widthOfLine 17 = .ok (.iconst 1, 1) := by decide +kernel
theorem dX3_widthOfLine_18 : decode cX3_widthOfLine 18 = .ok (.iadd, 1) := by decide +kernel
theorem dX3_widthOfLine_19 : decode cX3_widthOfLine 19 = .ok (.invokevirtual 76, 3) := by decide +kernel
theorem dX3_widthOfLine_22 : decode cX3_widthOfLine 22 = .ok (.invokevirtual 80, 3) := by decide +kernel
theorem dX3_widthOfLine_25 : decode cX3_widthOfLine 25 = .ok (.ireturn, 1) := by decide +kernel
theorem dX3_isFirstOfParagraph_0 : decode cX3_isFirstOfParagraph 0 = .ok (.aload_n 0, 1) := by decide +kernel
theorem dX3_isFirstOfParagraph_1 : decode cX3_isFirstOfParagraph 1 = .ok (.getfield 14, 3) := by decide +kernel
theorem dX3_isFirstOfParagraph_4 : decode cX3_isFirstOfParagraph 4 = .ok (.iload_n 1, 1) := by decide +kernel
theorem dX3_isFirstOfParagraph_5 : decode cX3_isFirstOfParagraph 5 = .ok (.invokevirtual 76, 3) := by decide +kernel
theorem dX3_isFirstOfParagraph_8 : decode cX3_isFirstOfParagraph 8 = .ok (.istore_n 2, 1) := by decide +kernel
theorem dX3_isFirstOfParagraph_9 : decode cX3_isFirstOfParagraph 9 = .ok (.iload_n 2, 1) := by decide +kernel
theorem dX3_isFirstOfParagraph_10 : decode cX3_isFirstOfParagraph 10 = .ok (.ifCond .eq 16, 3) := by decide +kernel
theorem dX3_isFirstOfParagraph_13 : decode cX3_isFirstOfParagraph 13 = .ok (.aload_n 0, 1) := by decide +kernel
theorem dX3_isFirstOfParagraph_14 : decode cX3_isFirstOfParagraph 14 = .ok (.getfield 27, 3) := by decide +kernel
theorem dX3_isFirstOfParagraph_17 : decode cX3_isFirstOfParagraph 17 = .ok (.iload_n 2, 1) := by decide +kernel
theorem dX3_isFirstOfParagraph_18 : decode cX3_isFirstOfParagraph 18 = .ok (.iconst 1, 1) := by decide +kernel
theorem dX3_isFirstOfParagraph_19 : decode cX3_isFirstOfParagraph 19 = .ok (.isub, 1) := by decide +kernel
theorem dX3_isFirstOfParagraph_20 : decode cX3_isFirstOfParagraph 20 = .ok (.invokevirtual 55, 3) := by decide +kernel
theorem dX3_isFirstOfParagraph_23 : decode cX3_isFirstOfParagraph 23 = .ok (.ifCond .eq 7, 3) := by decide +kernel
theorem dX3_isFirstOfParagraph_26 : decode cX3_isFirstOfParagraph 26 = .ok (.iconst 1, 1) := by decide +kernel
theorem dX3_isFirstOfParagraph_27 : decode cX3_isFirstOfParagraph 27 = .ok (.goto 4, 3) := by decide +kernel
theorem dX3_isFirstOfParagraph_30 : decode cX3_isFirstOfParagraph 30 = .ok (.iconst 0, 1) := by decide +kernel
theorem dX3_isFirstOfParagraph_31 : decode cX3_isFirstOfParagraph 31 = .ok (.ireturn, 1) := by decide +kernel
theorem dX3_isLastOfParagraph_0 : decode cX3_isLastOfParagraph 0 = .ok (.aload_n 0, 1) := by decide +kernel
theorem dX3_isLastOfParagraph_1 : decode cX3_isLastOfParagraph 1 = .ok (.getfield 27, 3) := by decide +kernel
theorem dX3_isLastOfParagraph_4 : decode cX3_isLastOfParagraph 4 = .ok (.aload_n 0, 1) := by decide +kernel
theorem dX3_isLastOfParagraph_5 : decode cX3_isLastOfParagraph 5 = .ok (.getfield 14, 3) := by decide +kernel
theorem dX3_isLastOfParagraph_8 : decode cX3_isLastOfParagraph 8 = .ok (.iload_n 1, 1) := by decide +kernel
theorem dX3_isLastOfParagraph_9 : decode cX3_isLastOfParagraph 9 = .ok (.iconst 1, 1) := by decide +kernel
theorem dX3_isLastOfParagraph_10 : decode cX3_isLastOfParagraph 10 = .ok (.iadd, 1) := by decide +kernel
theorem dX3_isLastOfParagraph_11 : decode cX3_isLastOfParagraph 11 = .ok (.invokevirtual 76, 3) := by decide +kernel
theorem dX3_isLastOfParagraph_14 : decode cX3_isLastOfParagraph 14 = .ok (.iconst 1, 1) := by decide +kernel
theorem dX3_isLastOfParagraph_15 : decode cX3_isLastOfParagraph 15 = .ok (.isub, 1) := by decide +kernel
theorem dX3_isLastOfParagraph_16 : decode cX3_isLastOfParagraph 16 = .ok (.invokevirtual 55, 3) := by decide +kernel
theorem dX3_isLastOfParagraph_19 : decode cX3_isLastOfParagraph 19 = .ok (.ireturn, 1) := by decide +kernel
theorem dX3_opensParagraph_0 : decode cX3_opensParagraph 0 = .ok (.aload_n 0, 1) := by decide +kernel
theorem dX3_opensParagraph_1 : decode cX3_opensParagraph 1 = .ok (.iload_n 1, 1) := by decide +kernel
theorem dX3_opensParagraph_2 : decode cX3_opensParagraph 2 = .ok (.invokevirtual 84, 3) := by decide +kernel
theorem dX3_opensParagraph_5 : decode cX3_opensParagraph 5 = .ok (.ifCond .eq 15, 3) := by decide +kernel
theorem dX3_opensParagraph_8 : decode cX3_opensParagraph 8 = .ok (.aload_n 0, 1) := by decide +kernel
theorem dX3_opensParagraph_9 : decode cX3_opensParagraph 9 = .ok (.iload_n 1, 1) := by decide +kernel
theorem dX3_opensParagraph_10 : decode cX3_opensParagraph 10 = .ok (.invokevirtual 87, 3) := by decide +kernel
theorem dX3_opensParagraph_13 : decode cX3_opensParagraph 13 = .ok (.ifCond .ne 7, 3) := by decide +kernel
theorem dX3_opensParagraph_16 : decode cX3_opensParagraph 16 = .ok (.iconst 1, 1) := by decide +kernel
theorem dX3_opensParagraph_17 : decode cX3_opensParagraph 17 = .ok (.goto 4, 3) := by decide +kernel
theorem dX3_opensParagraph_20 : decode cX3_opensParagraph 20 = .ok (.iconst 0, 1) := by decide +kernel
theorem dX3_opensParagraph_21 : decode cX3_opensParagraph 21 = .ok (.ireturn, 1) := by decide +kernel
theorem dX3_closesParagraph_0 : decode cX3_closesParagraph 0 = .ok (.aload_n 0, 1) := by decide +kernel
theorem dX3_closesParagraph_1 : decode cX3_closesParagraph 1 = .ok (.iload_n 1, 1) := by decide +kernel
theorem dX3_closesParagraph_2 : decode cX3_closesParagraph 2 = .ok (.invokevirtual 87, 3) := by decide +kernel
theorem dX3_closesParagraph_5 : decode cX3_closesParagraph 5 = .ok (.ifCond .eq 15, 3) := by decide +kernel
theorem dX3_closesParagraph_8 : decode cX3_closesParagraph 8 = .ok (.aload_n 0, 1) := by decide +kernel
theorem dX3_closesParagraph_9 : decode cX3_closesParagraph 9 = .ok (.iload_n 1, 1) := by decide +kernel
theorem dX3_closesParagraph_10 : decode cX3_closesParagraph 10 = .ok (.invokevirtual 84, 3) := by decide +kernel
theorem dX3_closesParagraph_13 : decode cX3_closesParagraph 13 = .ok (.ifCond .ne 7, 3) := by decide +kernel
theorem dX3_closesParagraph_16 : decode cX3_closesParagraph 16 = .ok (.iconst 1, 1) := by decide +kernel
theorem dX3_closesParagraph_17 : decode cX3_closesParagraph 17 = .ok (.goto 4, 3) := by decide +kernel
theorem dX3_closesParagraph_20 : decode cX3_closesParagraph 20 = .ok (.iconst 0, 1) := by decide +kernel
theorem dX3_closesParagraph_21 : decode cX3_closesParagraph 21 = .ok (.ireturn, 1) := by decide +kernel
theorem dX3_stairAround_0 : decode cX3_stairAround 0 = .ok (.aload_n 0, 1) := by decide +kernel
theorem dX3_stairAround_1 : decode cX3_stairAround 1 = .ok (.iload_n 1, 1) := by decide +kernel
theorem dX3_stairAround_2 : decode cX3_stairAround 2 = .ok (.invokevirtual 84, 3) := by decide +kernel
theorem dX3_stairAround_5 : decode cX3_stairAround 5 = .ok (.ifCond .ne 21, 3) := by decide +kernel
theorem dX3_stairAround_8 : decode cX3_stairAround 8 = .ok (.aload_n 0, 1) := by decide +kernel
theorem dX3_stairAround_9 : decode cX3_stairAround 9 = .ok (.iload_n 1, 1) := by decide +kernel
theorem dX3_stairAround_10 : decode cX3_stairAround 10 = .ok (.invokevirtual 87, 3) := by decide +kernel
theorem dX3_stairAround_13 : decode cX3_stairAround 13 = .ok (.ifCond .ne 13, 3) := by decide +kernel
theorem dX3_stairAround_16 : decode cX3_stairAround 16 = .ok (.aload_n 0, 1) := by decide +kernel
theorem dX3_stairAround_17 : decode cX3_stairAround 17 = .ok (.iload_n 1, 1) := by decide +kernel
theorem dX3_stairAround_18 : decode cX3_stairAround 18 = .ok (.iconst 1, 1) := by decide +kernel
theorem dX3_stairAround_19 : decode cX3_stairAround 19 = .ok (.iadd, 1) := by decide +kernel
theorem dX3_stairAround_20 : decode cX3_stairAround 20 = .ok (.invokevirtual 87, 3) := by decide +kernel
theorem dX3_stairAround_23 : decode cX3_stairAround 23 = .ok (.ifCond .eq 5, 3) := by decide +kernel
theorem dX3_stairAround_26 : decode cX3_stairAround 26 = .ok (.iconst 0, 1) := by decide +kernel
theorem dX3_stairAround_27 : decode cX3_stairAround 27 = .ok (.ireturn, 1) := by decide +kernel
theorem dX3_stairAround_28 : decode cX3_stairAround 28 = .ok (.aload_n 0, 1) := by decide +kernel
theorem dX3_stairAround_29 : decode cX3_stairAround 29 = .ok (.getfield 27, 3) := by decide +kernel
theorem dX3_stairAround_32 : decode cX3_stairAround 32 = .ok (.aload_n 0, 1) := by decide +kernel
theorem dX3_stairAround_33 : decode cX3_stairAround 33 = .ok (.iload_n 1, 1) := by decide +kernel
theorem dX3_stairAround_34 : decode cX3_stairAround 34 = .ok (.iconst 1, 1) := by decide +kernel
theorem dX3_stairAround_35 : decode cX3_stairAround 35 = .ok (.isub, 1) := by decide +kernel
theorem dX3_stairAround_36 : decode cX3_stairAround 36 = .ok (.invokevirtual 90, 3) := by decide +kernel
theorem dX3_stairAround_39 : decode cX3_stairAround 39 = .ok (.aload_n 0, 1) := by decide +kernel
theorem dX3_stairAround_40 : decode cX3_stairAround 40 = .ok (.iload_n 1, 1) := by decide +kernel
theorem dX3_stairAround_41 : decode cX3_stairAround 41 = .ok (.invokevirtual 90, 3) := by decide +kernel
theorem dX3_stairAround_44 : decode cX3_stairAround 44 = .ok (.invokevirtual 93, 3) := by decide +kernel
theorem dX3_stairAround_47 : decode cX3_stairAround 47 = .ok (.istore_n 2, 1) := by decide +kernel
theorem dX3_stairAround_48 : decode cX3_stairAround 48 = .ok (.iload_n 2, 1) := by decide +kernel
theorem dX3_stairAround_49 : decode cX3_stairAround 49 = .ok (.aload_n 0, 1) := by decide +kernel
theorem dX3_stairAround_50 : decode cX3_stairAround 50 = .ok (.getfield 27, 3) := by decide +kernel
theorem dX3_stairAround_53 : decode cX3_stairAround 53 = .ok (.aload_n 0, 1) := by decide +kernel
theorem dX3_stairAround_54 : decode cX3_stairAround 54 = .ok (.iload_n 1, 1) := by decide +kernel
theorem dX3_stairAround_55 : decode cX3_stairAround 55 = .ok (.invokevirtual 90, 3) := by decide +kernel
theorem dX3_stairAround_58 : decode cX3_stairAround 58 = .ok (.aload_n 0, 1) := by decide +kernel
theorem dX3_stairAround_59 : decode cX3_stairAround 59 = .ok (.iload_n 1, 1) := by decide +kernel
theorem dX3_stairAround_60 : decode cX3_stairAround 60 = .ok (.iconst 1, 1) := by decide +kernel
theorem dX3_stairAround_61 : decode cX3_stairAround 61 = .ok (.iadd, 1) := by decide +kernel
theorem dX3_stairAround_62 : decode cX3_stairAround 62 = .ok (.invokevirtual 90, 3) := by decide +kernel
theorem dX3_stairAround_65 : decode cX3_stairAround 65 = .ok (.invokevirtual 93, 3) := by decide +kernel
theorem dX3_stairAround_68 : decode cX3_stairAround 68 = .ok (.if_icmp .ne 7, 3) := by decide +kernel
theorem dX3_stairAround_71 : decode cX3_stairAround 71 = .ok (.iload_n 2, 1) := by decide +kernel
theorem dX3_stairAround_72 : decode cX3_stairAround 72 = .ok (.goto 4, 3) := by decide +kernel
theorem dX3_stairAround_75 : decode cX3_stairAround 75 = .ok (.iconst 0, 1) := by decide +kernel
theorem dX3_stairAround_76 : decode cX3_stairAround 76 = .ok (.ireturn, 1) := by decide +kernel
theorem dX3_countStairs_0 : decode cX3_countStairs 0 = .ok (.iconst 0, 1) := by decide +kernel
theorem dX3_countStairs_1 : decode cX3_countStairs 1 = .ok (.istore_n 1, 1) := by decide +kernel
theorem dX3_countStairs_2 : decode cX3_countStairs 2 = .ok (.iconst 0, 1) := by decide +kernel
theorem dX3_countStairs_3 : decode cX3_countStairs 3 = .ok (.istore_n 2, 1) := by decide +kernel
theorem dX3_countStairs_4 : decode cX3_countStairs 4 = .ok (.iload_n 2, 1) := by decide +kernel
theorem dX3_countStairs_5 : decode cX3_countStairs 5 = .ok (.aload_n 0, 1) := by decide +kernel
theorem dX3_countStairs_6 : decode cX3_countStairs 6 = .ok (.getfield 23, 3) := by decide +kernel
theorem dX3_countStairs_9 : decode cX3_countStairs 9 = .ok (.if_icmp .ge 20, 3) := by decide +kernel
theorem dX3_countStairs_12 : decode cX3_countStairs 12 = .ok (.aload_n 0, 1) := by decide +kernel
theorem dX3_countStairs_13 : decode cX3_countStairs 13 = .ok (.iload_n 2, 1) := by decide +kernel
theorem dX3_countStairs_14 : decode cX3_countStairs 14 = .ok (.invokevirtual 96, 3) := by decide +kernel
theorem dX3_countStairs_17 : decode cX3_countStairs 17 = .ok (.ifCond .eq 6, 3) := by decide +kernel
theorem dX3_countStairs_20 : decode cX3_countStairs 20 = .ok (.iinc 1 1, 3) := by decide +kernel
theorem dX3_countStairs_23 : decode cX3_countStairs 23 = .ok (.iinc 2 1, 3) := by decide +kernel
theorem dX3_countStairs_26 : decode cX3_countStairs 26 = .ok (.goto (-22), 3) := by decide +kernel
theorem dX3_countStairs_29 : decode cX3_countStairs 29 = .ok (.iload_n 1, 1) := by decide +kernel
theorem dX3_countStairs_30 : decode cX3_countStairs 30 = .ok (.ireturn, 1) := by decide +kernel
theorem dX3_totalCost_0 : decode cX3_totalCost 0 = .ok (.iconst 0, 1) := by decide +kernel
theorem dX3_totalCost_1 : decode cX3_totalCost 1 = .ok (.istore_n 1, 1) := by decide +kernel
theorem dX3_totalCost_2 : decode cX3_totalCost 2 = .ok (.iconst 0, 1) := by decide +kernel
theorem dX3_totalCost_3 : decode cX3_totalCost 3 = .ok (.istore_n 2, 1) := by decide +kernel
theorem dX3_totalCost_4 : decode cX3_totalCost 4 = .ok (.iload_n 2, 1) := by decide +kernel
theorem dX3_totalCost_5 : decode cX3_totalCost 5 = .ok (.aload_n 0, 1) := by decide +kernel
theorem dX3_totalCost_6 : decode cX3_totalCost 6 = .ok (.getfield 23, 3) := by decide +kernel
theorem dX3_totalCost_9 : decode cX3_totalCost 9 = .ok (.if_icmp .ge 72, 3) := by decide +kernel
theorem dX3_totalCost_12 : decode cX3_totalCost 12 = .ok (.aload_n 0, 1) := by decide +kernel
theorem dX3_totalCost_13 : decode cX3_totalCost 13 = .ok (.iload_n 2, 1) := by decide +kernel
theorem dX3_totalCost_14 : decode cX3_totalCost 14 = .ok (.invokevirtual 90, 3) := by decide +kernel
theorem dX3_totalCost_17 : decode cX3_totalCost 17 = .ok (.istore_n 3, 1) := by decide +kernel
theorem dX3_totalCost_18 : decode cX3_totalCost 18 = .ok (.iload_n 1, 1) := by decide +kernel
theorem dX3_totalCost_19 : decode cX3_totalCost 19 = .ok (.aload_n 0, 1) := by decide +kernel
theorem dX3_totalCost_20 : decode cX3_totalCost 20 = .ok (.iload_n 2, 1) := by decide +kernel
theorem dX3_totalCost_21 : decode cX3_totalCost 21 = .ok (.invokevirtual 87, 3) := by decide +kernel
theorem dX3_totalCost_24 : decode cX3_totalCost 24 = .ok (.ifCond .eq 19, 3) := by decide +kernel
theorem dX3_totalCost_27 : decode cX3_totalCost 27 = .ok (.aload_n 0, 1) := by decide +kernel
theorem dX3_totalCost_28 : decode cX3_totalCost 28 = .ok (.getfield 27, 3) := by decide +kernel
theorem dX3_totalCost_31 : decode cX3_totalCost 31 = .ok (.iload_n 3, 1) := by decide +kernel
theorem dX3_totalCost_32 : decode cX3_totalCost 32 = .ok (.aload_n 0, 1) := by decide +kernel
theorem dX3_totalCost_33 : decode cX3_totalCost 33 = .ok (.iload_n 2, 1) := by decide +kernel
theorem dX3_totalCost_34 : decode cX3_totalCost 34 = .ok (.invokevirtual 84, 3) := by decide +kernel
theorem dX3_totalCost_37 : decode cX3_totalCost 37 = .ok (.invokevirtual 99, 3) := by decide +kernel
theorem dX3_totalCost_40 : decode cX3_totalCost 40 = .ok (.goto 11, 3) := by decide +kernel
theorem dX3_totalCost_43 : decode cX3_totalCost 43 = .ok (.aload_n 0, 1) := by decide +kernel
theorem dX3_totalCost_44 : decode cX3_totalCost 44 = .ok (.getfield 27, 3) := by decide +kernel
theorem dX3_totalCost_47 : decode cX3_totalCost 47 = .ok (.iload_n 3, 1) := by decide +kernel
theorem dX3_totalCost_48 : decode cX3_totalCost 48 = .ok (.invokevirtual 103, 3) := by decide +kernel
theorem dX3_totalCost_51 : decode cX3_totalCost 51 = .ok (.iadd, 1) := by decide +kernel
theorem dX3_totalCost_52 : decode cX3_totalCost 52 = .ok (.istore_n 1, 1) := by decide +kernel
theorem dX3_totalCost_53 : decode cX3_totalCost 53 = .ok (.iload_n 1, 1) := by decide +kernel
theorem dX3_totalCost_54 : decode cX3_totalCost 54 = .ok (.aload_n 0, 1) := by decide +kernel
theorem dX3_totalCost_55 : decode cX3_totalCost 55 = .ok (.iload_n 2, 1) := by decide +kernel
theorem dX3_totalCost_56 : decode cX3_totalCost 56 = .ok (.invokevirtual 96, 3) := by decide +kernel
theorem dX3_totalCost_59 : decode cX3_totalCost 59 = .ok (.ifCond .eq 13, 3) := by decide +kernel
theorem dX3_totalCost_62 : decode cX3_totalCost 62 = .ok (.aload_n 0, 1) := by decide +kernel
theorem dX3_totalCost_63 : decode cX3_totalCost 63 = .ok (.getfield 27, 3) := by decide +kernel
theorem dX3_totalCost_66 : decode cX3_totalCost 66 = .ok (.getfield 106, 3) := by decide +kernel
theorem dX3_totalCost_69 : decode cX3_totalCost 69 = .ok (.goto 4, 3) := by decide +kernel
theorem dX3_totalCost_72 : decode cX3_totalCost 72 = .ok (.iconst 0, 1) := by decide +kernel
theorem dX3_totalCost_73 : decode cX3_totalCost 73 = .ok (.iadd, 1) := by decide +kernel
theorem dX3_totalCost_74 : decode cX3_totalCost 74 = .ok (.istore_n 1, 1) := by decide +kernel
theorem dX3_totalCost_75 : decode cX3_totalCost 75 = .ok (.iinc 2 1, 3) := by decide +kernel
theorem dX3_totalCost_78 : decode cX3_totalCost 78 = .ok (.goto (-74), 3) := by decide +kernel
theorem dX3_totalCost_81 : decode cX3_totalCost 81 = .ok (.iload_n 1, 1) := by decide +kernel
theorem dX3_totalCost_82 : decode cX3_totalCost 82 = .ok (.ireturn, 1) := by decide +kernel
theorem dX3_reasonBehind_0 : decode cX3_reasonBehind 0 = .ok (.aload_n 0, 1) := by decide +kernel
theorem dX3_reasonBehind_1 : decode cX3_reasonBehind 1 = .ok (.getfield 20, 3) := by decide +kernel
theorem dX3_reasonBehind_4 : decode cX3_reasonBehind 4 = .ok (.iload_n 1, 1) := by decide +kernel
theorem dX3_reasonBehind_5 : decode cX3_reasonBehind 5 = .ok (.invokevirtual 76, 3) := by decide +kernel
theorem dX3_reasonBehind_8 : decode cX3_reasonBehind 8 = .ok (.istore_n 2, 1) := by decide +kernel
theorem dX3_reasonBehind_9 : decode cX3_reasonBehind 9 = .ok (.aload_n 0, 1) := by decide +kernel
theorem dX3_reasonBehind_10 : decode cX3_reasonBehind 10 = .ok (.getfield 14, 3) := by decide +kernel
theorem dX3_reasonBehind_13 : decode cX3_reasonBehind 13 = .ok (.iload_n 2, 1) := by decide +kernel
theorem dX3_reasonBehind_14 : decode cX3_reasonBehind 14 = .ok (.iconst 1, 1) := by decide +kernel
theorem dX3_reasonBehind_15 : decode cX3_reasonBehind 15 = .ok (.iadd, 1) := by decide +kernel
theorem dX3_reasonBehind_16 : decode cX3_reasonBehind 16 = .ok (.invokevirtual 76, 3) := by decide +kernel
theorem dX3_reasonBehind_19 : decode cX3_reasonBehind 19 = .ok (.iload_n 1, 1) := by decide +kernel
theorem dX3_reasonBehind_20 : decode cX3_reasonBehind 20 = .ok (.iconst 1, 1) := by decide +kernel
theorem dX3_reasonBehind_21 : decode cX3_reasonBehind 21 = .ok (.iadd, 1) := by decide +kernel
theorem dX3_reasonBehind_22 : decode cX3_reasonBehind 22 = .ok (.if_icmp .eq 5, 3) := by decide +kernel
theorem dX3_reasonBehind_25 : decode cX3_reasonBehind 25 = .ok (.iconst 0, 1) := by decide +kernel
theorem dX3_reasonBehind_26 : decode cX3_reasonBehind 26 = .ok (.ireturn, 1) := by decide +kernel
theorem dX3_reasonBehind_27 : decode cX3_reasonBehind 27 = .ok (.aload_n 0, 1) := by decide +kernel
theorem dX3_reasonBehind_28 : decode cX3_reasonBehind 28 = .ok (.getfield 27, 3) := by decide +kernel
theorem dX3_reasonBehind_31 : decode cX3_reasonBehind 31 = .ok (.iload_n 1, 1) := by decide +kernel
theorem dX3_reasonBehind_32 : decode cX3_reasonBehind 32 = .ok (.invokevirtual 55, 3) := by decide +kernel
theorem dX3_reasonBehind_35 : decode cX3_reasonBehind 35 = .ok (.ifCond .eq 5, 3) := by decide +kernel
theorem dX3_reasonBehind_38 : decode cX3_reasonBehind 38 = .ok (.iconst 1, 1) := by decide +kernel
theorem dX3_reasonBehind_39 : decode cX3_reasonBehind 39 = .ok (.ireturn, 1) := by decide +kernel
theorem dX3_reasonBehind_40 : decode cX3_reasonBehind 40 = .ok (.aload_n 0, 1) := by decide +kernel
theorem dX3_reasonBehind_41 : decode cX3_reasonBehind 41 = .ok (.getfield 27, 3) := by decide +kernel
theorem dX3_reasonBehind_44 : decode cX3_reasonBehind 44 = .ok (.getfield 109, 3) := by decide +kernel
theorem dX3_reasonBehind_47 : decode cX3_reasonBehind 47 = .ok (.iload_n 1, 1) := by decide +kernel
theorem dX3_reasonBehind_48 : decode cX3_reasonBehind 48 = .ok (.invokevirtual 76, 3) := by decide +kernel
theorem dX3_reasonBehind_51 : decode cX3_reasonBehind 51 = .ok (.iconst 1, 1) := by decide +kernel
theorem dX3_reasonBehind_52 : decode cX3_reasonBehind 52 = .ok (.if_icmp .ne 5, 3) := by decide +kernel
theorem dX3_reasonBehind_55 : decode cX3_reasonBehind 55 = .ok (.iconst 2, 1) := by decide +kernel
theorem dX3_reasonBehind_56 : decode cX3_reasonBehind 56 = .ok (.ireturn, 1) := by decide +kernel
theorem dX3_reasonBehind_57 : decode cX3_reasonBehind 57 = .ok (.aload_n 0, 1) := by decide +kernel
theorem dX3_reasonBehind_58 : decode cX3_reasonBehind 58 = .ok (.getfield 36, 3) := by decide +kernel
theorem dX3_reasonBehind_61 : decode cX3_reasonBehind 61 = .ok (.aload_n 0, 1) := by decide +kernel
theorem dX3_reasonBehind_62 : decode cX3_reasonBehind 62 = .ok (.getfield 14, 3) := by decide +kernel
theorem dX3_reasonBehind_65 : decode cX3_reasonBehind 65 = .ok (.iload_n 2, 1) := by decide +kernel
theorem dX3_reasonBehind_66 : decode cX3_reasonBehind 66 = .ok (.invokevirtual 76, 3) := by decide +kernel
theorem dX3_reasonBehind_69 : decode cX3_reasonBehind 69 = .ok (.iload_n 1, 1) := by decide +kernel
theorem dX3_reasonBehind_70 : decode cX3_reasonBehind 70 = .ok (.iconst 2, 1) := by decide +kernel
theorem dX3_reasonBehind_71 : decode cX3_reasonBehind 71 = .ok (.iadd, 1) := by decide +kernel
theorem dX3_reasonBehind_72 : decode cX3_reasonBehind 72 = .ok (.invokevirtual 80, 3) := by decide +kernel
theorem dX3_reasonBehind_75 : decode cX3_reasonBehind 75 = .ok (.aload_n 0, 1) := by decide +kernel
theorem dX3_reasonBehind_76 : decode cX3_reasonBehind 76 = .ok (.getfield 27, 3) := by decide +kernel
theorem dX3_reasonBehind_79 : decode cX3_reasonBehind 79 = .ok (.getfield 112, 3) := by decide +kernel
theorem dX3_reasonBehind_82 : decode cX3_reasonBehind 82 = .ok (.if_icmp .le 7, 3) := by decide +kernel
theorem dX3_reasonBehind_85 : decode cX3_reasonBehind 85 = .ok (.iconst 3, 1) := by decide +kernel
theorem dX3_reasonBehind_86 : decode cX3_reasonBehind 86 = .ok (.goto 4, 3) := by decide +kernel
theorem dX3_reasonBehind_89 : decode cX3_reasonBehind 89 = .ok (.iconst 4, 1) := by decide +kernel
theorem dX3_reasonBehind_90 : decode cX3_reasonBehind 90 = .ok (.ireturn, 1) := by decide +kernel
theorem dX4_init_0 : decode cX4_init 0 = .ok (.aload_n 0, 1) := by decide +kernel
theorem dX4_init_1 : decode cX4_init 1 = .ok (.invokespecial 5, 3) := by decide +kernel
theorem dX4_init_4 : decode cX4_init 4 = .ok (.aload_n 0, 1) := by decide +kernel
theorem dX4_init_5 : decode cX4_init 5 = .ok (.new 11, 3) := by decide +kernel
theorem dX4_init_8 : decode cX4_init 8 = .ok (.dup, 1) := by decide +kernel
theorem dX4_init_9 : decode cX4_init 9 = .ok (.sipush 2460, 3) := by decide +kernel
theorem dX4_init_12 : decode cX4_init 12 = .ok (.invokespecial 13, 3) := by decide +kernel
theorem dX4_init_15 : decode cX4_init 15 = .ok (.putfield 16, 3) := by decide +kernel
theorem dX4_init_18 : decode cX4_init 18 = .ok (.aload_n 0, 1) := by decide +kernel
theorem dX4_init_19 : decode cX4_init 19 = .ok (.new 11, 3) := by decide +kernel
theorem dX4_init_22 : decode cX4_init 22 = .ok (.dup, 1) := by decide +kernel
theorem dX4_init_23 : decode cX4_init 23 = .ok (.sipush 2460, 3) := by decide +kernel
theorem dX4_init_26 : decode cX4_init 26 = .ok (.invokespecial 13, 3) := by decide +kernel
theorem dX4_init_29 : decode cX4_init 29 = .ok (.putfield 20, 3) := by decide +kernel
theorem dX4_init_32 : decode cX4_init 32 = .ok (.aload_n 0, 1) := by decide +kernel
theorem dX4_init_33 : decode cX4_init 33 = .ok (.new 11, 3) := by decide +kernel
theorem dX4_init_36 : decode cX4_init 36 = .ok (.dup, 1) := by decide +kernel
theorem dX4_init_37 : decode cX4_init 37 = .ok (.bipush 40, 2) := by decide +kernel
theorem dX4_init_39 : decode cX4_init 39 = .ok (.invokespecial 13, 3) := by decide +kernel
theorem dX4_init_42 : decode cX4_init 42 = .ok (.putfield 23, 3) := by decide +kernel
theorem dX4_init_45 : decode cX4_init 45 = .ok (.aload_n 0, 1) := by decide +kernel
theorem dX4_init_46 : decode cX4_init 46 = .ok (.aload_n 1, 1) := by decide +kernel
theorem dX4_init_47 : decode cX4_init 47 = .ok (.putfield 26, 3) := by decide +kernel
theorem dX4_init_50 : decode cX4_init 50 = .ok (.aload_n 0, 1) := by decide +kernel
theorem dX4_init_51 : decode cX4_init 51 = .ok (.aload_n 2, 1) := by decide +kernel
theorem dX4_init_52 : decode cX4_init 52 = .ok (.putfield 30, 3) := by decide +kernel
theorem dX4_init_55 : decode cX4_init 55 = .ok (.return_, 1) := by decide +kernel
theorem dX4_solve_0 : decode cX4_solve 0 = .ok (.iload_n 2, 1) := by decide +kernel
theorem dX4_solve_1 : decode cX4_solve 1 = .ok (.iconst 1, 1) := by decide +kernel
theorem dX4_solve_2 : decode cX4_solve 2 = .ok (.isub, 1) := by decide +kernel
theorem dX4_solve_3 : decode cX4_solve 3 = .ok (.istore_n 3, 1) := by decide +kernel
theorem dX4_solve_4 : decode cX4_solve 4 = .ok (.iload_n 3, 1) := by decide +kernel
theorem dX4_solve_5 : decode cX4_solve 5 = .ok (.iload_n 1, 1) := by decide +kernel
theorem dX4_solve_6 : decode cX4_solve 6 = .ok (.if_icmp .le 48, 3) := by decide +kernel
theorem dX4_solve_9 : decode cX4_solve 9 = .ok (.iload_n 1, 1) := by decide +kernel
theorem dX4_solve_10 : decode cX4_solve 10 = .ok (.istore 4, 2) := by decide +kernel
theorem dX4_solve_12 : decode cX4_solve 12 = .ok (.iload 4, 2) := by decide +kernel
theorem dX4_solve_14 : decode cX4_solve 14 = .ok (.iload_n 3, 1) := by decide +kernel
theorem dX4_solve_15 : decode cX4_solve 15 = .ok (.if_icmp .ge 33, 3) := by decide +kernel
theorem dX4_solve_18 : decode cX4_solve 18 = .ok (.aload_n 0, 1) := by decide +kernel
theorem dX4_solve_19 : decode cX4_solve 19 = .ok (.getfield 30, 3) := by decide +kernel
theorem dX4_solve_22 : decode cX4_solve 22 = .ok (.getfield 34, 3) := by decide +kernel
theorem dX4_solve_25 : decode cX4_solve 25 = .ok (.iload 4, 2) := by decide +kernel
theorem dX4_solve_27 : decode cX4_solve 27 = .ok (.invokevirtual 39, 3) := by decide +kernel
theorem dX4_solve_30 : decode cX4_solve 30 = .ok (.iload_n 3, 1) := by decide +kernel
theorem dX4_solve_31 : decode cX4_solve 31 = .ok (.if_icmp .lt 11, 3) := by decide +kernel
theorem dX4_solve_34 : decode cX4_solve 34 = .ok (.aload_n 0, 1) := by decide +kernel
theorem dX4_solve_35 : decode cX4_solve 35 = .ok (.iload 4, 2) := by decide +kernel
theorem dX4_solve_37 : decode cX4_solve 37 = .ok (.iload_n 3, 1) := by decide +kernel
theorem dX4_solve_38 : decode cX4_solve 38 = .ok (.iload_n 2, 1) := by decide +kernel
theorem dX4_solve_39 : decode cX4_solve 39 = .ok (.invokevirtual 43, 3) := by decide +kernel
theorem dX4_solve_42 : decode cX4_solve 42 = .ok (.iinc 4 1, 3) := by decide +kernel
theorem dX4_solve_45 : decode cX4_solve 45 = .ok (.goto (-33), 3) := by decide +kernel
theorem dX4_solve_48 : decode cX4_solve 48 = .ok (.iinc 3 (-1), 3) := by decide +kernel
theorem dX4_solve_51 : decode cX4_solve 51 = .ok (.goto (-47), 3) := by decide +kernel
theorem dX4_solve_54 : decode cX4_solve 54 = .ok (.aload_n 0, 1) := by decide +kernel
theorem dX4_solve_55 : decode cX4_solve 55 = .ok (.iload_n 1, 1) := by decide +kernel
theorem dX4_solve_56 : decode cX4_solve 56 = .ok (.iload_n 1, 1) := by decide +kernel
theorem dX4_solve_57 : decode cX4_solve 57 = .ok (.iload_n 2, 1) := by decide +kernel
theorem dX4_solve_58 : decode cX4_solve 58 = .ok (.invokevirtual 43, 3) := by decide +kernel
theorem dX4_solve_61 : decode cX4_solve 61 = .ok (.aload_n 0, 1) := by decide +kernel
theorem dX4_solve_62 : decode cX4_solve 62 = .ok (.iload_n 1, 1) := by decide +kernel
theorem dX4_solve_63 : decode cX4_solve 63 = .ok (.iload_n 2, 1) := by decide +kernel
theorem dX4_solve_64 : decode cX4_solve 64 = .ok (.invokevirtual 47, 3) := by decide +kernel
theorem dX4_solve_67 : decode cX4_solve 67 = .ok (.return_, 1) := by decide +kernel
theorem dX4_weigh_0 : decode cX4_weigh 0 = .ok (.iconst (-1), 1) := by decide +kernel
theorem dX4_weigh_1 : decode cX4_weigh 1 = .ok (.istore 4, 2) := by decide +kernel
theorem dX4_weigh_3 : decode cX4_weigh 3 = .ok (.iload 4, 2) := by decide +kernel
theorem dX4_weigh_5 : decode cX4_weigh 5 = .ok (.iconst 1, 1) := by decide +kernel
theorem dX4_weigh_6 : decode cX4_weigh 6 = .ok (.if_icmp .gt 25, 3) := by decide +kernel
theorem dX4_weigh_9 : decode cX4_weigh 9 = .ok (.aload_n 0, 1) := by decide +kernel
theorem dX4_weigh_10 : decode cX4_weigh 10 = .ok (.getfield 16, 3) := by decide +kernel
theorem dX4_weigh_13 : decode cX4_weigh 13 = .ok (.iload_n 1, 1) := by decide +kernel
theorem dX4_weigh_14 : decode cX4_weigh 14 = .ok (.iload_n 2, 1) := by decide +kernel
theorem dX4_weigh_15 : decode cX4_weigh 15 = .ok (.iload 4, 2) := by decide +kernel
theorem dX4_weigh_17 : decode cX4_weigh 17 = .ok (.invokestatic 51, 3) := by decide +kernel
theorem dX4_weigh_20 : decode cX4_weigh 20 = .ok (.ldc 57, 2) := by decide +kernel
theorem dX4_weigh_22 : decode cX4_weigh 22 = .ok (.invokevirtual 58, 3) := by decide +kernel
theorem dX4_weigh_25 : decode cX4_weigh 25 = .ok (.iinc 4 1, 3) := by decide +kernel
theorem dX4_weigh_28 : decode cX4_weigh 28 = .ok (.goto (-25), 3) := by decide +kernel
theorem dX4_weigh_31 : decode cX4_weigh 31 = .ok (.aload_n 0, 1) := by decide +kernel
theorem dX4_weigh_32 : decode cX4_weigh 32 = .ok (.getfield 30, 3) := by decide +kernel
theorem dX4_weigh_35 : decode cX4_weigh 35 = .ok (.iload_n 1, 1) := by decide +kernel
theorem dX4_weigh_36 : decode cX4_weigh 36 = .ok (.iload_n 2, 1) := by decide +kernel
theorem dX4_weigh_37 : decode cX4_weigh 37 = .ok (.invokevirtual 61, 3) := by decide +kernel
theorem dX4_weigh_40 : decode cX4_weigh 40 = .ok (.istore 4, 2) := by decide +kernel
theorem dX4_weigh_42 : decode cX4_weigh 42 = .ok (.aload_n 0, 1) := by decide +kernel
theorem dX4_weigh_43 : decode cX4_weigh 43 = .ok (.getfield 30, 3) := by decide +kernel
theorem dX4_weigh_46 : decode cX4_weigh 46 = .ok (.getfield 34, 3) := by decide +kernel
theorem dX4_weigh_49 : decode cX4_weigh 49 = .ok (.iload_n 2, 1) := by decide +kernel
theorem dX4_weigh_50 : decode cX4_weigh 50 = .ok (.invokevirtual 39, 3) := by decide +kernel
theorem dX4_weigh_53 : decode cX4_weigh 53 = .ok (.istore 5, 2) := by decide +kernel
theorem dX4_weigh_55 : decode cX4_weigh 55 = .ok (.iload 5, 2) := by decide +kernel
theorem dX4_weigh_57 : decode cX4_weigh 57 = .ok (.iload_n 2, 1) := by decide +kernel
theorem dX4_weigh_58 : decode cX4_weigh 58 = .ok (.if_icmp .le 191, 3) := by decide +kernel
theorem dX4_weigh_61 : decode cX4_weigh 61 = .ok (.aload_n 0, 1) := by decide +kernel
theorem dX4_weigh_62 : decode cX4_weigh 62 = .ok (.getfield 30, 3) := by decide +kernel
theorem dX4_weigh_65 : decode cX4_weigh 65 = .ok (.iload_n 2, 1) := by decide +kernel
theorem dX4_weigh_66 : decode cX4_weigh 66 = .ok (.iload 5, 2) := by decide +kernel
theorem dX4_weigh_68 : decode cX4_weigh 68 = .ok (.invokevirtual 61, 3) := by decide +kernel
theorem dX4_weigh_71 : decode cX4_weigh 71 = .ok (.istore 6, 2) := by decide +kernel
theorem dX4_weigh_73 : decode cX4_weigh 73 = .ok (.iconst 0, 1) := by decide +kernel
theorem dX4_weigh_74 : decode cX4_weigh 74 = .ok (.istore 7, 2) := by decide +kernel
theorem dX4_weigh_76 : decode cX4_weigh 76 = .ok (.iconst 1, 1) := by decide +kernel
theorem dX4_weigh_77 : decode cX4_weigh 77 = .ok (.istore 8, 2) := by decide +kernel
theorem dX4_weigh_79 : decode cX4_weigh 79 = .ok (.iload 5, 2) := by decide +kernel
theorem dX4_weigh_81 : decode cX4_weigh 81 = .ok (.iload_n 3, 1) := by decide +kernel
theorem dX4_weigh_82 : decode cX4_weigh 82 = .ok (.if_icmp .ne 33, 3) := by decide +kernel
theorem dX4_weigh_85 : decode cX4_weigh 85 = .ok (.iload 8, 2) := by decide +kernel
theorem dX4_weigh_87 : decode cX4_weigh 87 = .ok (.bipush 64, 2) := by decide +kernel
theorem dX4_weigh_89 : decode cX4_weigh 89 = .ok (.aload_n 0, 1) := by decide +kernel
theorem dX4_weigh_90 : decode cX4_weigh 90 = .ok (.getfield 26, 3) := by decide +kernel
theorem dX4_weigh_93 : decode cX4_weigh 93 = .ok (.iload 6, 2) := by decide +kernel
theorem dX4_weigh_95 : decode cX4_weigh 95 = .ok (.iload_n 1, 1) := by decide +kernel
theorem dX4_weigh_96 : decode cX4_weigh 96 = .ok (.iload_n 2, 1) := by decide +kernel
theorem dX4_weigh_97 : decode cX4_weigh 97 = .ok (.if_icmp .ne 7, 3) := by decide +kernel
theorem dX4_weigh_100 : decode cX4_weigh 100 = .ok (.iconst 1, 1) := by decide +kernel
theorem dX4_weigh_101 : decode cX4_weigh 101 = .ok (.goto 4, 3) := by decide +kernel
theorem dX4_weigh_104 : decode cX4_weigh 104 = .ok (.iconst 0, 1) := by decide +kernel
theorem dX4_weigh_105 : decode cX4_weigh 105 = .ok (.invokevirtual 65, 3) := by decide +kernel
theorem dX4_weigh_108 : decode cX4_weigh 108 = .ok (.imul, 1) := by decide +kernel
theorem dX4_weigh_109 : decode cX4_weigh 109 = .ok (.iadd, 1) := by decide +kernel
theorem dX4_weigh_110 : decode cX4_weigh 110 = .ok (.istore 8, 2) := by decide +kernel
theorem dX4_weigh_112 : decode cX4_weigh 112 = .ok (.goto 58, 3) := by decide +kernel
theorem dX4_weigh_115 : decode cX4_weigh 115 = .ok (.iload_n 1, 1) := by decide +kernel
theorem dX4_weigh_116 : decode cX4_weigh 116 = .ok (.iload_n 2, 1) := by decide +kernel
theorem dX4_weigh_117 : decode cX4_weigh 117 = .ok (.if_icmp .ne 7, 3) := by decide +kernel
theorem dX4_weigh_120 : decode cX4_weigh 120 = .ok (.iconst 0, 1) := by decide +kernel
theorem dX4_weigh_121 : decode cX4_weigh 121 = .ok (.goto 14, 3) := by decide +kernel
theorem dX4_weigh_124 : decode cX4_weigh 124 = .ok (.aload_n 0, 1) := by decide +kernel
theorem dX4_weigh_125 : decode cX4_weigh 125 = .ok (.getfield 26, 3) := by decide +kernel
theorem dX4_weigh_128 : decode cX4_weigh 128 = .ok (.iload 4, 2) := by decide +kernel
theorem dX4_weigh_130 : decode cX4_weigh 130 = .ok (.iload 6, 2) := by decide +kernel
theorem dX4_weigh_132 : decode cX4_weigh 132 = .ok (.invokevirtual 71, 3) := by decide +kernel
theorem dX4_weigh_135 : decode cX4_weigh 135 = .ok (.istore 7, 2) := by decide +kernel
theorem dX4_weigh_137 : decode cX4_weigh 137 = .ok (.iload 8, 2) := by decide +kernel
theorem dX4_weigh_139 : decode cX4_weigh 139 = .ok (.bipush 64, 2) := by decide +kernel
theorem dX4_weigh_141 : decode cX4_weigh 141 = .ok (.aload_n 0, 1) := by decide +kernel
theorem dX4_weigh_142 : decode cX4_weigh 142 = .ok (.getfield 26, 3) := by decide +kernel
theorem dX4_weigh_145 : decode cX4_weigh 145 = .ok (.iload 6, 2) := by decide +kernel
theorem dX4_weigh_147 : decode cX4_weigh 147 = .ok (.invokevirtual 74, 3) := by decide +kernel
theorem dX4_weigh_150 : decode cX4_weigh 150 = .ok (.imul, 1) := by decide +kernel
theorem dX4_weigh_151 : decode cX4_weigh 151 = .ok (.aload_n 0, 1) := by decide +kernel
theorem dX4_weigh_152 : decode cX4_weigh 152 = .ok (.getfield 16, 3) := by decide +kernel
theorem dX4_weigh_155 : decode cX4_weigh 155 = .ok (.iload_n 2, 1) := by decide +kernel
theorem dX4_weigh_156 : decode cX4_weigh 156 = .ok (.iload 5, 2) := by decide +kernel
theorem dX4_weigh_158 : decode cX4_weigh 158 = .ok (.iload 7, 2) := by decide +kernel
theorem dX4_weigh_160 : decode cX4_weigh 160 = .ok (.invokestatic 51, 3) := by decide +kernel
theorem dX4_weigh_163 : decode cX4_weigh 163 = .ok (.invokevirtual 39, 3) := by decide +kernel
theorem dX4_weigh_166 : decode cX4_weigh 166 = .ok (.iadd, 1) := by decide +kernel
theorem dX4_weigh_167 : decode cX4_weigh 167 = .ok (.iadd, 1) := by decide +kernel
theorem dX4_weigh_168 : decode cX4_weigh 168 = .ok (.istore 8, 2) := by decide +kernel
theorem dX4_weigh_170 : decode cX4_weigh 170 = .ok (.iconst (-1), 1) := by decide +kernel
theorem dX4_weigh_171 : decode cX4_weigh 171 = .ok (.istore 9, 2) := by decide +kernel
theorem dX4_weigh_173 : decode cX4_weigh 173 = .ok (.iload 9, 2) := by decide +kernel
theorem dX4_weigh_175 : decode cX4_weigh 175 = .ok (.iconst 1, 1) := by decide +kernel
theorem dX4_weigh_176 : decode cX4_weigh 176 = .ok (.if_icmp .gt 67, 3) := by decide +kernel
theorem dX4_weigh_179 : decode cX4_weigh 179 = .ok (.iload 7, 2) := by decide +kernel
theorem dX4_weigh_181 : decode cX4_weigh 181 = .ok (.ifCond .eq 14, 3) := by decide +kernel
theorem dX4_weigh_184 : decode cX4_weigh 184 = .ok (.iload 7, 2) := by decide +kernel
theorem dX4_weigh_186 : decode cX4_weigh 186 = .ok (.iload 9, 2) := by decide +kernel
theorem dX4_weigh_188 : decode cX4_weigh 188 = .ok (.if_icmp .ne 7, 3) := by decide +kernel
theorem dX4_weigh_191 : decode cX4_weigh 191 = .ok (.iconst 1, 1) := by decide +kernel
theorem dX4_weigh_192 : decode cX4_weigh 192 = .ok (.goto 4, 3) := by decide +kernel
theorem dX4_weigh_195 : decode cX4_weigh 195 = .ok (.iconst 0, 1) := by decide +kernel
theorem dX4_weigh_196 : decode cX4_weigh 196 = .ok (.istore 10, 2) := by decide +kernel
theorem dX4_weigh_198 : decode cX4_weigh 198 = .ok (.iload 10, 2) := by decide +kernel
theorem dX4_weigh_200 : decode cX4_weigh 200 = .ok (.ifCond .eq 16, 3) := by decide +kernel
theorem dX4_weigh_203 : decode cX4_weigh 203 = .ok (.bipush 64, 2) := by decide +kernel
theorem dX4_weigh_205 : decode cX4_weigh 205 = .ok (.aload_n 0, 1) := by decide +kernel
theorem dX4_weigh_206 : decode cX4_weigh 206 = .ok (.getfield 26, 3) := by decide +kernel
theorem dX4_weigh_209 : decode cX4_weigh 209 = .ok (.getfield 77, 3) := by decide +kernel
theorem dX4_weigh_212 : decode cX4_weigh 212 = .ok (.imul, 1) := by decide +kernel
theorem dX4_weigh_213 : decode cX4_weigh 213 = .ok (.goto 4, 3) := by decide +kernel
theorem dX4_weigh_216 : decode cX4_weigh 216 = .ok (.iconst 0, 1) := by decide +kernel
theorem dX4_weigh_217 : decode cX4_weigh 217 = .ok (.istore 11, 2) := by decide +kernel
theorem dX4_weigh_219 : decode cX4_weigh 219 = .ok (.aload_n 0, 1) := by decide +kernel
theorem dX4_weigh_220 : decode cX4_weigh 220 = .ok (.iload_n 1, 1) := by decide +kernel
theorem dX4_weigh_221 : decode cX4_weigh 221 = .ok (.iload_n 2, 1) := by decide +kernel
theorem dX4_weigh_222 : decode cX4_weigh 222 = .ok (.iload 9, 2) := by decide +kernel
theorem dX4_weigh_224 : decode cX4_weigh 224 = .ok (.invokestatic 51, 3) := by decide +kernel
theorem dX4_weigh_227 : decode cX4_weigh 227 = .ok (.iload 8, 2) := by decide +kernel
theorem dX4_weigh_229 : decode cX4_weigh 229 = .ok (.iload 11, 2) := by decide +kernel
theorem dX4_weigh_231 : decode cX4_weigh 231 = .ok (.iadd, 1) := by decide +kernel
theorem dX4_weigh_232 : decode cX4_weigh 232 = .ok (.iload 5, 2) := by decide +kernel
theorem dX4_weigh_234 : decode cX4_weigh 234 = .ok (.invokevirtual 81, 3) := by decide +kernel
theorem dX4_weigh_237 : decode cX4_weigh 237 = .ok (.iinc 9 1, 3) := by decide +kernel
theorem dX4_weigh_240 : decode cX4_weigh 240 = .ok (.goto (-67), 3) := by decide +kernel
theorem dX4_weigh_243 : decode cX4_weigh 243 = .ok (.iinc 5 (-1), 3) := by decide +kernel
theorem dX4_weigh_246 : decode cX4_weigh 246 = .ok (.goto (-191), 3) := by decide +kernel
theorem dX4_weigh_249 : decode cX4_weigh 249 = .ok (.return_, 1) := by decide +kernel
theorem dX4_offer_0 : decode cX4_offer 0 = .ok (.iload_n 2, 1) := by decide +kernel
theorem dX4_offer_1 : decode cX4_offer 1 = .ok (.aload_n 0, 1) := by decide +kernel
theorem dX4_offer_2 : decode cX4_offer 2 = .ok (.getfield 16, 3) := by decide +kernel
theorem dX4_offer_5 : decode cX4_offer 5 = .ok (.iload_n 1, 1) := by decide +kernel
theorem dX4_offer_6 : decode cX4_offer 6 = .ok (.invokevirtual 39, 3) := by decide +kernel
theorem dX4_offer_9 : decode cX4_offer 9 = .ok (.if_icmp .ge 21, 3) := by decide +kernel
theorem dX4_offer_12 : decode cX4_offer 12 = .ok (.aload_n 0, 1) := by decide +kernel
theorem dX4_offer_13 : decode cX4_offer 13 = .ok (.getfield 16, 3) := by decide +kernel
theorem dX4_offer_16 : decode cX4_offer 16 = .ok (.iload_n 1, 1) := by decide +kernel
theorem dX4_offer_17 : decode cX4_offer 17 = .ok (.iload_n 2, 1) := by decide +kernel
theorem dX4_offer_18 : decode cX4_offer 18 = .ok (.invokevirtual 58, 3) := by decide +kernel
theorem dX4_offer_21 : decode cX4_offer 21 = .ok (.aload_n 0, 1) := by decide +kernel
theorem dX4_offer_22 : decode cX4_offer 22 = .ok (.getfield 20, 3) := by decide +kernel
theorem dX4_offer_25 : decode cX4_offer 25 = .ok (.iload_n 1, 1) := by decide +kernel
theorem dX4_offer_26 : decode cX4_offer 26 = .ok (.iload_n 3, 1) := by decide +kernel
theorem dX4_offer_27 : decode cX4_offer 27 = .ok (.invokevirtual 58, 3) := by decide +kernel
theorem dX4_offer_30 : decode cX4_offer 30 = .ok (.return_, 1) := by decide +kernel
theorem dX4_follow_0 : decode cX4_follow 0 = .ok (.iload_n 1, 1) := by decide +kernel
theorem dX4_follow_1 : decode cX4_follow 1 = .ok (.istore_n 3, 1) := by decide +kernel
theorem dX4_follow_2 : decode cX4_follow 2 = .ok (.iload_n 1, 1) := by decide +kernel
theorem dX4_follow_3 : decode cX4_follow 3 = .ok (.istore 4, 2) := by decide +kernel
theorem dX4_follow_5 : decode cX4_follow 5 = .ok (.iconst 0, 1) := by decide +kernel
theorem dX4_follow_6 : decode cX4_follow 6 = .ok (.istore 5, 2) := by decide +kernel
theorem dX4_follow_8 : decode cX4_follow 8 = .ok (.iload_n 1, 1) := by decide +kernel
theorem dX4_follow_9 : decode cX4_follow 9 = .ok (.istore 6, 2) := by decide +kernel
theorem dX4_follow_11 : decode cX4_follow 11 = .ok (.iload 6, 2) := by decide +kernel
theorem dX4_follow_13 : decode cX4_follow 13 = .ok (.iload_n 2, 1) := by decide +kernel
theorem dX4_follow_14 : decode cX4_follow 14 = .ok (.if_icmp .ge 99, 3) := by decide +kernel
theorem dX4_follow_17 : decode cX4_follow 17 = .ok (.iload 6, 2) := by decide +kernel
theorem dX4_follow_19 : decode cX4_follow 19 = .ok (.iload 4, 2) := by decide +kernel
theorem dX4_follow_21 : decode cX4_follow 21 = .ok (.if_icmp .ne 86, 3) := by decide +kernel
theorem dX4_follow_24 : decode cX4_follow 24 = .ok (.aload_n 0, 1) := by decide +kernel
theorem dX4_follow_25 : decode cX4_follow 25 = .ok (.getfield 20, 3) := by decide +kernel
theorem dX4_follow_28 : decode cX4_follow 28 = .ok (.iload_n 3, 1) := by decide +kernel
theorem dX4_follow_29 : decode cX4_follow 29 = .ok (.iload 4, 2) := by decide +kernel
theorem dX4_follow_31 : decode cX4_follow 31 = .ok (.iload 5, 2) := by decide +kernel
theorem dX4_follow_33 : decode cX4_follow 33 = .ok (.invokestatic 51, 3) := by decide +kernel
theorem dX4_follow_36 : decode cX4_follow 36 = .ok (.invokevirtual 39, 3) := by decide +kernel
theorem dX4_follow_39 : decode cX4_follow 39 = .ok (.istore 7, 2) := by decide +kernel
theorem dX4_follow_41 : decode cX4_follow 41 = .ok (.aload_n 0, 1) := by decide +kernel
theorem dX4_follow_42 : decode cX4_follow 42 = .ok (.getfield 23, 3) := by decide +kernel
theorem dX4_follow_45 : decode cX4_follow 45 = .ok (.iload 4, 2) := by decide +kernel
theorem dX4_follow_47 : decode cX4_follow 47 = .ok (.iload 7, 2) := by decide +kernel
theorem dX4_follow_49 : decode cX4_follow 49 = .ok (.invokevirtual 58, 3) := by decide +kernel
theorem dX4_follow_52 : decode cX4_follow 52 = .ok (.aload_n 0, 1) := by decide +kernel
theorem dX4_follow_53 : decode cX4_follow 53 = .ok (.getfield 30, 3) := by decide +kernel
theorem dX4_follow_56 : decode cX4_follow 56 = .ok (.iload_n 3, 1) := by decide +kernel
theorem dX4_follow_57 : decode cX4_follow 57 = .ok (.iload 4, 2) := by decide +kernel
theorem dX4_follow_59 : decode cX4_follow 59 = .ok (.invokevirtual 61, 3) := by decide +kernel
theorem dX4_follow_62 : decode cX4_follow 62 = .ok (.istore 8, 2) := by decide +kernel
theorem dX4_follow_64 : decode cX4_follow 64 = .ok (.aload_n 0, 1) := by decide +kernel
theorem dX4_follow_65 : decode cX4_follow 65 = .ok (.getfield 30, 3) := by decide +kernel
theorem dX4_follow_68 : decode cX4_follow 68 = .ok (.iload 4, 2) := by decide +kernel
theorem dX4_follow_70 : decode cX4_follow 70 = .ok (.iload 7, 2) := by decide +kernel
theorem dX4_follow_72 : decode cX4_follow 72 = .ok (.invokevirtual 61, 3) := by decide +kernel
theorem dX4_follow_75 : decode cX4_follow 75 = .ok (.istore 9, 2) := by decide +kernel
theorem dX4_follow_77 : decode cX4_follow 77 = .ok (.iload_n 3, 1) := by decide +kernel
theorem dX4_follow_78 : decode cX4_follow 78 = .ok (.iload 4, 2) := by decide +kernel
theorem dX4_follow_80 : decode cX4_follow 80 = .ok (.if_icmp .ne 7, 3) := by decide +kernel
theorem dX4_follow_83 : decode cX4_follow 83 = .ok (.iconst 0, 1) := by decide +kernel
theorem dX4_follow_84 : decode cX4_follow 84 = .ok (.goto 14, 3) := by decide +kernel
theorem dX4_follow_87 : decode cX4_follow 87 = .ok (.aload_n 0, 1) := by decide +kernel
theorem dX4_follow_88 : decode cX4_follow 88 = .ok (.getfield 26, 3) := by decide +kernel
theorem dX4_follow_91 : decode cX4_follow 91 = .ok (.iload 8, 2) := by decide +kernel
theorem dX4_follow_93 : decode cX4_follow 93 = .ok (.iload 9, 2) := by decide +kernel
theorem dX4_follow_95 : decode cX4_follow 95 = .ok (.invokevirtual 71, 3) := by decide +kernel
theorem dX4_follow_98 : decode cX4_follow 98 = .ok (.istore 5, 2) := by decide +kernel
theorem dX4_follow_100 : decode cX4_follow 100 = .ok (.iload 4, 2) := by decide +kernel
theorem dX4_follow_102 : decode cX4_follow 102 = .ok (.istore_n 3, 1) := by decide +kernel
theorem dX4_follow_103 : decode cX4_follow 103 = .ok (.iload 7, 2) := by decide +kernel
theorem dX4_follow_105 : decode cX4_follow 105 = .ok (.istore 4, 2) := by decide +kernel
theorem dX4_follow_107 : decode cX4_follow 107 = .ok (.iinc 6 1, 3) := by decide +kernel
theorem dX4_follow_110 : decode cX4_follow 110 = .ok (.goto (-99), 3) := by decide +kernel
theorem dX4_follow_113 : decode cX4_follow 113 = .ok (.return_, 1) := by decide +kernel
theorem dX4_slot_0 : decode cX4_slot 0 = .ok (.iload_n 1, 1) := by decide +kernel
theorem dX4_slot_1 : decode cX4_slot 1 = .ok (.iload_n 1, 1) := by decide +kernel
theorem dX4_slot_2 : decode cX4_slot 2 = .ok (.iconst 1, 1) := by decide +kernel
theorem dX4_slot_3 : decode cX4_slot 3 = .ok (.iadd, 1) := by decide +kernel
theorem dX4_slot_4 : decode cX4_slot 4 = .ok (.imul, 1) := by decide +kernel
theorem dX4_slot_5 : decode cX4_slot 5 = .ok (.iconst 2, 1) := by decide +kernel
theorem dX4_slot_6 : decode cX4_slot 6 = .ok (.idiv, 1) := by decide +kernel
theorem dX4_slot_7 : decode cX4_slot 7 = .ok (.iload_n 0, 1) := by decide +kernel
theorem dX4_slot_8 : decode cX4_slot 8 = .ok (.iadd, 1) := by decide +kernel
theorem dX4_slot_9 : decode cX4_slot 9 = .ok (.iconst 3, 1) := by decide +kernel
theorem dX4_slot_10 : decode cX4_slot 10 = .ok (.imul, 1) := by decide +kernel
theorem dX4_slot_11 : decode cX4_slot 11 = .ok (.iload_n 2, 1) := by decide +kernel
theorem dX4_slot_12 : decode cX4_slot 12 = .ok (.iadd, 1) := by decide +kernel
theorem dX4_slot_13 : decode cX4_slot 13 = .ok (.iconst 1, 1) := by decide +kernel
theorem dX4_slot_14 : decode cX4_slot 14 = .ok (.iadd, 1) := by decide +kernel
theorem dX4_slot_15 : decode cX4_slot 15 = .ok (.ireturn, 1) := by decide +kernel
theorem dX5_init_0 : decode cX5_init 0 = .ok (.aload_n 0, 1) := by decide +kernel
theorem dX5_init_1 : decode cX5_init 1 = .ok (.invokespecial 3, 3) := by decide +kernel
theorem dX5_init_4 : decode cX5_init 4 = .ok (.aload_n 0, 1) := by decide +kernel
theorem dX5_init_5 : decode cX5_init 5 = .ok (.new 9, 3) := by decide +kernel
theorem dX5_init_8 : decode cX5_init 8 = .ok (.dup, 1) := by decide +kernel
theorem dX5_init_9 : decode cX5_init 9 = .ok (.bipush 41, 2) := by decide +kernel
theorem dX5_init_11 : decode cX5_init 11 = .ok (.invokespecial 11, 3) := by decide +kernel
theorem dX5_init_14 : decode cX5_init 14 = .ok (.putfield 14, 3) := by decide +kernel
theorem dX5_init_17 : decode cX5_init 17 = .ok (.aload_n 0, 1) := by decide +kernel
theorem dX5_init_18 : decode cX5_init 18 = .ok (.new 9, 3) := by decide +kernel
theorem dX5_init_21 : decode cX5_init 21 = .ok (.dup, 1) := by decide +kernel
theorem dX5_init_22 : decode cX5_init 22 = .ok (.bipush 40, 2) := by decide +kernel
theorem dX5_init_24 : decode cX5_init 24 = .ok (.invokespecial 11, 3) := by decide +kernel
theorem dX5_init_27 : decode cX5_init 27 = .ok (.putfield 20, 3) := by decide +kernel
theorem dX5_init_30 : decode cX5_init 30 = .ok (.aload_n 0, 1) := by decide +kernel
theorem dX5_init_31 : decode cX5_init 31 = .ok (.iconst 0, 1) := by decide +kernel
theorem dX5_init_32 : decode cX5_init 32 = .ok (.putfield 23, 3) := by decide +kernel
theorem dX5_init_35 : decode cX5_init 35 = .ok (.aload_n 0, 1) := by decide +kernel
theorem dX5_init_36 : decode cX5_init 36 = .ok (.aload_n 1, 1) := by decide +kernel
theorem dX5_init_37 : decode cX5_init 37 = .ok (.putfield 27, 3) := by decide +kernel
theorem dX5_init_40 : decode cX5_init 40 = .ok (.aload_n 0, 1) := by decide +kernel
theorem dX5_init_41 : decode cX5_init 41 = .ok (.aload_n 2, 1) := by decide +kernel
theorem dX5_init_42 : decode cX5_init 42 = .ok (.putfield 31, 3) := by decide +kernel
theorem dX5_init_45 : decode cX5_init 45 = .ok (.return_, 1) := by decide +kernel
theorem dX5_fill_0 : decode cX5_fill 0 = .ok (.aload_n 0, 1) := by decide +kernel
theorem dX5_fill_1 : decode cX5_fill 1 = .ok (.iconst 0, 1) := by decide +kernel
theorem dX5_fill_2 : decode cX5_fill 2 = .ok (.putfield 23, 3) := by decide +kernel
theorem dX5_fill_5 : decode cX5_fill 5 = .ok (.iconst 0, 1) := by decide +kernel
theorem dX5_fill_6 : decode cX5_fill 6 = .ok (.istore_n 1, 1) := by decide +kernel
theorem dX5_fill_7 : decode cX5_fill 7 = .ok (.iconst 0, 1) := by decide +kernel
theorem dX5_fill_8 : decode cX5_fill 8 = .ok (.istore_n 2, 1) := by decide +kernel
theorem dX5_fill_9 : decode cX5_fill 9 = .ok (.iload_n 2, 1) := by decide +kernel
theorem dX5_fill_10 : decode cX5_fill 10 = .ok (.aload_n 0, 1) := by decide +kernel
theorem dX5_fill_11 : decode cX5_fill 11 = .ok (.getfield 31, 3) := by decide +kernel
theorem dX5_fill_14 : decode cX5_fill 14 = .ok (.getfield 35, 3) := by decide +kernel
theorem dX5_fill_17 : decode cX5_fill 17 = .ok (.if_icmp .ge 113, 3) := by decide +kernel
theorem dX5_fill_20 : decode cX5_fill 20 = .ok (.iload_n 2, 1) := by decide +kernel
theorem dX5_fill_21 : decode cX5_fill 21 = .ok (.iload_n 1, 1) := by decide +kernel
theorem dX5_fill_22 : decode cX5_fill 22 = .ok (.if_icmp .ne 88, 3) := by decide +kernel
theorem dX5_fill_25 : decode cX5_fill 25 = .ok (.aload_n 0, 1) := by decide +kernel
theorem dX5_fill_26 : decode cX5_fill 26 = .ok (.getfield 14, 3) := by decide +kernel
theorem dX5_fill_29 : decode cX5_fill 29 = .ok (.aload_n 0, 1) := by decide +kernel
theorem dX5_fill_30 : decode cX5_fill 30 = .ok (.getfield 23, 3) := by decide +kernel
theorem dX5_fill_33 : decode cX5_fill 33 = .ok (.iload_n 2, 1) := by decide +kernel
theorem dX5_fill_34 : decode cX5_fill 34 = .ok (.invokevirtual 38, 3) := by decide +kernel
theorem dX5_fill_37 : decode cX5_fill 37 = .ok (.aload_n 0, 1) := by decide +kernel
theorem dX5_fill_38 : decode cX5_fill 38 = .ok (.dup, 1) := by decide +kernel
theorem dX5_fill_39 : decode cX5_fill 39 = .ok (.getfield 23, 3) := by decide +kernel
theorem dX5_fill_42 : decode cX5_fill 42 = .ok (.iconst 1, 1) := by decide +kernel
theorem dX5_fill_43 : decode cX5_fill 43 = .ok (.iadd, 1) := by decide +kernel
theorem dX5_fill_44 : decode cX5_fill 44 = .ok (.putfield 23, 3) := by decide +kernel
theorem dX5_fill_47 : decode cX5_fill 47 = .ok (.iload_n 2, 1) := by decide +kernel
theorem dX5_fill_48 : decode cX5_fill 48 = .ok (.aload_n 0, 1) := by decide +kernel
theorem dX5_fill_49 : decode cX5_fill 49 = .ok (.getfield 27, 3) := by decide +kernel
theorem dX5_fill_52 : decode cX5_fill 52 = .ok (.getfield 42, 3) := by decide +kernel
theorem dX5_fill_55 : decode cX5_fill 55 = .ok (.iadd, 1) := by decide +kernel
theorem dX5_fill_56 : decode cX5_fill 56 = .ok (.istore_n 1, 1) := by decide +kernel
theorem dX5_fill_57 : decode cX5_fill 57 = .ok (.iload_n 1, 1) := by decide +kernel
theorem dX5_fill_58 : decode cX5_fill 58 = .ok (.aload_n 0, 1) := by decide +kernel
theorem dX5_fill_59 : decode cX5_fill 59 = .ok (.getfield 31, 3) := by decide +kernel
theorem dX5_fill_62 : decode cX5_fill 62 = .ok (.getfield 35, 3) := by decide +kernel
theorem dX5_fill_65 : decode cX5_fill 65 = .ok (.if_icmp .ge 31, 3) := by decide +kernel
theorem dX5_fill_68 : decode cX5_fill 68 = .ok (.aload_n 0, 1) := by decide +kernel
theorem dX5_fill_69 : decode cX5_fill 69 = .ok (.getfield 31, 3) := by decide +kernel
theorem dX5_fill_72 : decode cX5_fill 72 = .ok (.iload_n 1, 1) := by decide +kernel
theorem dX5_fill_73 : decode cX5_fill 73 = .ok (.iconst 1, 1) := by decide +kernel
theorem dX5_fill_74 : decode cX5_fill 74 = .ok (.isub, 1) := by decide +kernel
theorem dX5_fill_75 : decode cX5_fill 75 = .ok (.invokevirtual 47, 3) := by decide +kernel
theorem dX5_fill_78 : decode cX5_fill 78 = .ok (.ifCond .ne 14, 3) := by decide +kernel
theorem dX5_fill_81 : decode cX5_fill 81 = .ok (.aload_n 0, 1) := by decide +kernel
theorem dX5_fill_82 : decode cX5_fill 82 = .ok (.getfield 31, 3) := by decide +kernel
theorem dX5_fill_85 : decode cX5_fill 85 = .ok (.iload_n 1, 1) := by decide +kernel
theorem dX5_fill_86 : decode cX5_fill 86 = .ok (.invokevirtual 51, 3) := by decide +kernel
theorem dX5_fill_89 : decode cX5_fill 89 = .ok (.ifCond .eq 7, 3) := by decide +kernel
theorem dX5_fill_92 : decode cX5_fill 92 = .ok (.iconst 1, 1) := by decide +kernel
theorem dX5_fill_93 : decode cX5_fill 93 = .ok (.goto 4, 3) := by decide +kernel
theorem dX5_fill_96 : decode cX5_fill 96 = .ok (.iconst 0, 1) := by decide +kernel
theorem dX5_fill_97 : decode cX5_fill 97 = .ok (.istore_n 3, 1) := by decide +kernel
theorem dX5_fill_98 : decode cX5_fill 98 = .ok (.iload_n 3, 1) := by decide +kernel
theorem dX5_fill_99 : decode cX5_fill 99 = .ok (.ifCond .eq 9, 3) := by decide +kernel
theorem dX5_fill_102 : decode cX5_fill 102 = .ok (.iload_n 1, 1) := by decide +kernel
theorem dX5_fill_103 : decode cX5_fill 103 = .ok (.iconst 1, 1) := by decide +kernel
theorem dX5_fill_104 : decode cX5_fill 104 = .ok (.isub, 1) := by decide +kernel
theorem dX5_fill_105 : decode cX5_fill 105 = .ok (.goto 4, 3) := by decide +kernel
theorem dX5_fill_108 : decode cX5_fill 108 = .ok (.iload_n 1, 1) := by decide +kernel
theorem dX5_fill_109 : decode cX5_fill 109 = .ok (.istore_n 1, 1) := by decide +kernel
theorem dX5_fill_110 : decode cX5_fill 110 = .ok (.aload_n 0, 1) := by decide +kernel
theorem dX5_fill_111 : decode cX5_fill 111 = .ok (.getfield 20, 3) := by decide +kernel
theorem dX5_fill_114 : decode cX5_fill 114 = .ok (.iload_n 2, 1) := by decide +kernel
theorem dX5_fill_115 : decode cX5_fill 115 = .ok (.aload_n 0, 1) := by decide +kernel
theorem dX5_fill_116 : decode cX5_fill 116 = .ok (.getfield 23, 3) := by decide +kernel
theorem dX5_fill_119 : decode cX5_fill 119 = .ok (.iconst 1, 1) := by decide +kernel
theorem dX5_fill_120 : decode cX5_fill 120 = .ok (.isub, 1) := by decide +kernel
theorem dX5_fill_121 : decode cX5_fill 121 = .ok (.invokevirtual 38, 3) := by decide +kernel
theorem dX5_fill_124 : decode cX5_fill 124 = .ok (.iinc 2 1, 3) := by decide +kernel
theorem dX5_fill_127 : decode cX5_fill 127 = .ok (.goto (-118), 3) := by decide +kernel
theorem dX5_fill_130 : decode cX5_fill 130 = .ok (.aload_n 0, 1) := by decide +kernel
theorem dX5_fill_131 : decode cX5_fill 131 = .ok (.getfield 14, 3) := by decide +kernel
theorem dX5_fill_134 : decode cX5_fill 134 = .ok (.aload_n 0, 1) := by decide +kernel
theorem dX5_fill_135 : decode cX5_fill 135 = .ok (.getfield 23, 3) := by decide +kernel
theorem dX5_fill_138 : decode cX5_fill 138 = .ok (.aload_n 0, 1) := by decide +kernel
theorem dX5_fill_139 : decode cX5_fill 139 = .ok (.getfield 31, 3) := by decide +kernel
theorem dX5_fill_142 : decode cX5_fill 142 = .ok (.getfield 35, 3) := by decide +kernel
theorem dX5_fill_145 : decode cX5_fill 145 = .ok (.invokevirtual 38, 3) := by decide +kernel
theorem dX5_fill_148 : decode cX5_fill 148 = .ok (.return_, 1) := by decide +kernel
theorem dX5_countWidows_0 : decode cX5_countWidows 0 = .ok (.iconst 0, 1) := by decide +kernel
theorem dX5_countWidows_1 : decode cX5_countWidows 1 = .ok (.istore_n 1, 1) := by decide +kernel
theorem dX5_countWidows_2 : decode cX5_countWidows 2 = .ok (.iconst 1, 1) := by decide +kernel
theorem dX5_countWidows_3 : decode cX5_countWidows 3 = .ok (.istore_n 2, 1) := by decide +kernel
theorem dX5_countWidows_4 : decode cX5_countWidows 4 = .ok (.iload_n 2, 1) := by decide +kernel
theorem dX5_countWidows_5 : decode cX5_countWidows 5 = .ok (.aload_n 0, 1) := by decide +kernel
theorem dX5_countWidows_6 : decode cX5_countWidows 6 = .ok (.getfield 23, 3) := by decide +kernel
theorem dX5_countWidows_9 : decode cX5_countWidows 9 = .ok (.if_icmp .ge 30, 3) := by decide +kernel
theorem dX5_countWidows_12 : decode cX5_countWidows 12 = .ok (.aload_n 0, 1) := by decide +kernel
theorem dX5_countWidows_13 : decode cX5_countWidows 13 = .ok (.getfield 31, 3) := by decide +kernel
theorem dX5_countWidows_16 : decode cX5_countWidows 16 = .ok (.aload_n 0, 1) := by decide +kernel
theorem dX5_countWidows_17 : decode cX5_countWidows 17 = .ok (.getfield 14, 3) := by decide +kernel
theorem dX5_countWidows_20 : decode cX5_countWidows 20 = .ok (.iload_n 2, 1) := by decide +kernel
theorem dX5_countWidows_21 : decode cX5_countWidows 21 = .ok (.invokevirtual 54, 3) := by decide +kernel
theorem dX5_countWidows_24 : decode cX5_countWidows 24 = .ok (.invokevirtual 51, 3) := by decide +kernel
theorem dX5_countWidows_27 : decode cX5_countWidows 27 = .ok (.ifCond .eq 6, 3) := by decide +kernel
theorem dX5_countWidows_30 : decode cX5_countWidows 30 = .ok (.iinc 1 1, 3) := by decide +kernel
theorem dX5_countWidows_33 : decode cX5_countWidows 33 = .ok (.iinc 2 1, 3) := by decide +kernel
theorem dX5_countWidows_36 : decode cX5_countWidows 36 = .ok (.goto (-32), 3) := by decide +kernel
theorem dX5_countWidows_39 : decode cX5_countWidows 39 = .ok (.iload_n 1, 1) := by decide +kernel
theorem dX5_countWidows_40 : decode cX5_countWidows 40 = .ok (.ireturn, 1) := by decide +kernel
theorem dX5_countOrphans_0 : decode cX5_countOrphans 0 = .ok (.iconst 0, 1) := by decide +kernel
theorem dX5_countOrphans_1 : decode cX5_countOrphans 1 = .ok (.istore_n 1, 1) := by decide +kernel
theorem dX5_countOrphans_2 : decode cX5_countOrphans 2 = .ok (.iconst 0, 1) := by decide +kernel
theorem dX5_countOrphans_3 : decode cX5_countOrphans 3 = .ok (.istore_n 2, 1) := by decide +kernel
theorem dX5_countOrphans_4 : decode cX5_countOrphans 4 = .ok (.iload_n 2, 1) := by decide +kernel
theorem dX5_countOrphans_5 : decode cX5_countOrphans 5 = .ok (.aload_n 0, 1) := by decide +kernel
theorem dX5_countOrphans_6 : decode cX5_countOrphans 6 = .ok (.getfield 23, 3) := by decide +kernel
theorem dX5_countOrphans_9 : decode cX5_countOrphans 9 = .ok (.iconst 1, 1) := by decide +kernel
theorem dX5_countOrphans_10 : decode cX5_countOrphans 10 = .ok (.isub, 1) := by decide +kernel
theorem dX5_countOrphans_11 : decode cX5_countOrphans 11 = .ok (.if_icmp .ge 34, 3) := by decide +kernel
theorem dX5_countOrphans_14 : decode cX5_countOrphans 14 = .ok (.aload_n 0, 1) := by decide +kernel
theorem dX5_countOrphans_15 : decode cX5_countOrphans 15 = .ok (.getfield 31, 3) := by decide +kernel
theorem dX5_countOrphans_18 : decode cX5_countOrphans 18 = .ok (.aload_n 0, 1) := by decide +kernel
theorem dX5_countOrphans_19 : decode cX5_countOrphans 19 = .ok (.getfield 14, 3) := by decide +kernel
theorem dX5_countOrphans_22 : decode cX5_countOrphans 22 = .ok (.iload_n 2, 1) := by decide +kernel
theorem dX5_countOrphans_23 : decode cX5_countOrphans 23 = .ok (.iconst 1, 1) := by decide +kernel
theorem dX5_countOrphans_24 : decode cX5_countOrphans 24 = .ok (.iadd, 1) := by decide +kernel
theorem dX5_countOrphans_25 : decode cX5_countOrphans 25 = .ok (.invokevirtual 54, 3) := by decide +kernel
theorem dX5_countOrphans_28 : decode cX5_countOrphans 28 = .ok (.iconst 1, 1) := by decide +kernel
theorem dX5_countOrphans_29 : decode cX5_countOrphans 29 = .ok (.isub, 1) := by decide +kernel
theorem dX5_countOrphans_30 : decode cX5_countOrphans 30 = .ok (.invokevirtual 47, 3) := by decide +kernel
theorem dX5_countOrphans_33 : decode cX5_countOrphans 33 = .ok (.ifCond .eq 6, 3) := by decide +kernel
theorem dX5_countOrphans_36 : decode cX5_countOrphans 36 = .ok (.iinc 1 1, 3) := by decide +kernel
theorem dX5_countOrphans_39 : decode cX5_countOrphans 39 = .ok (.iinc 2 1, 3) := by decide +kernel
theorem dX5_countOrphans_42 : decode cX5_countOrphans 42 = .ok (.goto (-38), 3) := by decide +kernel
theorem dX5_countOrphans_45 : decode cX5_countOrphans 45 = .ok (.iload_n 1, 1) := by decide +kernel
theorem dX5_countOrphans_46 : decode cX5_countOrphans 46 = .ok (.ireturn, 1) := by decide +kernel
theorem dX6_init_0 : decode cX6_init 0 = .ok (.aload_n 0, 1) := by decide +kernel
theorem dX6_init_1 : decode cX6_init 1 = .ok (.invokespecial 1, 3) := by decide +kernel
theorem dX6_init_4 : decode cX6_init 4 = .ok (.aload_n 0, 1) := by decide +kernel
theorem dX6_init_5 : decode cX6_init 5 = .ok (.iload_n 1, 1) := by decide +kernel
theorem dX6_init_6 : decode cX6_init 6 = .ok (.iconst 0, 1) := by decide +kernel
theorem dX6_init_7 : decode cX6_init 7 = .ok (.invokestatic 7, 3) := by decide +kernel
theorem dX6_init_10 : decode cX6_init 10 = .ok (.newarray .int, 2) := by decide +kernel
theorem dX6_init_12 : decode cX6_init 12 = .ok (.putfield 13, 3) := by decide +kernel
theorem dX6_init_15 : decode cX6_init 15 = .ok (.return_, 1) := by decide +kernel
theorem dX6_at_0 : decode cX6_at 0 = .ok (.iload_n 1, 1) := by decide +kernel
theorem dX6_at_1 : decode cX6_at 1 = .ok (.ifCond .lt 21, 3) := by decide +kernel
theorem dX6_at_4 : decode cX6_at 4 = .ok (.iload_n 1, 1) := by decide +kernel
theorem dX6_at_5 : decode cX6_at 5 = .ok (.aload_n 0, 1) := by decide +kernel
theorem dX6_at_6 : decode cX6_at 6 = .ok (.getfield 13, 3) := by decide +kernel
theorem dX6_at_9 : decode cX6_at 9 = .ok (.arraylength, 1) := by decide +kernel
theorem dX6_at_10 : decode cX6_at 10 = .ok (.if_icmp .ge 12, 3) := by decide +kernel
theorem dX6_at_13 : decode cX6_at 13 = .ok (.aload_n 0, 1) := by decide +kernel
theorem dX6_at_14 : decode cX6_at 14 = .ok (.getfield 13, 3) := by decide +kernel
theorem dX6_at_17 : decode cX6_at 17 = .ok (.iload_n 1, 1) := by decide +kernel
theorem dX6_at_18 : decode cX6_at 18 = .ok (.iaload, 1) := by decide +kernel
theorem dX6_at_19 : decode cX6_at 19 = .ok (.goto 4, 3) := by decide +kernel
theorem dX6_at_22 : decode cX6_at 22 = .ok (.iconst 0, 1) := by decide +kernel
theorem dX6_at_23 : decode cX6_at 23 = .ok (.ireturn, 1) := by decide +kernel
theorem dX6_put_0 : decode cX6_put 0 = .ok (.iload_n 1, 1) := by decide +kernel
theorem dX6_put_1 : decode cX6_put 1 = .ok (.ifCond .lt 19, 3) := by decide +kernel
theorem dX6_put_4 : decode cX6_put 4 = .ok (.iload_n 1, 1) := by decide +kernel
theorem dX6_put_5 : decode cX6_put 5 = .ok (.aload_n 0, 1) := by decide +kernel
theorem dX6_put_6 : decode cX6_put 6 = .ok (.getfield 13, 3) := by decide +kernel
theorem dX6_put_9 : decode cX6_put 9 = .ok (.arraylength, 1) := by decide +kernel
theorem dX6_put_10 : decode cX6_put 10 = .ok (.if_icmp .ge 10, 3) := by decide +kernel
theorem dX6_put_13 : decode cX6_put 13 = .ok (.aload_n 0, 1) := by decide +kernel
theorem dX6_put_14 : decode cX6_put 14 = .ok (.getfield 13, 3) := by decide +kernel
theorem dX6_put_17 : decode cX6_put 17 = .ok (.iload_n 1, 1) := by decide +kernel
theorem dX6_put_18 : decode cX6_put 18 = .ok (.iload_n 2, 1) := by decide +kernel
theorem dX6_put_19 : decode cX6_put 19 = .ok (.iastore, 1) := by decide +kernel
theorem dX6_put_20 : decode cX6_put 20 = .ok (.return_, 1) := by decide +kernel
theorem dX6_copyFrom_0 : decode cX6_copyFrom 0 = .ok (.iconst 0, 1) := by decide +kernel
theorem dX6_copyFrom_1 : decode cX6_copyFrom 1 = .ok (.istore_n 2, 1) := by decide +kernel
theorem dX6_copyFrom_2 : decode cX6_copyFrom 2 = .ok (.iload_n 2, 1) := by decide +kernel
theorem dX6_copyFrom_3 : decode cX6_copyFrom 3 = .ok (.aload_n 0, 1) := by decide +kernel
theorem dX6_copyFrom_4 : decode cX6_copyFrom 4 = .ok (.getfield 13, 3) := by decide +kernel
theorem dX6_copyFrom_7 : decode cX6_copyFrom 7 = .ok (.arraylength, 1) := by decide +kernel
theorem dX6_copyFrom_8 : decode cX6_copyFrom 8 = .ok (.if_icmp .ge 20, 3) := by decide +kernel
theorem dX6_copyFrom_11 : decode cX6_copyFrom 11 = .ok (.aload_n 0, 1) := by decide +kernel
theorem dX6_copyFrom_12 : decode cX6_copyFrom 12 = .ok (.getfield 13, 3) := by decide +kernel
theorem dX6_copyFrom_15 : decode cX6_copyFrom 15 = .ok (.iload_n 2, 1) := by decide +kernel
theorem dX6_copyFrom_16 : decode cX6_copyFrom 16 = .ok (.aload_n 1, 1) := by decide +kernel
theorem dX6_copyFrom_17 : decode cX6_copyFrom 17 = .ok (.iload_n 2, 1) := by decide +kernel
theorem dX6_copyFrom_18 : decode cX6_copyFrom 18 = .ok (.invokevirtual 19, 3) := by decide +kernel
theorem dX6_copyFrom_21 : decode cX6_copyFrom 21 = .ok (.iastore, 1) := by decide +kernel
theorem dX6_copyFrom_22 : decode cX6_copyFrom 22 = .ok (.iinc 2 1, 3) := by decide +kernel
theorem dX6_copyFrom_25 : decode cX6_copyFrom 25 = .ok (.goto (-23), 3) := by decide +kernel
theorem dX6_copyFrom_28 : decode cX6_copyFrom 28 = .ok (.return_, 1) := by decide +kernel
theorem dX6_putBetween_0 : decode cX6_putBetween 0 = .ok (.aload_n 0, 1) := by decide +kernel
theorem dX6_putBetween_1 : decode cX6_putBetween 1 = .ok (.getfield 13, 3) := by decide +kernel
theorem dX6_putBetween_4 : decode cX6_putBetween 4 = .ok (.arraylength, 1) := by decide +kernel
theorem dX6_putBetween_5 : decode cX6_putBetween 5 = .ok (.iconst 1, 1) := by decide +kernel
theorem dX6_putBetween_6 : decode cX6_putBetween 6 = .ok (.isub, 1) := by decide +kernel
theorem dX6_putBetween_7 : decode cX6_putBetween 7 = .ok (.istore_n 3, 1) := by decide +kernel
theorem dX6_putBetween_8 : decode cX6_putBetween 8 = .ok (.iload_n 3, 1) := by decide +kernel
theorem dX6_putBetween_9 : decode cX6_putBetween 9 = .ok (.iload_n 1, 1) := by decide +kernel
theorem dX6_putBetween_10 : decode cX6_putBetween 10 = .ok (.if_icmp .le 21, 3) := by decide +kernel
theorem dX6_putBetween_13 : decode cX6_putBetween 13 = .ok (.aload_n 0, 1) := by decide +kernel
theorem dX6_putBetween_14 : decode cX6_putBetween 14 = .ok (.iload_n 3, 1) := by decide +kernel
theorem dX6_putBetween_15 : decode cX6_putBetween 15 = .ok (.aload_n 0, 1) := by decide +kernel
theorem dX6_putBetween_16 : decode cX6_putBetween 16 = .ok (.iload_n 3, 1) := by decide +kernel
theorem dX6_putBetween_17 : decode cX6_putBetween 17 = .ok (.iconst 1, 1) := by decide +kernel
theorem dX6_putBetween_18 : decode cX6_putBetween 18 = .ok (.isub, 1) := by decide +kernel
theorem dX6_putBetween_19 : decode cX6_putBetween 19 = .ok (.invokevirtual 19, 3) := by decide +kernel
theorem dX6_putBetween_22 : decode cX6_putBetween 22 = .ok (.invokevirtual 23, 3) := by decide +kernel
theorem dX6_putBetween_25 : decode cX6_putBetween 25 = .ok (.iinc 3 (-1), 3) := by decide +kernel
theorem dX6_putBetween_28 : decode cX6_putBetween 28 = .ok (.goto (-20), 3) := by decide +kernel
theorem dX6_putBetween_31 : decode cX6_putBetween 31 = .ok (.aload_n 0, 1) := by decide +kernel
theorem dX6_putBetween_32 : decode cX6_putBetween 32 = .ok (.iload_n 1, 1) := by decide +kernel
theorem dX6_putBetween_33 : decode cX6_putBetween 33 = .ok (.iload_n 2, 1) := by decide +kernel
theorem dX6_putBetween_34 : decode cX6_putBetween 34 = .ok (.invokevirtual 23, 3) := by decide +kernel
theorem dX6_putBetween_37 : decode cX6_putBetween 37 = .ok (.return_, 1) := by decide +kernel
theorem dX6_dropAt_0 : decode cX6_dropAt 0 = .ok (.iload_n 1, 1) := by decide +kernel
theorem dX6_dropAt_1 : decode cX6_dropAt 1 = .ok (.istore_n 2, 1) := by decide +kernel
theorem dX6_dropAt_2 : decode cX6_dropAt 2 = .ok (.iload_n 2, 1) := by decide +kernel
theorem dX6_dropAt_3 : decode cX6_dropAt 3 = .ok (.aload_n 0, 1) := by decide +kernel
theorem dX6_dropAt_4 : decode cX6_dropAt 4 = .ok (.getfield 13, 3) := by decide +kernel
theorem dX6_dropAt_7 : decode cX6_dropAt 7 = .ok (.arraylength, 1) := by decide +kernel
theorem dX6_dropAt_8 : decode cX6_dropAt 8 = .ok (.if_icmp .ge 21, 3) := by decide +kernel
theorem dX6_dropAt_11 : decode cX6_dropAt 11 = .ok (.aload_n 0, 1) := by decide +kernel
theorem dX6_dropAt_12 : decode cX6_dropAt 12 = .ok (.iload_n 2, 1) := by decide +kernel
theorem dX6_dropAt_13 : decode cX6_dropAt 13 = .ok (.aload_n 0, 1) := by decide +kernel
theorem dX6_dropAt_14 : decode cX6_dropAt 14 = .ok (.iload_n 2, 1) := by decide +kernel
theorem dX6_dropAt_15 : decode cX6_dropAt 15 = .ok (.iconst 1, 1) := by decide +kernel
theorem dX6_dropAt_16 : decode cX6_dropAt 16 = .ok (.iadd, 1) := by decide +kernel
theorem dX6_dropAt_17 : decode cX6_dropAt 17 = .ok (.invokevirtual 19, 3) := by decide +kernel
theorem dX6_dropAt_20 : decode cX6_dropAt 20 = .ok (.invokevirtual 23, 3) := by decide +kernel
theorem dX6_dropAt_23 : decode cX6_dropAt 23 = .ok (.iinc 2 1, 3) := by decide +kernel
theorem dX6_dropAt_26 : decode cX6_dropAt 26 = .ok (.goto (-24), 3) := by decide +kernel
theorem dX6_dropAt_29 : decode cX6_dropAt 29 = .ok (.return_, 1) := by decide +kernel
theorem dX7_init_0 : decode cX7_init 0 = .ok (.aload_n 0, 1) := by decide +kernel
theorem dX7_init_1 : decode cX7_init 1 = .ok (.invokespecial 3, 3) := by decide +kernel
theorem dX7_init_4 : decode cX7_init 4 = .ok (.aload_n 0, 1) := by decide +kernel
theorem dX7_init_5 : decode cX7_init 5 = .ok (.new 9, 3) := by decide +kernel
theorem dX7_init_8 : decode cX7_init 8 = .ok (.dup, 1) := by decide +kernel
theorem dX7_init_9 : decode cX7_init 9 = .ok (.bipush 40, 2) := by decide +kernel
theorem dX7_init_11 : decode cX7_init 11 = .ok (.invokespecial 11, 3) := by decide +kernel
theorem dX7_init_14 : decode cX7_init 14 = .ok (.putfield 14, 3) := by decide +kernel
theorem dX7_init_17 : decode cX7_init 17 = .ok (.aload_n 0, 1) := by decide +kernel
theorem dX7_init_18 : decode cX7_init 18 = .ok (.new 9, 3) := by decide +kernel
theorem dX7_init_21 : decode cX7_init 21 = .ok (.dup, 1) := by decide +kernel
theorem dX7_init_22 : decode cX7_init 22 = .ok (.bipush 40, 2) := by decide +kernel
theorem dX7_init_24 : decode cX7_init 24 = .ok (.invokespecial 11, 3) := by decide +kernel
theorem dX7_init_27 : decode cX7_init 27 = .ok (.putfield 20, 3) := by decide +kernel
theorem dX7_init_30 : decode cX7_init 30 = .ok (.aload_n 0, 1) := by decide +kernel
theorem dX7_init_31 : decode cX7_init 31 = .ok (.iconst 0, 1) := by decide +kernel
theorem dX7_init_32 : decode cX7_init 32 = .ok (.putfield 23, 3) := by decide +kernel
theorem dX7_init_35 : decode cX7_init 35 = .ok (.aload_n 0, 1) := by decide +kernel
theorem dX7_init_36 : decode cX7_init 36 = .ok (.bipush 60, 2) := by decide +kernel
theorem dX7_init_38 : decode cX7_init 38 = .ok (.putfield 27, 3) := by decide +kernel
theorem dX7_init_41 : decode cX7_init 41 = .ok (.aload_n 0, 1) := by decide +kernel
theorem dX7_init_42 : decode cX7_init 42 = .ok (.iconst 2, 1) := by decide +kernel
theorem dX7_init_43 : decode cX7_init 43 = .ok (.putfield 30, 3) := by decide +kernel
theorem dX7_init_46 : decode cX7_init 46 = .ok (.aload_n 0, 1) := by decide +kernel
theorem dX7_init_47 : decode cX7_init 47 = .ok (.iconst 3, 1) := by decide +kernel
theorem dX7_init_48 : decode cX7_init 48 = .ok (.putfield 33, 3) := by decide +kernel
theorem dX7_init_51 : decode cX7_init 51 = .ok (.aload_n 0, 1) := by decide +kernel
theorem dX7_init_52 : decode cX7_init 52 = .ok (.sipush 500, 3) := by decide +kernel
theorem dX7_init_55 : decode cX7_init 55 = .ok (.putfield 36, 3) := by decide +kernel
theorem dX7_init_58 : decode cX7_init 58 = .ok (.aload_n 0, 1) := by decide +kernel
theorem dX7_init_59 : decode cX7_init 59 = .ok (.sipush 300, 3) := by decide +kernel
theorem dX7_init_62 : decode cX7_init 62 = .ok (.putfield 39, 3) := by decide +kernel
theorem dX7_init_65 : decode cX7_init 65 = .ok (.aload_n 0, 1) := by decide +kernel
theorem dX7_init_66 : decode cX7_init 66 = .ok (.bipush 6, 2) := by decide +kernel
theorem dX7_init_68 : decode cX7_init 68 = .ok (.putfield 42, 3) := by decide +kernel
theorem dX7_init_71 : decode cX7_init 71 = .ok (.aload_n 0, 1) := by decide +kernel
theorem dX7_init_72 : decode cX7_init 72 = .ok (.iconst 1, 1) := by decide +kernel
theorem dX7_init_73 : decode cX7_init 73 = .ok (.putfield 45, 3) := by decide +kernel
theorem dX7_init_76 : decode cX7_init 76 = .ok (.return_, 1) := by decide +kernel
theorem dX7_copyFrom_0 : decode cX7_copyFrom 0 = .ok (.aload_n 0, 1) := by decide +kernel
theorem dX7_copyFrom_1 : decode cX7_copyFrom 1 = .ok (.getfield 14, 3) := by decide +kernel
theorem dX7_copyFrom_4 : decode cX7_copyFrom 4 = .ok (.aload_n 1, 1) := by decide +kernel
theorem dX7_copyFrom_5 : decode cX7_copyFrom 5 = .ok (.getfield 14, 3) := by decide +kernel
theorem dX7_copyFrom_8 : decode cX7_copyFrom 8 = .ok (.invokevirtual 49, 3) := by decide +kernel
theorem dX7_copyFrom_11 : decode cX7_copyFrom 11 = .ok (.aload_n 0, 1) := by decide +kernel
theorem dX7_copyFrom_12 : decode cX7_copyFrom 12 = .ok (.getfield 20, 3) := by decide +kernel
theorem dX7_copyFrom_15 : decode cX7_copyFrom 15 = .ok (.aload_n 1, 1) := by decide +kernel
theorem dX7_copyFrom_16 : decode cX7_copyFrom 16 = .ok (.getfield 20, 3) := by decide +kernel
theorem dX7_copyFrom_19 : decode cX7_copyFrom 19 = .ok (.invokevirtual 49, 3) := by decide +kernel
theorem dX7_copyFrom_22 : decode cX7_copyFrom 22 = .ok (.aload_n 0, 1) := by decide +kernel
theorem dX7_copyFrom_23 : decode cX7_copyFrom 23 = .ok (.aload_n 1, 1) := by decide +kernel
theorem dX7_copyFrom_24 : decode cX7_copyFrom 24 = .ok (.getfield 23, 3) := by decide +kernel
theorem dX7_copyFrom_27 : decode cX7_copyFrom 27 = .ok (.putfield 23, 3) := by decide +kernel
theorem dX7_copyFrom_30 : decode cX7_copyFrom 30 = .ok (.aload_n 0, 1) := by decide +kernel
theorem dX7_copyFrom_31 : decode cX7_copyFrom 31 = .ok (.aload_n 1, 1) := by decide +kernel
theorem dX7_copyFrom_32 : decode cX7_copyFrom 32 = .ok (.getfield 27, 3) := by decide +kernel
theorem dX7_copyFrom_35 : decode cX7_copyFrom 35 = .ok (.putfield 27, 3) := by decide +kernel
theorem dX7_copyFrom_38 : decode cX7_copyFrom 38 = .ok (.aload_n 0, 1) := by decide +kernel
theorem dX7_copyFrom_39 : decode cX7_copyFrom 39 = .ok (.aload_n 1, 1) := by decide +kernel
theorem dX7_copyFrom_40 : decode cX7_copyFrom 40 = .ok (.getfield 30, 3) := by decide +kernel
theorem dX7_copyFrom_43 : decode cX7_copyFrom 43 = .ok (.putfield 30, 3) := by decide +kernel
theorem dX7_copyFrom_46 : decode cX7_copyFrom 46 = .ok (.aload_n 0, 1) := by decide +kernel
theorem dX7_copyFrom_47 : decode cX7_copyFrom 47 = .ok (.aload_n 1, 1) := by decide +kernel
theorem dX7_copyFrom_48 : decode cX7_copyFrom 48 = .ok (.getfield 33, 3) := by decide +kernel
theorem dX7_copyFrom_51 : decode cX7_copyFrom 51 = .ok (.putfield 33, 3) := by decide +kernel
theorem dX7_copyFrom_54 : decode cX7_copyFrom 54 = .ok (.aload_n 0, 1) := by decide +kernel
theorem dX7_copyFrom_55 : decode cX7_copyFrom 55 = .ok (.aload_n 1, 1) := by decide +kernel
theorem dX7_copyFrom_56 : decode cX7_copyFrom 56 = .ok (.getfield 36, 3) := by decide +kernel
theorem dX7_copyFrom_59 : decode cX7_copyFrom 59 = .ok (.putfield 36, 3) := by decide +kernel
theorem dX7_copyFrom_62 : decode cX7_copyFrom 62 = .ok (.aload_n 0, 1) := by decide +kernel
theorem dX7_copyFrom_63 : decode cX7_copyFrom 63 = .ok (.aload_n 1, 1) := by decide +kernel
theorem dX7_copyFrom_64 : decode cX7_copyFrom 64 = .ok (.getfield 39, 3) := by decide +kernel
theorem dX7_copyFrom_67 : decode cX7_copyFrom 67 = .ok (.putfield 39, 3) := by decide +kernel
theorem dX7_copyFrom_70 : decode cX7_copyFrom 70 = .ok (.aload_n 0, 1) := by decide +kernel
theorem dX7_copyFrom_71 : decode cX7_copyFrom 71 = .ok (.aload_n 1, 1) := by decide +kernel
theorem dX7_copyFrom_72 : decode cX7_copyFrom 72 = .ok (.getfield 42, 3) := by decide +kernel
theorem dX7_copyFrom_75 : decode cX7_copyFrom 75 = .ok (.putfield 42, 3) := by decide +kernel
theorem dX7_copyFrom_78 : decode cX7_copyFrom 78 = .ok (.aload_n 0, 1) := by decide +kernel
theorem dX7_copyFrom_79 : decode cX7_copyFrom 79 = .ok (.aload_n 1, 1) := by decide +kernel
theorem dX7_copyFrom_80 : decode cX7_copyFrom 80 = .ok (.getfield 45, 3) := by decide +kernel
theorem dX7_copyFrom_83 : decode cX7_copyFrom 83 = .ok (.putfield 45, 3) := by decide +kernel
theorem dX7_copyFrom_86 : decode cX7_copyFrom 86 = .ok (.return_, 1) := by decide +kernel
theorem dX7_putWord_0 : decode cX7_putWord 0 = .ok (.aload_n 0, 1) := by decide +kernel
theorem dX7_putWord_1 : decode cX7_putWord 1 = .ok (.getfield 23, 3) := by decide +kernel
theorem dX7_putWord_4 : decode cX7_putWord 4 = .ok (.bipush 40, 2) := by decide +kernel
theorem dX7_putWord_6 : decode cX7_putWord 6 = .ok (.if_icmp .ge 31, 3) := by decide +kernel
theorem dX7_putWord_9 : decode cX7_putWord 9 = .ok (.aload_n 0, 1) := by decide +kernel
theorem dX7_putWord_10 : decode cX7_putWord 10 = .ok (.getfield 14, 3) := by decide +kernel
theorem dX7_putWord_13 : decode cX7_putWord 13 = .ok (.iload_n 1, 1) := by decide +kernel
theorem dX7_putWord_14 : decode cX7_putWord 14 = .ok (.iload_n 2, 1) := by decide +kernel
theorem dX7_putWord_15 : decode cX7_putWord 15 = .ok (.invokevirtual 53, 3) := by decide +kernel
theorem dX7_putWord_18 : decode cX7_putWord 18 = .ok (.aload_n 0, 1) := by decide +kernel
theorem dX7_putWord_19 : decode cX7_putWord 19 = .ok (.getfield 20, 3) := by decide +kernel
theorem dX7_putWord_22 : decode cX7_putWord 22 = .ok (.iload_n 1, 1) := by decide +kernel
theorem dX7_putWord_23 : decode cX7_putWord 23 = .ok (.iload_n 3, 1) := by decide +kernel
theorem dX7_putWord_24 : decode cX7_putWord 24 = .ok (.invokevirtual 53, 3) := by decide +kernel
theorem dX7_putWord_27 : decode cX7_putWord 27 = .ok (.aload_n 0, 1) := by decide +kernel
theorem dX7_putWord_28 : decode cX7_putWord 28 = .ok (.dup, 1) := by decide +kernel
theorem dX7_putWord_29 : decode cX7_putWord 29 = .ok (.getfield 23, 3) := by decide +kernel
theorem dX7_putWord_32 : decode cX7_putWord 32 = .ok (.iconst 1, 1) := by decide +kernel
theorem dX7_putWord_33 : decode cX7_putWord 33 = .ok (.iadd, 1) := by decide +kernel
theorem dX7_putWord_34 : decode cX7_putWord 34 = .ok (.putfield 23, 3) := by decide +kernel
theorem dX7_putWord_37 : decode cX7_putWord 37 = .ok (.return_, 1) := by decide +kernel
theorem dX7_dropWord_0 : decode cX7_dropWord 0 = .ok (.aload_n 0, 1) := by decide +kernel
theorem dX7_dropWord_1 : decode cX7_dropWord 1 = .ok (.getfield 23, 3) := by decide +kernel
theorem dX7_dropWord_4 : decode cX7_dropWord 4 = .ok (.ifCond .le 29, 3) := by decide +kernel
theorem dX7_dropWord_7 : decode cX7_dropWord 7 = .ok (.aload_n 0, 1) := by decide +kernel
theorem dX7_dropWord_8 : decode cX7_dropWord 8 = .ok (.getfield 14, 3) := by decide +kernel
theorem dX7_dropWord_11 : decode cX7_dropWord 11 = .ok (.iload_n 1, 1) := by decide +kernel
theorem dX7_dropWord_12 : decode cX7_dropWord 12 = .ok (.invokevirtual 57, 3) := by decide +kernel
theorem dX7_dropWord_15 : decode cX7_dropWord 15 = .ok (.aload_n 0, 1) := by decide +kernel
theorem dX7_dropWord_16 : decode cX7_dropWord 16 = .ok (.getfield 20, 3) := by decide +kernel
theorem dX7_dropWord_19 : decode cX7_dropWord 19 = .ok (.iload_n 1, 1) := by decide +kernel
theorem dX7_dropWord_20 : decode cX7_dropWord 20 = .ok (.invokevirtual 57, 3) := by decide +kernel
theorem dX7_dropWord_23 : decode cX7_dropWord 23 = .ok (.aload_n 0, 1) := by decide +kernel
theorem dX7_dropWord_24 : decode cX7_dropWord 24 = .ok (.dup, 1) := by decide +kernel
theorem dX7_dropWord_25 : decode cX7_dropWord 25 = .ok (.getfield 23, 3) := by decide +kernel
theorem dX7_dropWord_28 : decode cX7_dropWord 28 = .ok (.iconst 1, 1) := by decide +kernel
theorem dX7_dropWord_29 : decode cX7_dropWord 29 = .ok (.isub, 1) := by decide +kernel
theorem dX7_dropWord_30 : decode cX7_dropWord 30 = .ok (.putfield 23, 3) := by decide +kernel
theorem dX7_dropWord_33 : decode cX7_dropWord 33 = .ok (.return_, 1) := by decide +kernel
theorem dX7_endsParagraph_0 : decode cX7_endsParagraph 0 = .ok (.aload_n 0, 1) := by decide +kernel
theorem dX7_endsParagraph_1 : decode cX7_endsParagraph 1 = .ok (.getfield 20, 3) := by decide +kernel
theorem dX7_endsParagraph_4 : decode cX7_endsParagraph 4 = .ok (.iload_n 1, 1) := by decide +kernel
theorem dX7_endsParagraph_5 : decode cX7_endsParagraph 5 = .ok (.invokevirtual 60, 3) := by decide +kernel
theorem dX7_endsParagraph_8 : decode cX7_endsParagraph 8 = .ok (.iconst 2, 1) := by decide +kernel
theorem dX7_endsParagraph_9 : decode cX7_endsParagraph 9 = .ok (.if_icmp .eq 13, 3) := by decide +kernel
theorem dX7_endsParagraph_12 : decode cX7_endsParagraph 12 = .ok (.iload_n 1, 1) := by decide +kernel
theorem dX7_endsParagraph_13 : decode cX7_endsParagraph 13 = .ok (.aload_n 0, 1) := by decide +kernel
theorem dX7_endsParagraph_14 : decode cX7_endsParagraph 14 = .ok (.getfield 23, 3) := by decide +kernel
theorem dX7_endsParagraph_17 : decode cX7_endsParagraph 17 = .ok (.iconst 1, 1) := by decide +kernel
theorem dX7_endsParagraph_18 : decode cX7_endsParagraph 18 = .ok (.isub, 1) := by decide +kernel
theorem dX7_endsParagraph_19 : decode cX7_endsParagraph 19 = .ok (.if_icmp .ne 7, 3) := by decide +kernel
theorem dX7_endsParagraph_22 : decode cX7_endsParagraph 22 = .ok (.iconst 1, 1) := by decide +kernel
theorem dX7_endsParagraph_23 : decode cX7_endsParagraph 23 = .ok (.goto 4, 3) := by decide +kernel
theorem dX7_endsParagraph_26 : decode cX7_endsParagraph 26 = .ok (.iconst 0, 1) := by decide +kernel
theorem dX7_endsParagraph_27 : decode cX7_endsParagraph 27 = .ok (.ireturn, 1) := by decide +kernel
theorem dX7_countParagraphs_0 : decode cX7_countParagraphs 0 = .ok (.iconst 0, 1) := by decide +kernel
theorem dX7_countParagraphs_1 : decode cX7_countParagraphs 1 = .ok (.istore_n 1, 1) := by decide +kernel
theorem dX7_countParagraphs_2 : decode cX7_countParagraphs 2 = .ok (.iconst 0, 1) := by decide +kernel
theorem dX7_countParagraphs_3 : decode cX7_countParagraphs 3 = .ok (.istore_n 2, 1) := by decide +kernel
theorem dX7_countParagraphs_4 : decode cX7_countParagraphs 4 = .ok (.iload_n 2, 1) := by decide +kernel
theorem dX7_countParagraphs_5 : decode cX7_countParagraphs 5 = .ok (.aload_n 0, 1) := by decide +kernel
theorem dX7_countParagraphs_6 : decode cX7_countParagraphs 6 = .ok (.getfield 23, 3) := by decide +kernel
theorem dX7_countParagraphs_9 : decode cX7_countParagraphs 9 = .ok (.if_icmp .ge 20, 3) := by decide +kernel
theorem dX7_countParagraphs_12 : decode cX7_countParagraphs 12 = .ok (.aload_n 0, 1) := by decide +kernel
theorem dX7_countParagraphs_13 : decode cX7_countParagraphs 13 = .ok (.iload_n 2, 1) := by decide +kernel
theorem dX7_countParagraphs_14 : decode cX7_countParagraphs 14 = .ok (.invokevirtual 64, 3) := by decide +kernel
theorem dX7_countParagraphs_17 : decode cX7_countParagraphs 17 = .ok (.ifCond .eq 6, 3) := by decide +kernel
theorem dX7_countParagraphs_20 : decode cX7_countParagraphs 20 = .ok (.iinc 1 1, 3) := by decide +kernel
theorem dX7_countParagraphs_23 : decode cX7_countParagraphs 23 = .ok (.iinc 2 1, 3) := by decide +kernel
theorem dX7_countParagraphs_26 : decode cX7_countParagraphs 26 = .ok (.goto (-22), 3) := by decide +kernel
theorem dX7_countParagraphs_29 : decode cX7_countParagraphs 29 = .ok (.iload_n 1, 1) := by decide +kernel
theorem dX7_countParagraphs_30 : decode cX7_countParagraphs 30 = .ok (.ireturn, 1) := by decide +kernel
theorem dX7_slackCost_0 : decode cX7_slackCost 0 = .ok (.aload_n 0, 1) := by decide +kernel
theorem dX7_slackCost_1 : decode cX7_slackCost 1 = .ok (.getfield 27, 3) := by decide +kernel
theorem dX7_slackCost_4 : decode cX7_slackCost 4 = .ok (.iload_n 1, 1) := by decide +kernel
theorem dX7_slackCost_5 : decode cX7_slackCost 5 = .ok (.isub, 1) := by decide +kernel
theorem dX7_slackCost_6 : decode cX7_slackCost 6 = .ok (.istore_n 2, 1) := by decide +kernel
theorem dX7_slackCost_7 : decode cX7_slackCost 7 = .ok (.iload_n 2, 1) := by decide +kernel
theorem dX7_slackCost_8 : decode cX7_slackCost 8 = .ok (.iload_n 2, 1) := by decide +kernel
theorem dX7_slackCost_9 : decode cX7_slackCost 9 = .ok (.imul, 1) := by decide +kernel
theorem dX7_slackCost_10 : decode cX7_slackCost 10 = .ok (.ireturn, 1) := by decide +kernel
theorem dX7_lastLineCost_0 : decode cX7_lastLineCost 0 = .ok (.iload_n 2, 1) := by decide +kernel
theorem dX7_lastLineCost_1 : decode cX7_lastLineCost 1 = .ok (.ifCond .ne 20, 3) := by decide +kernel
theorem dX7_lastLineCost_4 : decode cX7_lastLineCost 4 = .ok (.iconst 4, 1) := by decide +kernel
theorem dX7_lastLineCost_5 : decode cX7_lastLineCost 5 = .ok (.iload_n 1, 1) := by decide +kernel
theorem dX7_lastLineCost_6 : decode cX7_lastLineCost 6 = .ok (.imul, 1) := by decide +kernel
theorem dX7_lastLineCost_7 : decode cX7_lastLineCost 7 = .ok (.aload_n 0, 1) := by decide +kernel
theorem dX7_lastLineCost_8 : decode cX7_lastLineCost 8 = .ok (.getfield 27, 3) := by decide +kernel
theorem dX7_lastLineCost_11 : decode cX7_lastLineCost 11 = .ok (.if_icmp .ge 10, 3) := by decide +kernel
theorem dX7_lastLineCost_14 : decode cX7_lastLineCost 14 = .ok (.aload_n 0, 1) := by decide +kernel
theorem dX7_lastLineCost_15 : decode cX7_lastLineCost 15 = .ok (.getfield 39, 3) := by decide +kernel
theorem dX7_lastLineCost_18 : decode cX7_lastLineCost 18 = .ok (.goto 4, 3) := by decide +kernel
theorem dX7_lastLineCost_21 : decode cX7_lastLineCost 21 = .ok (.iconst 0, 1) := by decide +kernel
theorem dX7_lastLineCost_22 : decode cX7_lastLineCost 22 = .ok (.ireturn, 1) := by decide +kernel
theorem dX7_turn_0 : decode cX7_turn 0 = .ok (.iload_n 2, 1) := by decide +kernel
theorem dX7_turn_1 : decode cX7_turn 1 = .ok (.iload_n 1, 1) := by decide +kernel
theorem dX7_turn_2 : decode cX7_turn 2 = .ok (.aload_n 0, 1) := by decide +kernel
theorem dX7_turn_3 : decode cX7_turn 3 = .ok (.getfield 33, 3) := by decide +kernel
theorem dX7_turn_6 : decode cX7_turn 6 = .ok (.isub, 1) := by decide +kernel
theorem dX7_turn_7 : decode cX7_turn 7 = .ok (.if_icmp .gt 5, 3) := by decide +kernel
theorem dX7_turn_10 : decode cX7_turn 10 = .ok (.iconst (-1), 1) := by decide +kernel
theorem dX7_turn_11 : decode cX7_turn 11 = .ok (.ireturn, 1) := by decide +kernel
theorem dX7_turn_12 : decode cX7_turn 12 = .ok (.iload_n 2, 1) := by decide +kernel
theorem dX7_turn_13 : decode cX7_turn 13 = .ok (.iload_n 1, 1) := by decide +kernel
theorem dX7_turn_14 : decode cX7_turn 14 = .ok (.aload_n 0, 1) := by decide +kernel
theorem dX7_turn_15 : decode cX7_turn 15 = .ok (.getfield 33, 3) := by decide +kernel
theorem dX7_turn_18 : decode cX7_turn 18 = .ok (.iadd, 1) := by decide +kernel
theorem dX7_turn_19 : decode cX7_turn 19 = .ok (.if_icmp .lt 7, 3) := by decide +kernel
theorem dX7_turn_22 : decode cX7_turn 22 = .ok (.iconst 1, 1) := by decide +kernel
theorem dX7_turn_23 : decode cX7_turn 23 = .ok (.goto 4, 3) := by decide +kernel
theorem dX7_turn_26 : decode cX7_turn 26 = .ok (.iconst 0, 1) := by decide +kernel
theorem dX7_turn_27 : decode cX7_turn 27 = .ok (.ireturn, 1) := by decide +kernel
theorem dX8_init_0 : decode cX8_init 0 = .ok (.aload_n 0, 1) := by decide +kernel
theorem dX8_init_1 : decode cX8_init 1 = .ok (.invokespecial 1, 3) := by decide +kernel
theorem dX8_init_4 : decode cX8_init 4 = .ok (.aload_n 0, 1) := by decide +kernel
theorem dX8_init_5 : decode cX8_init 5 = .ok (.new 7, 3) := by decide +kernel
theorem dX8_init_8 : decode cX8_init 8 = .ok (.dup, 1) := by decide +kernel
theorem dX8_init_9 : decode cX8_init 9 = .ok (.invokespecial 9, 3) := by decide +kernel
theorem dX8_init_12 : decode cX8_init 12 = .ok (.putfield 10, 3) := by decide +kernel
theorem dX8_init_15 : decode cX8_init 15 = .ok (.aload_n 0, 1) := by decide +kernel
theorem dX8_init_16 : decode cX8_init 16 = .ok (.new 16, 3) := by decide +kernel
theorem dX8_init_19 : decode cX8_init 19 = .ok (.dup, 1) := by decide +kernel
theorem dX8_init_20 : decode cX8_init 20 = .ok (.aload_n 0, 1) := by decide +kernel
theorem dX8_init_21 : decode cX8_init 21 = .ok (.getfield 10, 3) := by decide +kernel
theorem dX8_init_24 : decode cX8_init 24 = .ok (.invokespecial 18, 3) := by decide +kernel
theorem dX8_init_27 : decode cX8_init 27 = .ok (.putfield 21, 3) := by decide +kernel
theorem dX8_init_30 : decode cX8_init 30 = .ok (.aload_n 0, 1) := by decide +kernel
theorem dX8_init_31 : decode cX8_init 31 = .ok (.new 25, 3) := by decide +kernel
theorem dX8_init_34 : decode cX8_init 34 = .ok (.dup, 1) := by decide +kernel
theorem dX8_init_35 : decode cX8_init 35 = .ok (.aload_n 0, 1) := by decide +kernel
theorem dX8_init_36 : decode cX8_init 36 = .ok (.getfield 10, 3) := by decide +kernel
theorem dX8_init_39 : decode cX8_init 39 = .ok (.aload_n 0, 1) := by decide +kernel
theorem dX8_init_40 : decode cX8_init 40 = .ok (.getfield 21, 3) := by decide +kernel
theorem dX8_init_43 : decode cX8_init 43 = .ok (.invokespecial 27, 3) := by decide +kernel
theorem dX8_init_46 : decode cX8_init 46 = .ok (.putfield 30, 3) := by decide +kernel
theorem dX8_init_49 : decode cX8_init 49 = .ok (.aload_n 0, 1) := by decide +kernel
theorem dX8_init_50 : decode cX8_init 50 = .ok (.new 7, 3) := by decide +kernel
theorem dX8_init_53 : decode cX8_init 53 = .ok (.dup, 1) := by decide +kernel
theorem dX8_init_54 : decode cX8_init 54 = .ok (.invokespecial 9, 3) := by decide +kernel
theorem dX8_init_57 : decode cX8_init 57 = .ok (.putfield 34, 3) := by decide +kernel
theorem dX8_init_60 : decode cX8_init 60 = .ok (.aload_n 0, 1) := by decide +kernel
theorem dX8_init_61 : decode cX8_init 61 = .ok (.new 16, 3) := by decide +kernel
theorem dX8_init_64 : decode cX8_init 64 = .ok (.dup, 1) := by decide +kernel
theorem dX8_init_65 : decode cX8_init 65 = .ok (.aload_n 0, 1) := by decide +kernel
theorem dX8_init_66 : decode cX8_init 66 = .ok (.getfield 34, 3) := by decide +kernel
theorem dX8_init_69 : decode cX8_init 69 = .ok (.invokespecial 18, 3) := by decide +kernel
theorem dX8_init_72 : decode cX8_init 72 = .ok (.putfield 37, 3) := by decide +kernel
theorem dX8_init_75 : decode cX8_init 75 = .ok (.aload_n 0, 1) := by decide +kernel
theorem dX8_init_76 : decode cX8_init 76 = .ok (.new 40, 3) := by decide +kernel
theorem dX8_init_79 : decode cX8_init 79 = .ok (.dup, 1) := by decide +kernel
theorem dX8_init_80 : decode cX8_init 80 = .ok (.invokespecial 42, 3) := by decide +kernel
theorem dX8_init_83 : decode cX8_init 83 = .ok (.putfield 43, 3) := by decide +kernel
theorem dX8_init_86 : decode cX8_init 86 = .ok (.aload_n 0, 1) := by decide +kernel
theorem dX8_init_87 : decode cX8_init 87 = .ok (.new 47, 3) := by decide +kernel
theorem dX8_init_90 : decode cX8_init 90 = .ok (.dup, 1) := by decide +kernel
theorem dX8_init_91 : decode cX8_init 91 = .ok (.invokespecial 49, 3) := by decide +kernel
theorem dX8_init_94 : decode cX8_init 94 = .ok (.putfield 50, 3) := by decide +kernel
theorem dX8_init_97 : decode cX8_init 97 = .ok (.aload_n 0, 1) := by decide +kernel
theorem dX8_init_98 : decode cX8_init 98 = .ok (.iconst 1, 1) := by decide +kernel
theorem dX8_init_99 : decode cX8_init 99 = .ok (.putfield 54, 3) := by decide +kernel
theorem dX8_init_102 : decode cX8_init 102 = .ok (.return_, 1) := by decide +kernel
theorem dX8_insert_0 : decode cX8_insert 0 = .ok (.iload_n 1, 1) := by decide +kernel
theorem dX8_insert_1 : decode cX8_insert 1 = .ok (.aload_n 0, 1) := by decide +kernel
theorem dX8_insert_2 : decode cX8_insert 2 = .ok (.getfield 10, 3) := by decide +kernel
theorem dX8_insert_5 : decode cX8_insert 5 = .ok (.getfield 58, 3) := by decide +kernel
theorem dX8_insert_8 : decode cX8_insert 8 = .ok (.iconst 1, 1) := by decide +kernel
theorem dX8_insert_9 : decode cX8_insert 9 = .ok (.iadd, 1) := by decide +kernel
theorem dX8_insert_10 : decode cX8_insert 10 = .ok (.invokestatic 62, 3) := by decide +kernel
theorem dX8_insert_13 : decode cX8_insert 13 = .ok (.iload_n 2, 1) := by decide +kernel
theorem dX8_insert_14 : decode cX8_insert 14 = .ok (.iconst 1, 1) := by decide +kernel
theorem dX8_insert_15 : decode cX8_insert 15 = .ok (.bipush 30, 2) := by decide +kernel
theorem dX8_insert_17 : decode cX8_insert 17 = .ok (.invokestatic 66, 3) := by decide +kernel
theorem dX8_insert_20 : decode cX8_insert 20 = .ok (.aload_n 0, 1) := by decide +kernel
theorem dX8_insert_21 : decode cX8_insert 21 = .ok (.getfield 10, 3) := by decide +kernel
theorem dX8_insert_24 : decode cX8_insert 24 = .ok (.getfield 58, 3) := by decide +kernel
theorem dX8_insert_27 : decode cX8_insert 27 = .ok (.bipush 40, 2) := by decide +kernel
theorem dX8_insert_29 : decode cX8_insert 29 = .ok (.if_icmp .lt 13, 3) := by decide +kernel
theorem dX8_insert_32 : decode cX8_insert 32 = .ok (.new 70, 3) := by decide +kernel
theorem dX8_insert_35 : decode cX8_insert 35 = .ok (.dup, 1) := by decide +kernel
theorem dX8_insert_36 : decode cX8_insert 36 = .ok (.ldc 72, 2) := by decide +kernel
theorem dX8_insert_38 : decode cX8_insert 38 = .ok (.invokespecial 74, 3) := by decide +kernel
theorem dX8_insert_41 : decode cX8_insert 41 = .ok (.athrow, 1) := by decide +kernel
theorem dX8_insert_42 : decode cX8_insert 42 = .ok (.aload_n 0, 1) := by decide +kernel
theorem dX8_insert_43 : decode cX8_insert 43 = .ok (.invokevirtual 77, 3) := by decide +kernel
theorem dX8_insert_46 : decode cX8_insert 46 = .ok (.aload_n 0, 1) := by decide +kernel
theorem dX8_insert_47 : decode cX8_insert 47 = .ok (.getfield 10, 3) := by decide +kernel
theorem dX8_insert_50 : decode cX8_insert 50 = .ok (.iload_n 1, 1) := by decide +kernel
theorem dX8_insert_51 : decode cX8_insert 51 = .ok (.iload_n 2, 1) := by decide +kernel
theorem dX8_insert_52 : decode cX8_insert 52 = .ok (.iconst 0, 1) := by decide +kernel
theorem dX8_insert_53 : decode cX8_insert 53 = .ok (.invokevirtual 80, 3) := by decide +kernel
theorem dX8_insert_56 : decode cX8_insert 56 = .ok (.aload_n 0, 1) := by decide +kernel
theorem dX8_insert_57 : decode cX8_insert 57 = .ok (.getfield 10, 3) := by decide +kernel
theorem dX8_insert_60 : decode cX8_insert 60 = .ok (.getfield 58, 3) := by decide +kernel
theorem dX8_insert_63 : decode cX8_insert 63 = .ok (.ireturn, 1) := by decide +kernel
theorem dX8_remove_0 : decode cX8_remove 0 = .ok (.iload_n 1, 1) := by decide +kernel
theorem dX8_remove_1 : decode cX8_remove 1 = .ok (.aload_n 0, 1) := by decide +kernel
theorem dX8_remove_2 : decode cX8_remove 2 = .ok (.getfield 10, 3) := by decide +kernel
theorem dX8_remove_5 : decode cX8_remove 5 = .ok (.getfield 58, 3) := by decide +kernel
theorem dX8_remove_8 : decode cX8_remove 8 = .ok (.invokestatic 62, 3) := by decide +kernel
theorem dX8_remove_11 : decode cX8_remove 11 = .ok (.aload_n 0, 1) := by decide +kernel
theorem dX8_remove_12 : decode cX8_remove 12 = .ok (.invokevirtual 77, 3) := by decide +kernel
theorem dX8_remove_15 : decode cX8_remove 15 = .ok (.aload_n 0, 1) := by decide +kernel
theorem dX8_remove_16 : decode cX8_remove 16 = .ok (.getfield 10, 3) := by decide +kernel
theorem dX8_remove_19 : decode cX8_remove 19 = .ok (.getfield 83, 3) := by decide +kernel
theorem dX8_remove_22 : decode cX8_remove 22 = .ok (.iload_n 1, 1) := by decide +kernel
theorem dX8_remove_23 : decode cX8_remove 23 = .ok (.invokevirtual 87, 3) := by decide +kernel
theorem dX8_remove_26 : decode cX8_remove 26 = .ok (.istore_n 2, 1) := by decide +kernel
theorem dX8_remove_27 : decode cX8_remove 27 = .ok (.aload_n 0, 1) := by decide +kernel
theorem dX8_remove_28 : decode cX8_remove 28 = .ok (.getfield 10, 3) := by decide +kernel
theorem dX8_remove_31 : decode cX8_remove 31 = .ok (.iload_n 1, 1) := by decide +kernel
theorem dX8_remove_32 : decode cX8_remove 32 = .ok (.invokevirtual 93, 3) := by decide +kernel
theorem dX8_remove_35 : decode cX8_remove 35 = .ok (.iload_n 2, 1) := by decide +kernel
theorem dX8_remove_36 : decode cX8_remove 36 = .ok (.ireturn, 1) := by decide +kernel
theorem dX8_setMark_0 : decode cX8_setMark 0 = .ok (.iload_n 1, 1) := by decide +kernel
theorem dX8_setMark_1 : decode cX8_setMark 1 = .ok (.aload_n 0, 1) := by decide +kernel
theorem dX8_setMark_2 : decode cX8_setMark 2 = .ok (.getfield 10, 3) := by decide +kernel
theorem dX8_setMark_5 : decode cX8_setMark 5 = .ok (.getfield 58, 3) := by decide +kernel
theorem dX8_setMark_8 : decode cX8_setMark 8 = .ok (.invokestatic 62, 3) := by decide +kernel
theorem dX8_setMark_11 : decode cX8_setMark 11 = .ok (.iload_n 2, 1) := by decide +kernel
theorem dX8_setMark_12 : decode cX8_setMark 12 = .ok (.iconst 0, 1) := by decide +kernel
theorem dX8_setMark_13 : decode cX8_setMark 13 = .ok (.iconst 2, 1) := by decide +kernel
theorem dX8_setMark_14 : decode cX8_setMark 14 = .ok (.invokestatic 66, 3) := by decide +kernel
theorem dX8_setMark_17 : decode cX8_setMark 17 = .ok (.aload_n 0, 1) := by decide +kernel
theorem dX8_setMark_18 : decode cX8_setMark 18 = .ok (.invokevirtual 77, 3) := by decide +kernel
theorem dX8_setMark_21 : decode cX8_setMark 21 = .ok (.aload_n 0, 1) := by decide +kernel
theorem dX8_setMark_22 : decode cX8_setMark 22 = .ok (.getfield 10, 3) := by decide +kernel
theorem dX8_setMark_25 : decode cX8_setMark 25 = .ok (.getfield 97, 3) := by decide +kernel
theorem dX8_setMark_28 : decode cX8_setMark 28 = .ok (.iload_n 1, 1) := by decide +kernel
theorem dX8_setMark_29 : decode cX8_setMark 29 = .ok (.invokevirtual 87, 3) := by decide +kernel
theorem dX8_setMark_32 : decode cX8_setMark 32 = .ok (.istore_n 3, 1) := by decide +kernel
theorem dX8_setMark_33 : decode cX8_setMark 33 = .ok (.aload_n 0, 1) := by decide +kernel
theorem dX8_setMark_34 : decode cX8_setMark 34 = .ok (.getfield 10, 3) := by decide +kernel
theorem dX8_setMark_37 : decode cX8_setMark 37 = .ok (.getfield 97, 3) := by decide +kernel
theorem dX8_setMark_40 : decode cX8_setMark 40 = .ok (.iload_n 1, 1) := by decide +kernel
theorem dX8_setMark_41 : decode cX8_setMark 41 = .ok (.iload_n 2, 1) := by decide +kernel
theorem dX8_setMark_42 : decode cX8_setMark 42 = .ok (.invokevirtual 100, 3) := by decide +kernel
theorem dX8_setMark_45 : decode cX8_setMark 45 = .ok (.iload_n 3, 1) := by decide +kernel
theorem dX8_setMark_46 : decode cX8_setMark 46 = .ok (.ireturn, 1) := by decide +kernel
theorem dX8_words_0 : decode cX8_words 0 = .ok (.aload_n 0, 1) := by decide +kernel
theorem dX8_words_1 : decode cX8_words 1 = .ok (.getfield 10, 3) := by decide +kernel
theorem dX8_words_4 : decode cX8_words 4 = .ok (.getfield 58, 3) := by decide +kernel
theorem dX8_words_7 : decode cX8_words 7 = .ok (.ireturn, 1) := by decide +kernel
theorem dX8_wordWidth_0 : decode cX8_wordWidth 0 = .ok (.iload_n 1, 1) := by decide +kernel
theorem dX8_wordWidth_1 : decode cX8_wordWidth 1 = .ok (.aload_n 0, 1) := by decide +kernel
theorem dX8_wordWidth_2 : decode cX8_wordWidth 2 = .ok (.getfield 10, 3) := by decide +kernel
theorem dX8_wordWidth_5 : decode cX8_wordWidth 5 = .ok (.getfield 58, 3) := by decide +kernel
theorem dX8_wordWidth_8 : decode cX8_wordWidth 8 = .ok (.invokestatic 62, 3) := by decide +kernel
theorem dX8_wordWidth_11 : decode cX8_wordWidth 11 = .ok (.aload_n 0, 1) := by decide +kernel
theorem dX8_wordWidth_12 : decode cX8_wordWidth 12 = .ok (.getfield 10, 3) := by decide +kernel
theorem dX8_wordWidth_15 : decode cX8_wordWidth 15 = .ok (.getfield 83, 3) := by decide +kernel
theorem dX8_wordWidth_18 : decode cX8_wordWidth 18 = .ok (.iload_n 1, 1) := by decide +kernel
theorem dX8_wordWidth_19 : decode cX8_wordWidth 19 = .ok (.invokevirtual 87, 3) := by decide +kernel
theorem dX8_wordWidth_22 : decode cX8_wordWidth 22 = .ok (.ireturn, 1) := by decide +kernel
theorem dX8_mark_0 : decode cX8_mark 0 = .ok (.iload_n 1, 1) := by decide +kernel
theorem dX8_mark_1 : decode cX8_mark 1 = .ok (.aload_n 0, 1) := by decide +kernel
theorem dX8_mark_2 : decode cX8_mark 2 = .ok (.getfield 10, 3) := by decide +kernel
theorem dX8_mark_5 : decode cX8_mark 5 = .ok (.getfield 58, 3) := by decide +kernel
theorem dX8_mark_8 : decode cX8_mark 8 = .ok (.invokestatic 62, 3) := by decide +kernel
theorem dX8_mark_11 : decode cX8_mark 11 = .ok (.aload_n 0, 1) := by decide +kernel
theorem dX8_mark_12 : decode cX8_mark 12 = .ok (.getfield 10, 3) := by decide +kernel
theorem dX8_mark_15 : decode cX8_mark 15 = .ok (.getfield 97, 3) := by decide +kernel
theorem dX8_mark_18 : decode cX8_mark 18 = .ok (.iload_n 1, 1) := by decide +kernel
theorem dX8_mark_19 : decode cX8_mark 19 = .ok (.invokevirtual 87, 3) := by decide +kernel
theorem dX8_mark_22 : decode cX8_mark 22 = .ok (.ireturn, 1) := by decide +kernel
theorem dX8_setColumn_0 : decode cX8_setColumn 0 = .ok (.iload_n 1, 1) := by decide +kernel
theorem dX8_setColumn_1 : decode cX8_setColumn 1 = .ok (.bipush 30, 2) := by decide +kernel
theorem dX8_setColumn_3 : decode cX8_setColumn 3 = .ok (.bipush 100, 2) := by decide +kernel
theorem dX8_setColumn_5 : decode cX8_setColumn 5 = .ok (.invokestatic 66, 3) := by decide +kernel
theorem dX8_setColumn_8 : decode cX8_setColumn 8 = .ok (.aload_n 0, 1) := by decide +kernel
theorem dX8_setColumn_9 : decode cX8_setColumn 9 = .ok (.invokevirtual 77, 3) := by decide +kernel
theorem dX8_setColumn_12 : decode cX8_setColumn 12 = .ok (.aload_n 0, 1) := by decide +kernel
theorem dX8_setColumn_13 : decode cX8_setColumn 13 = .ok (.getfield 10, 3) := by decide +kernel
theorem dX8_setColumn_16 : decode cX8_setColumn 16 = .ok (.getfield 103, 3) := by decide +kernel
theorem dX8_setColumn_19 : decode cX8_setColumn 19 = .ok (.istore_n 2, 1) := by decide +kernel
theorem dX8_setColumn_20 : decode cX8_setColumn 20 = .ok (.aload_n 0, 1) := by decide +kernel
theorem dX8_setColumn_21 : decode cX8_setColumn 21 = .ok (.getfield 10, 3) := by decide +kernel
theorem dX8_setColumn_24 : decode cX8_setColumn 24 = .ok (.iload_n 1, 1) := by decide +kernel
theorem dX8_setColumn_25 : decode cX8_setColumn 25 = .ok (.putfield 103, 3) := by decide +kernel
theorem dX8_setColumn_28 : decode cX8_setColumn 28 = .ok (.iload_n 2, 1) := by decide +kernel
theorem dX8_setColumn_29 : decode cX8_setColumn 29 = .ok (.ireturn, 1) := by decide +kernel
theorem dX8_setSpace_0 : decode cX8_setSpace 0 = .ok (.iload_n 1, 1) := by decide +kernel
theorem dX8_setSpace_1 : decode cX8_setSpace 1 = .ok (.iconst 1, 1) := by decide +kernel
theorem dX8_setSpace_2 : decode cX8_setSpace 2 = .ok (.iconst 5, 1) := by decide +kernel
theorem dX8_setSpace_3 : decode cX8_setSpace 3 = .ok (.invokestatic 66, 3) := by decide +kernel
theorem dX8_setSpace_6 : decode cX8_setSpace 6 = .ok (.aload_n 0, 1) := by decide +kernel
theorem dX8_setSpace_7 : decode cX8_setSpace 7 = .ok (.invokevirtual 77, 3) := by decide +kernel
theorem dX8_setSpace_10 : decode cX8_setSpace 10 = .ok (.aload_n 0, 1) := by decide +kernel
theorem dX8_setSpace_11 : decode cX8_setSpace 11 = .ok (.getfield 10, 3) := by decide +kernel
theorem dX8_setSpace_14 : decode cX8_setSpace 14 = .ok (.getfield 106, 3) := by decide +kernel
theorem dX8_setSpace_17 : decode cX8_setSpace 17 = .ok (.istore_n 2, 1) := by decide +kernel
theorem dX8_setSpace_18 : decode cX8_setSpace 18 = .ok (.aload_n 0, 1) := by decide +kernel
theorem dX8_setSpace_19 : decode cX8_setSpace 19 = .ok (.getfield 10, 3) := by decide +kernel
theorem dX8_setSpace_22 : decode cX8_setSpace 22 = .ok (.iload_n 1, 1) := by decide +kernel
theorem dX8_setSpace_23 : decode cX8_setSpace 23 = .ok (.putfield 106, 3) := by decide +kernel
theorem dX8_setSpace_26 : decode cX8_setSpace 26 = .ok (.iload_n 2, 1) := by decide +kernel
theorem dX8_setSpace_27 : decode cX8_setSpace 27 = .ok (.ireturn, 1) := by decide +kernel
theorem dX8_setPenalties_0 : decode cX8_setPenalties 0 = .ok (.iload_n 1, 1) := by decide +kernel
theorem dX8_setPenalties_1 : decode cX8_setPenalties 1 = .ok (.iconst 1, 1) := by decide +kernel
theorem dX8_setPenalties_2 : decode cX8_setPenalties 2 = .ok (.bipush 20, 2) := by decide +kernel
theorem dX8_setPenalties_4 : decode cX8_setPenalties 4 = .ok (.invokestatic 66, 3) := by decide +kernel
theorem dX8_setPenalties_7 : decode cX8_setPenalties 7 = .ok (.iload_n 2, 1) := by decide +kernel
theorem dX8_setPenalties_8 : decode cX8_setPenalties 8 = .ok (.iconst 0, 1) := by decide +kernel
theorem dX8_setPenalties_9 : decode cX8_setPenalties 9 = .ok (.sipush 9999, 3) := by decide +kernel
theorem dX8_setPenalties_12 : decode cX8_setPenalties 12 = .ok (.invokestatic 66, 3) := by decide +kernel
theorem dX8_setPenalties_15 : decode cX8_setPenalties 15 = .ok (.iload_n 3, 1) := by decide +kernel
theorem dX8_setPenalties_16 : decode cX8_setPenalties 16 = .ok (.iconst 0, 1) := by decide +kernel
theorem dX8_setPenalties_17 : decode cX8_setPenalties 17 = .ok (.sipush 9999, 3) := by decide +kernel
theorem dX8_setPenalties_20 : decode cX8_setPenalties 20 = .ok (.invokestatic 66, 3) := by decide +kernel
theorem dX8_setPenalties_23 : decode cX8_setPenalties 23 = .ok (.aload_n 0, 1) := by decide +kernel
theorem dX8_setPenalties_24 : decode cX8_setPenalties 24 = .ok (.invokevirtual 77, 3) := by decide +kernel
theorem dX8_setPenalties_27 : decode cX8_setPenalties 27 = .ok (.aload_n 0, 1) := by decide +kernel
theorem dX8_setPenalties_28 : decode cX8_setPenalties 28 = .ok (.getfield 10, 3) := by decide +kernel
theorem dX8_setPenalties_31 : decode cX8_setPenalties 31 = .ok (.getfield 109, 3) := by decide +kernel
theorem dX8_setPenalties_34 : decode cX8_setPenalties 34 = .ok (.istore 4, 2) := by decide +kernel
theorem dX8_setPenalties_36 : decode cX8_setPenalties 36 = .ok (.aload_n 0, 1) := by decide +kernel
theorem dX8_setPenalties_37 : decode cX8_setPenalties 37 = .ok (.getfield 10, 3) := by decide +kernel
theorem dX8_setPenalties_40 : decode cX8_setPenalties 40 = .ok (.iload_n 1, 1) := by decide +kernel
theorem dX8_setPenalties_41 : decode cX8_setPenalties 41 = .ok (.putfield 109, 3) := by decide +kernel
theorem dX8_setPenalties_44 : decode cX8_setPenalties 44 = .ok (.aload_n 0, 1) := by decide +kernel
theorem dX8_setPenalties_45 : decode cX8_setPenalties 45 = .ok (.getfield 10, 3) := by decide +kernel
theorem dX8_setPenalties_48 : decode cX8_setPenalties 48 = .ok (.iload_n 2, 1) := by decide +kernel
theorem dX8_setPenalties_49 : decode cX8_setPenalties 49 = .ok (.putfield 112, 3) := by decide +kernel
theorem dX8_setPenalties_52 : decode cX8_setPenalties 52 = .ok (.aload_n 0, 1) := by decide +kernel
theorem dX8_setPenalties_53 : decode cX8_setPenalties 53 = .ok (.getfield 10, 3) := by decide +kernel
theorem dX8_setPenalties_56 : decode cX8_setPenalties 56 = .ok (.iload_n 3, 1) := by decide +kernel
theorem dX8_setPenalties_57 : decode cX8_setPenalties 57 = .ok (.putfield 115, 3) := by decide +kernel
theorem dX8_setPenalties_60 : decode cX8_setPenalties 60 = .ok (.iload 4, 2) := by decide +kernel
theorem dX8_setPenalties_62 : decode cX8_setPenalties 62 = .ok (.ireturn, 1) := by decide +kernel
theorem dX8_setPage_0 : decode cX8_setPage 0 = .ok (.iload_n 1, 1) := by decide +kernel
theorem dX8_setPage_1 : decode cX8_setPage 1 = .ok (.iconst 2, 1) := by decide +kernel
theorem dX8_setPage_2 : decode cX8_setPage 2 = .ok (.bipush 20, 2) := by decide +kernel
theorem dX8_setPage_4 : decode cX8_setPage 4 = .ok (.invokestatic 66, 3) := by decide +kernel
theorem dX8_setPage_7 : decode cX8_setPage 7 = .ok (.aload_n 0, 1) := by decide +kernel
theorem dX8_setPage_8 : decode cX8_setPage 8 = .ok (.invokevirtual 77, 3) := by decide +kernel
theorem dX8_setPage_11 : decode cX8_setPage 11 = .ok (.aload_n 0, 1) := by decide +kernel
theorem dX8_setPage_12 : decode cX8_setPage 12 = .ok (.getfield 10, 3) := by decide +kernel
theorem dX8_setPage_15 : decode cX8_setPage 15 = .ok (.getfield 118, 3) := by decide +kernel
theorem dX8_setPage_18 : decode cX8_setPage 18 = .ok (.istore_n 2, 1) := by decide +kernel
theorem dX8_setPage_19 : decode cX8_setPage 19 = .ok (.aload_n 0, 1) := by decide +kernel
theorem dX8_setPage_20 : decode cX8_setPage 20 = .ok (.getfield 10, 3) := by decide +kernel
theorem dX8_setPage_23 : decode cX8_setPage 23 = .ok (.iload_n 1, 1) := by decide +kernel
theorem dX8_setPage_24 : decode cX8_setPage 24 = .ok (.putfield 118, 3) := by decide +kernel
theorem dX8_setPage_27 : decode cX8_setPage 27 = .ok (.iload_n 2, 1) := by decide +kernel
theorem dX8_setPage_28 : decode cX8_setPage 28 = .ok (.ireturn, 1) := by decide +kernel
theorem dX8_setOptimal_0 : decode cX8_setOptimal 0 = .ok (.aload_n 0, 1) := by decide +kernel
theorem dX8_setOptimal_1 : decode cX8_setOptimal 1 = .ok (.invokevirtual 77, 3) := by decide +kernel
theorem dX8_setOptimal_4 : decode cX8_setOptimal 4 = .ok (.aload_n 0, 1) := by decide +kernel
theorem dX8_setOptimal_5 : decode cX8_setOptimal 5 = .ok (.getfield 10, 3) := by decide +kernel
theorem dX8_setOptimal_8 : decode cX8_setOptimal 8 = .ok (.getfield 121, 3) := by decide +kernel
theorem dX8_setOptimal_11 : decode cX8_setOptimal 11 = .ok (.istore_n 2, 1) := by decide +kernel
theorem dX8_setOptimal_12 : decode cX8_setOptimal 12 = .ok (.aload_n 0, 1) := by decide +kernel
theorem dX8_setOptimal_13 : decode cX8_setOptimal 13 = .ok (.getfield 10, 3) := by decide +kernel
theorem dX8_setOptimal_16 : decode cX8_setOptimal 16 = .ok (.iload_n 1, 1) := by decide +kernel
theorem dX8_setOptimal_17 : decode cX8_setOptimal 17 = .ok (.putfield 121, 3) := by decide +kernel
theorem dX8_setOptimal_20 : decode cX8_setOptimal 20 = .ok (.iload_n 2, 1) := by decide +kernel
theorem dX8_setOptimal_21 : decode cX8_setOptimal 21 = .ok (.ireturn, 1) := by decide +kernel
theorem dX8_lines_0 : decode cX8_lines 0 = .ok (.aload_n 0, 1) := by decide +kernel
theorem dX8_lines_1 : decode cX8_lines 1 = .ok (.invokevirtual 124, 3) := by decide +kernel
theorem dX8_lines_4 : decode cX8_lines 4 = .ok (.aload_n 0, 1) := by decide +kernel
theorem dX8_lines_5 : decode cX8_lines 5 = .ok (.getfield 21, 3) := by decide +kernel
theorem dX8_lines_8 : decode cX8_lines 8 = .ok (.getfield 127, 3) := by decide +kernel
theorem dX8_lines_11 : decode cX8_lines 11 = .ok (.ireturn, 1) := by decide +kernel
theorem dX8_lineOf_0 : decode cX8_lineOf 0 = .ok (.iload_n 1, 1) := by decide +kernel
theorem dX8_lineOf_1 : decode cX8_lineOf 1 = .ok (.aload_n 0, 1) := by decide +kernel
theorem dX8_lineOf_2 : decode cX8_lineOf 2 = .ok (.getfield 10, 3) := by decide +kernel
theorem dX8_lineOf_5 : decode cX8_lineOf 5 = .ok (.getfield 58, 3) := by decide +kernel
theorem dX8_lineOf_8 : decode cX8_lineOf 8 = .ok (.invokestatic 62, 3) := by decide +kernel
theorem dX8_lineOf_11 : decode cX8_lineOf 11 = .ok (.aload_n 0, 1) := by decide +kernel
theorem dX8_lineOf_12 : decode cX8_lineOf 12 = .ok (.invokevirtual 124, 3) := by decide +kernel
theorem dX8_lineOf_15 : decode cX8_lineOf 15 = .ok (.aload_n 0, 1) := by decide +kernel
theorem dX8_lineOf_16 : decode cX8_lineOf 16 = .ok (.getfield 21, 3) := by decide +kernel
theorem dX8_lineOf_19 : decode cX8_lineOf 19 = .ok (.getfield 128, 3) := by decide +kernel
theorem dX8_lineOf_22 : decode cX8_lineOf 22 = .ok (.iload_n 1, 1) := by decide +kernel
theorem dX8_lineOf_23 : decode cX8_lineOf 23 = .ok (.invokevirtual 87, 3) := by decide +kernel
theorem dX8_lineOf_26 : decode cX8_lineOf 26 = .ok (.ireturn, 1) := by decide +kernel
theorem dX8_firstWord_0 : decode cX8_firstWord 0 = .ok (.aload_n 0, 1) := by decide +kernel
theorem dX8_firstWord_1 : decode cX8_firstWord 1 = .ok (.invokevirtual 124, 3) := by decide +kernel
theorem dX8_firstWord_4 : decode cX8_firstWord 4 = .ok (.iload_n 1, 1) := by decide +kernel
theorem dX8_firstWord_5 : decode cX8_firstWord 5 = .ok (.aload_n 0, 1) := by decide +kernel
theorem dX8_firstWord_6 : decode cX8_firstWord 6 = .ok (.getfield 21, 3) := by decide +kernel
theorem dX8_firstWord_9 : decode cX8_firstWord 9 = .ok (.getfield 127, 3) := by decide +kernel
theorem dX8_firstWord_12 : decode cX8_firstWord 12 = .ok (.invokestatic 62, 3) := by decide +kernel
theorem dX8_firstWord_15 : decode cX8_firstWord 15 = .ok (.aload_n 0, 1) := by decide +kernel
theorem dX8_firstWord_16 : decode cX8_firstWord 16 = .ok (.getfield 21, 3) := by decide +kernel
theorem dX8_firstWord_19 : decode cX8_firstWord 19 = .ok (.getfield 131, 3) := by decide +kernel
theorem dX8_firstWord_22 : decode cX8_firstWord 22 = .ok (.iload_n 1, 1) := by decide +kernel
theorem dX8_firstWord_23 : decode cX8_firstWord 23 = .ok (.invokevirtual 87, 3) := by decide +kernel
theorem dX8_firstWord_26 : decode cX8_firstWord 26 = .ok (.ireturn, 1) := by decide +kernel
theorem dX8_lineWidth_0 : decode cX8_lineWidth 0 = .ok (.aload_n 0, 1) := by decide +kernel
theorem dX8_lineWidth_1 : decode cX8_lineWidth 1 = .ok (.invokevirtual 124, 3) := by decide +kernel
theorem dX8_lineWidth_4 : decode cX8_lineWidth 4 = .ok (.iload_n 1, 1) := by decide +kernel
theorem dX8_lineWidth_5 : decode cX8_lineWidth 5 = .ok (.aload_n 0, 1) := by decide +kernel
theorem dX8_lineWidth_6 : decode cX8_lineWidth 6 = .ok (.getfield 21, 3) := by decide +kernel
theorem dX8_lineWidth_9 : decode cX8_lineWidth 9 = .ok (.getfield 127, 3) := by decide +kernel
theorem dX8_lineWidth_12 : decode cX8_lineWidth 12 = .ok (.invokestatic 62, 3) := by decide +kernel
theorem dX8_lineWidth_15 : decode cX8_lineWidth 15 = .ok (.aload_n 0, 1) := by decide +kernel
theorem dX8_lineWidth_16 : decode cX8_lineWidth 16 = .ok (.getfield 21, 3) := by decide +kernel
theorem dX8_lineWidth_19 : decode cX8_lineWidth 19 = .ok (.iload_n 1, 1) := by decide +kernel
theorem dX8_lineWidth_20 : decode cX8_lineWidth 20 = .ok (.invokevirtual 134, 3) := by decide +kernel
theorem dX8_lineWidth_23 : decode cX8_lineWidth 23 = .ok (.ireturn, 1) := by decide +kernel
theorem dX8_stairAt_0 : decode cX8_stairAt 0 = .ok (.aload_n 0, 1) := by decide +kernel
theorem dX8_stairAt_1 : decode cX8_stairAt 1 = .ok (.invokevirtual 124, 3) := by decide +kernel
theorem dX8_stairAt_4 : decode cX8_stairAt 4 = .ok (.iload_n 1, 1) := by decide +kernel
theorem dX8_stairAt_5 : decode cX8_stairAt 5 = .ok (.aload_n 0, 1) := by decide +kernel
theorem dX8_stairAt_6 : decode cX8_stairAt 6 = .ok (.getfield 21, 3) := by decide +kernel
theorem dX8_stairAt_9 : decode cX8_stairAt 9 = .ok (.getfield 127, 3) := by decide +kernel
theorem dX8_stairAt_12 : decode cX8_stairAt 12 = .ok (.invokestatic 62, 3) := by decide +kernel
theorem dX8_stairAt_15 : decode cX8_stairAt 15 = .ok (.aload_n 0, 1) := by decide +kernel
theorem dX8_stairAt_16 : decode cX8_stairAt 16 = .ok (.getfield 21, 3) := by decide +kernel
theorem dX8_stairAt_19 : decode cX8_stairAt 19 = .ok (.iload_n 1, 1) := by decide +kernel
theorem dX8_stairAt_20 : decode cX8_stairAt 20 = .ok (.invokevirtual 137, 3) := by decide +kernel
theorem dX8_stairAt_23 : decode cX8_stairAt 23 = .ok (.ireturn, 1) := by decide +kernel
theorem dX8_reason_0 : decode cX8_reason 0 = .ok (.iload_n 1, 1) := by decide +kernel
theorem dX8_reason_1 : decode cX8_reason 1 = .ok (.aload_n 0, 1) := by decide +kernel
theorem dX8_reason_2 : decode cX8_reason 2 = .ok (.getfield 10, 3) := by decide +kernel
theorem dX8_reason_5 : decode cX8_reason 5 = .ok (.getfield 58, 3) := by decide +kernel
theorem dX8_reason_8 : decode cX8_reason 8 = .ok (.invokestatic 62, 3) := by decide +kernel
theorem dX8_reason_11 : decode cX8_reason 11 = .ok (.aload_n 0, 1) := by decide +kernel
theorem dX8_reason_12 : decode cX8_reason 12 = .ok (.invokevirtual 124, 3) := by decide +kernel
theorem dX8_reason_15 : decode cX8_reason 15 = .ok (.aload_n 0, 1) := by decide +kernel
theorem dX8_reason_16 : decode cX8_reason 16 = .ok (.getfield 21, 3) := by decide +kernel
theorem dX8_reason_19 : decode cX8_reason 19 = .ok (.iload_n 1, 1) := by decide +kernel
theorem dX8_reason_20 : decode cX8_reason 20 = .ok (.invokevirtual 140, 3) := by decide +kernel
theorem dX8_reason_23 : decode cX8_reason 23 = .ok (.ireturn, 1) := by decide +kernel
theorem dX8_paragraphs_0 : decode cX8_paragraphs 0 = .ok (.aload_n 0, 1) := by decide +kernel
theorem dX8_paragraphs_1 : decode cX8_paragraphs 1 = .ok (.getfield 10, 3) := by decide +kernel
theorem dX8_paragraphs_4 : decode cX8_paragraphs 4 = .ok (.invokevirtual 143, 3) := by decide +kernel
theorem dX8_paragraphs_7 : decode cX8_paragraphs 7 = .ok (.ireturn, 1) := by decide +kernel
theorem dX8_stairs_0 : decode cX8_stairs 0 = .ok (.aload_n 0, 1) := by decide +kernel
theorem dX8_stairs_1 : decode cX8_stairs 1 = .ok (.invokevirtual 124, 3) := by decide +kernel
theorem dX8_stairs_4 : decode cX8_stairs 4 = .ok (.aload_n 0, 1) := by decide +kernel
theorem dX8_stairs_5 : decode cX8_stairs 5 = .ok (.getfield 21, 3) := by decide +kernel
theorem dX8_stairs_8 : decode cX8_stairs 8 = .ok (.invokevirtual 147, 3) := by decide +kernel
theorem dX8_stairs_11 : decode cX8_stairs 11 = .ok (.ireturn, 1) := by decide +kernel
theorem dX8_cost_0 : decode cX8_cost 0 = .ok (.aload_n 0, 1) := by decide +kernel
theorem dX8_cost_1 : decode cX8_cost 1 = .ok (.invokevirtual 124, 3) := by decide +kernel
theorem dX8_cost_4 : decode cX8_cost 4 = .ok (.aload_n 0, 1) := by decide +kernel
theorem dX8_cost_5 : decode cX8_cost 5 = .ok (.getfield 21, 3) := by decide +kernel
theorem dX8_cost_8 : decode cX8_cost 8 = .ok (.invokevirtual 150, 3) := by decide +kernel
theorem dX8_cost_11 : decode cX8_cost 11 = .ok (.ireturn, 1) := by decide +kernel
theorem dX8_pages_0 : decode cX8_pages 0 = .ok (.aload_n 0, 1) := by decide +kernel
theorem dX8_pages_1 : decode cX8_pages 1 = .ok (.invokevirtual 124, 3) := by decide +kernel
theorem dX8_pages_4 : decode cX8_pages 4 = .ok (.aload_n 0, 1) := by decide +kernel
theorem dX8_pages_5 : decode cX8_pages 5 = .ok (.getfield 30, 3) := by decide +kernel
theorem dX8_pages_8 : decode cX8_pages 8 = .ok (.getfield 153, 3) := by decide +kernel
theorem dX8_pages_11 : decode cX8_pages 11 = .ok (.ireturn, 1) := by decide +kernel
theorem dX8_pageOf_0 : decode cX8_pageOf 0 = .ok (.aload_n 0, 1) := by decide +kernel
theorem dX8_pageOf_1 : decode cX8_pageOf 1 = .ok (.invokevirtual 124, 3) := by decide +kernel
theorem dX8_pageOf_4 : decode cX8_pageOf 4 = .ok (.iload_n 1, 1) := by decide +kernel
theorem dX8_pageOf_5 : decode cX8_pageOf 5 = .ok (.aload_n 0, 1) := by decide +kernel
theorem dX8_pageOf_6 : decode cX8_pageOf 6 = .ok (.getfield 21, 3) := by decide +kernel
theorem dX8_pageOf_9 : decode cX8_pageOf 9 = .ok (.getfield 127, 3) := by decide +kernel
theorem dX8_pageOf_12 : decode cX8_pageOf 12 = .ok (.invokestatic 62, 3) := by decide +kernel
theorem dX8_pageOf_15 : decode cX8_pageOf 15 = .ok (.aload_n 0, 1) := by decide +kernel
theorem dX8_pageOf_16 : decode cX8_pageOf 16 = .ok (.getfield 30, 3) := by decide +kernel
theorem dX8_pageOf_19 : decode cX8_pageOf 19 = .ok (.getfield 154, 3) := by decide +kernel
theorem dX8_pageOf_22 : decode cX8_pageOf 22 = .ok (.iload_n 1, 1) := by decide +kernel
theorem dX8_pageOf_23 : decode cX8_pageOf 23 = .ok (.invokevirtual 87, 3) := by decide +kernel
theorem dX8_pageOf_26 : decode cX8_pageOf 26 = .ok (.ireturn, 1) := by decide +kernel
theorem dX8_linesOn_0 : decode cX8_linesOn 0 = .ok (.aload_n 0, 1) := by decide +kernel
theorem dX8_linesOn_1 : decode cX8_linesOn 1 = .ok (.invokevirtual 124, 3) := by decide +kernel
theorem dX8_linesOn_4 : decode cX8_linesOn 4 = .ok (.iload_n 1, 1) := by decide +kernel
theorem dX8_linesOn_5 : decode cX8_linesOn 5 = .ok (.aload_n 0, 1) := by decide +kernel
theorem dX8_linesOn_6 : decode cX8_linesOn 6 = .ok (.getfield 30, 3) := by decide +kernel
theorem dX8_linesOn_9 : decode cX8_linesOn 9 = .ok (.getfield 153, 3) := by decide +kernel
theorem dX8_linesOn_12 : decode cX8_linesOn 12 = .ok (.invokestatic 62, 3) := by decide +kernel
theorem dX8_linesOn_15 : decode cX8_linesOn 15 = .ok (.aload_n 0, 1) := by decide +kernel
theorem dX8_linesOn_16 : decode cX8_linesOn 16 = .ok (.getfield 30, 3) := by decide +kernel
theorem dX8_linesOn_19 : decode cX8_linesOn 19 = .ok (.getfield 157, 3) := by decide +kernel
theorem dX8_linesOn_22 : decode cX8_linesOn 22 = .ok (.iload_n 1, 1) := by decide +kernel
theorem dX8_linesOn_23 : decode cX8_linesOn 23 = .ok (.iconst 1, 1) := by decide +kernel
theorem dX8_linesOn_24 : decode cX8_linesOn 24 = .ok (.iadd, 1) := by decide +kernel
theorem dX8_linesOn_25 : decode cX8_linesOn 25 = .ok (.invokevirtual 87, 3) := by decide +kernel
theorem dX8_linesOn_28 : decode cX8_linesOn 28 = .ok (.aload_n 0, 1) := by decide +kernel
theorem dX8_linesOn_29 : decode cX8_linesOn 29 = .ok (.getfield 30, 3) := by decide +kernel
theorem dX8_linesOn_32 : decode cX8_linesOn 32 = .ok (.getfield 157, 3) := by decide +kernel
theorem dX8_linesOn_35 : decode cX8_linesOn 35 = .ok (.iload_n 1, 1) := by decide +kernel
theorem dX8_linesOn_36 : decode cX8_linesOn 36 = .ok (.invokevirtual 87, 3) := by decide +kernel
theorem dX8_linesOn_39 : decode cX8_linesOn 39 = .ok (.isub, 1) := by decide +kernel
theorem dX8_linesOn_40 : decode cX8_linesOn 40 = .ok (.ireturn, 1) := by decide +kernel
theorem dX8_widows_0 : decode cX8_widows 0 = .ok (.aload_n 0, 1) := by decide +kernel
theorem dX8_widows_1 : decode cX8_widows 1 = .ok (.invokevirtual 124, 3) := by decide +kernel
theorem dX8_widows_4 : decode cX8_widows 4 = .ok (.aload_n 0, 1) := by decide +kernel
theorem dX8_widows_5 : decode cX8_widows 5 = .ok (.getfield 30, 3) := by decide +kernel
theorem dX8_widows_8 : decode cX8_widows 8 = .ok (.invokevirtual 158, 3) := by decide +kernel
theorem dX8_widows_11 : decode cX8_widows 11 = .ok (.ireturn, 1) := by decide +kernel
theorem dX8_orphans_0 : decode cX8_orphans 0 = .ok (.aload_n 0, 1) := by decide +kernel
theorem dX8_orphans_1 : decode cX8_orphans 1 = .ok (.invokevirtual 124, 3) := by decide +kernel
theorem dX8_orphans_4 : decode cX8_orphans 4 = .ok (.aload_n 0, 1) := by decide +kernel
theorem dX8_orphans_5 : decode cX8_orphans 5 = .ok (.getfield 30, 3) := by decide +kernel
theorem dX8_orphans_8 : decode cX8_orphans 8 = .ok (.invokevirtual 161, 3) := by decide +kernel
theorem dX8_orphans_11 : decode cX8_orphans 11 = .ok (.ireturn, 1) := by decide +kernel
theorem dX8_costFor_0 : decode cX8_costFor 0 = .ok (.iload_n 1, 1) := by decide +kernel
theorem dX8_costFor_1 : decode cX8_costFor 1 = .ok (.bipush 30, 2) := by decide +kernel
theorem dX8_costFor_3 : decode cX8_costFor 3 = .ok (.bipush 100, 2) := by decide +kernel
theorem dX8_costFor_5 : decode cX8_costFor 5 = .ok (.invokestatic 66, 3) := by decide +kernel
theorem dX8_costFor_8 : decode cX8_costFor 8 = .ok (.aload_n 0, 1) := by decide +kernel
theorem dX8_costFor_9 : decode cX8_costFor 9 = .ok (.getfield 34, 3) := by decide +kernel
theorem dX8_costFor_12 : decode cX8_costFor 12 = .ok (.aload_n 0, 1) := by decide +kernel
theorem dX8_costFor_13 : decode cX8_costFor 13 = .ok (.getfield 10, 3) := by decide +kernel
theorem dX8_costFor_16 : decode cX8_costFor 16 = .ok (.invokevirtual 164, 3) := by decide +kernel
theorem dX8_costFor_19 : decode cX8_costFor 19 = .ok (.aload_n 0, 1) := by decide +kernel
theorem dX8_costFor_20 : decode cX8_costFor 20 = .ok (.getfield 34, 3) := by decide +kernel
theorem dX8_costFor_23 : decode cX8_costFor 23 = .ok (.iload_n 1, 1) := by decide +kernel
theorem dX8_costFor_24 : decode cX8_costFor 24 = .ok (.putfield 103, 3) := by decide +kernel
theorem dX8_costFor_27 : decode cX8_costFor 27 = .ok (.aload_n 0, 1) := by decide +kernel
theorem dX8_costFor_28 : decode cX8_costFor 28 = .ok (.getfield 37, 3) := by decide +kernel
theorem dX8_costFor_31 : decode cX8_costFor 31 = .ok (.iload_n 2, 1) := by decide +kernel
theorem dX8_costFor_32 : decode cX8_costFor 32 = .ok (.invokevirtual 167, 3) := by decide +kernel
theorem dX8_costFor_35 : decode cX8_costFor 35 = .ok (.aload_n 0, 1) := by decide +kernel
theorem dX8_costFor_36 : decode cX8_costFor 36 = .ok (.getfield 37, 3) := by decide +kernel
theorem dX8_costFor_39 : decode cX8_costFor 39 = .ok (.invokevirtual 150, 3) := by decide +kernel
theorem dX8_costFor_42 : decode cX8_costFor 42 = .ok (.ireturn, 1) := by decide +kernel
theorem dX8_bestColumn_0 : decode cX8_bestColumn 0 = .ok (.iload_n 1, 1) := by decide +kernel
theorem dX8_bestColumn_1 : decode cX8_bestColumn 1 = .ok (.bipush 30, 2) := by decide +kernel
theorem dX8_bestColumn_3 : decode cX8_bestColumn 3 = .ok (.bipush 100, 2) := by decide +kernel
theorem dX8_bestColumn_5 : decode cX8_bestColumn 5 = .ok (.invokestatic 66, 3) := by decide +kernel
theorem dX8_bestColumn_8 : decode cX8_bestColumn 8 = .ok (.iload_n 2, 1) := by decide +kernel
theorem dX8_bestColumn_9 : decode cX8_bestColumn 9 = .ok (.iload_n 1, 1) := by decide +kernel
theorem dX8_bestColumn_10 : decode cX8_bestColumn 10 = .ok (.bipush 100, 2) := by decide +kernel
theorem dX8_bestColumn_12 : decode cX8_bestColumn 12 = .ok (.invokestatic 66, 3) := by decide +kernel
theorem dX8_bestColumn_15 : decode cX8_bestColumn 15 = .ok (.aload_n 0, 1) := by decide +kernel
theorem dX8_bestColumn_16 : decode cX8_bestColumn 16 = .ok (.getfield 34, 3) := by decide +kernel
theorem dX8_bestColumn_19 : decode cX8_bestColumn 19 = .ok (.aload_n 0, 1) := by decide +kernel
theorem dX8_bestColumn_20 : decode cX8_bestColumn 20 = .ok (.getfield 10, 3) := by decide +kernel
theorem dX8_bestColumn_23 : decode cX8_bestColumn 23 = .ok (.invokevirtual 164, 3) := by decide +kernel
theorem dX8_bestColumn_26 : decode cX8_bestColumn 26 = .ok (.iload_n 1, 1) := by decide +kernel
theorem dX8_bestColumn_27 : decode cX8_bestColumn 27 = .ok (.istore_n 3, 1) := by decide +kernel
theorem dX8_bestColumn_28 : decode cX8_bestColumn 28 = .ok (.ldc 173, 2) := by decide +kernel
theorem dX8_bestColumn_30 : decode cX8_bestColumn 30 = .ok (.istore 4, 2) := by decide +kernel
theorem dX8_bestColumn_32 : decode cX8_bestColumn 32 = .ok (.iload_n 1, 1) := by decide +kernel
theorem dX8_bestColumn_33 : decode cX8_bestColumn 33 = .ok (.istore 5, 2) := by decide +kernel
theorem dX8_bestColumn_35 : decode cX8_bestColumn 35 = .ok (.iload 5, 2) := by decide +kernel
theorem dX8_bestColumn_37 : decode cX8_bestColumn 37 = .ok (.iload_n 2, 1) := by decide +kernel
theorem dX8_bestColumn_38 : decode cX8_bestColumn 38 = .ok (.if_icmp .gt 54, 3) := by decide +kernel
theorem dX8_bestColumn_41 : decode cX8_bestColumn 41 = .ok (.iload 4, 2) := by decide +kernel
theorem dX8_bestColumn_43 : decode cX8_bestColumn 43 = .ok (.ifCond .le 49, 3) := by decide +kernel
theorem dX8_bestColumn_46 : decode cX8_bestColumn 46 = .ok (.aload_n 0, 1) := by decide +kernel
theorem dX8_bestColumn_47 : decode cX8_bestColumn 47 = .ok (.getfield 34, 3) := by decide +kernel
theorem dX8_bestColumn_50 : decode cX8_bestColumn 50 = .ok (.iload 5, 2) := by decide +kernel
theorem dX8_bestColumn_52 : decode cX8_bestColumn 52 = .ok (.putfield 103, 3) := by decide +kernel
theorem dX8_bestColumn_55 : decode cX8_bestColumn 55 = .ok (.aload_n 0, 1) := by decide +kernel
theorem dX8_bestColumn_56 : decode cX8_bestColumn 56 = .ok (.getfield 37, 3) := by decide +kernel
theorem dX8_bestColumn_59 : decode cX8_bestColumn 59 = .ok (.iconst 1, 1) := by decide +kernel
theorem dX8_bestColumn_60 : decode cX8_bestColumn 60 = .ok (.invokevirtual 167, 3) := by decide +kernel
theorem dX8_bestColumn_63 : decode cX8_bestColumn 63 = .ok (.aload_n 0, 1) := by decide +kernel
theorem dX8_bestColumn_64 : decode cX8_bestColumn 64 = .ok (.getfield 37, 3) := by decide +kernel
theorem dX8_bestColumn_67 : decode cX8_bestColumn 67 = .ok (.invokevirtual 150, 3) := by decide +kernel
theorem dX8_bestColumn_70 : decode cX8_bestColumn 70 = .ok (.istore 6, 2) := by decide +kernel
theorem dX8_bestColumn_72 : decode cX8_bestColumn 72 = .ok (.iload 6, 2) := by decide +kernel
theorem dX8_bestColumn_74 : decode cX8_bestColumn 74 = .ok (.iload 4, 2) := by decide +kernel
theorem dX8_bestColumn_76 : decode cX8_bestColumn 76 = .ok (.if_icmp .ge 10, 3) := by decide +kernel
theorem dX8_bestColumn_79 : decode cX8_bestColumn 79 = .ok (.iload 6, 2) := by decide +kernel
theorem dX8_bestColumn_81 : decode cX8_bestColumn 81 = .ok (.istore 4, 2) := by decide +kernel
theorem dX8_bestColumn_83 : decode cX8_bestColumn 83 = .ok (.iload 5, 2) := by decide +kernel
theorem dX8_bestColumn_85 : decode cX8_bestColumn 85 = .ok (.istore_n 3, 1) := by decide +kernel
theorem dX8_bestColumn_86 : decode cX8_bestColumn 86 = .ok (.iinc 5 1, 3) := by decide +kernel
theorem dX8_bestColumn_89 : decode cX8_bestColumn 89 = .ok (.goto (-54), 3) := by decide +kernel
theorem dX8_bestColumn_92 : decode cX8_bestColumn 92 = .ok (.iload_n 3, 1) := by decide +kernel
theorem dX8_bestColumn_93 : decode cX8_bestColumn 93 = .ok (.ireturn, 1) := by decide +kernel
theorem dX8_saving_0 : decode cX8_saving 0 = .ok (.aload_n 0, 1) := by decide +kernel
theorem dX8_saving_1 : decode cX8_saving 1 = .ok (.getfield 34, 3) := by decide +kernel
theorem dX8_saving_4 : decode cX8_saving 4 = .ok (.aload_n 0, 1) := by decide +kernel
theorem dX8_saving_5 : decode cX8_saving 5 = .ok (.getfield 10, 3) := by decide +kernel
theorem dX8_saving_8 : decode cX8_saving 8 = .ok (.invokevirtual 164, 3) := by decide +kernel
theorem dX8_saving_11 : decode cX8_saving 11 = .ok (.aload_n 0, 1) := by decide +kernel
theorem dX8_saving_12 : decode cX8_saving 12 = .ok (.getfield 37, 3) := by decide +kernel
theorem dX8_saving_15 : decode cX8_saving 15 = .ok (.iconst 0, 1) := by decide +kernel
theorem dX8_saving_16 : decode cX8_saving 16 = .ok (.invokevirtual 167, 3) := by decide +kernel
theorem dX8_saving_19 : decode cX8_saving 19 = .ok (.aload_n 0, 1) := by decide +kernel
theorem dX8_saving_20 : decode cX8_saving 20 = .ok (.getfield 37, 3) := by decide +kernel
theorem dX8_saving_23 : decode cX8_saving 23 = .ok (.invokevirtual 150, 3) := by decide +kernel
theorem dX8_saving_26 : decode cX8_saving 26 = .ok (.istore_n 1, 1) := by decide +kernel
theorem dX8_saving_27 : decode cX8_saving 27 = .ok (.aload_n 0, 1) := by decide +kernel
theorem dX8_saving_28 : decode cX8_saving 28 = .ok (.getfield 37, 3) := by decide +kernel
theorem dX8_saving_31 : decode cX8_saving 31 = .ok (.iconst 1, 1) := by decide +kernel
theorem dX8_saving_32 : decode cX8_saving 32 = .ok (.invokevirtual 167, 3) := by decide +kernel
theorem dX8_saving_35 : decode cX8_saving 35 = .ok (.iload_n 1, 1) := by decide +kernel
theorem dX8_saving_36 : decode cX8_saving 36 = .ok (.aload_n 0, 1) := by decide +kernel
theorem dX8_saving_37 : decode cX8_saving 37 = .ok (.getfield 37, 3) := by decide +kernel
theorem dX8_saving_40 : decode cX8_saving 40 = .ok (.invokevirtual 150, 3) := by decide +kernel
theorem dX8_saving_43 : decode cX8_saving 43 = .ok (.isub, 1) := by decide +kernel
theorem dX8_saving_44 : decode cX8_saving 44 = .ok (.ireturn, 1) := by decide +kernel
theorem dX8_costIfMarked_0 : decode cX8_costIfMarked 0 = .ok (.iload_n 1, 1) := by decide +kernel
theorem dX8_costIfMarked_1 : decode cX8_costIfMarked 1 = .ok (.aload_n 0, 1) := by decide +kernel
theorem dX8_costIfMarked_2 : decode cX8_costIfMarked 2 = .ok (.getfield 10, 3) := by decide +kernel
theorem dX8_costIfMarked_5 : decode cX8_costIfMarked 5 = .ok (.getfield 58, 3) := by decide +kernel
theorem dX8_costIfMarked_8 : decode cX8_costIfMarked 8 = .ok (.invokestatic 62, 3) := by decide +kernel
theorem dX8_costIfMarked_11 : decode cX8_costIfMarked 11 = .ok (.iload_n 2, 1) := by decide +kernel
theorem dX8_costIfMarked_12 : decode cX8_costIfMarked 12 = .ok (.iconst 0, 1) := by decide +kernel
theorem dX8_costIfMarked_13 : decode cX8_costIfMarked 13 = .ok (.iconst 2, 1) := by decide +kernel
theorem dX8_costIfMarked_14 : decode cX8_costIfMarked 14 = .ok (.invokestatic 66, 3) := by decide +kernel
theorem dX8_costIfMarked_17 : decode cX8_costIfMarked 17 = .ok (.aload_n 0, 1) := by decide +kernel
theorem dX8_costIfMarked_18 : decode cX8_costIfMarked 18 = .ok (.getfield 34, 3) := by decide +kernel
theorem dX8_costIfMarked_21 : decode cX8_costIfMarked 21 = .ok (.aload_n 0, 1) := by decide +kernel
theorem dX8_costIfMarked_22 : decode cX8_costIfMarked 22 = .ok (.getfield 10, 3) := by decide +kernel
theorem dX8_costIfMarked_25 : decode cX8_costIfMarked 25 = .ok (.invokevirtual 164, 3) := by decide +kernel
theorem dX8_costIfMarked_28 : decode cX8_costIfMarked 28 = .ok (.aload_n 0, 1) := by decide +kernel
theorem dX8_costIfMarked_29 : decode cX8_costIfMarked 29 = .ok (.getfield 34, 3) := by decide +kernel
theorem dX8_costIfMarked_32 : decode cX8_costIfMarked 32 = .ok (.getfield 97, 3) := by decide +kernel
theorem dX8_costIfMarked_35 : decode cX8_costIfMarked 35 = .ok (.iload_n 1, 1) := by decide +kernel
theorem dX8_costIfMarked_36 : decode cX8_costIfMarked 36 = .ok (.iload_n 2, 1) := by decide +kernel
theorem dX8_costIfMarked_37 : decode cX8_costIfMarked 37 = .ok (.invokevirtual 100, 3) := by decide +kernel
theorem dX8_costIfMarked_40 : decode cX8_costIfMarked 40 = .ok (.aload_n 0, 1) := by decide +kernel
theorem dX8_costIfMarked_41 : decode cX8_costIfMarked 41 = .ok (.getfield 37, 3) := by decide +kernel
theorem dX8_costIfMarked_44 : decode cX8_costIfMarked 44 = .ok (.aload_n 0, 1) := by decide +kernel
theorem dX8_costIfMarked_45 : decode cX8_costIfMarked 45 = .ok (.getfield 34, 3) := by decide +kernel
theorem dX8_costIfMarked_48 : decode cX8_costIfMarked 48 = .ok (.getfield 121, 3) := by decide +kernel
theorem dX8_costIfMarked_51 : decode cX8_costIfMarked 51 = .ok (.invokevirtual 167, 3) := by decide +kernel
theorem dX8_costIfMarked_54 : decode cX8_costIfMarked 54 = .ok (.aload_n 0, 1) := by decide +kernel
theorem dX8_costIfMarked_55 : decode cX8_costIfMarked 55 = .ok (.getfield 37, 3) := by decide +kernel
theorem dX8_costIfMarked_58 : decode cX8_costIfMarked 58 = .ok (.invokevirtual 150, 3) := by decide +kernel
theorem dX8_costIfMarked_61 : decode cX8_costIfMarked 61 = .ok (.ireturn, 1) := by decide +kernel
theorem dX8_append_0 : decode cX8_append 0 = .ok (.iload_n 1, 1) := by decide +kernel
theorem dX8_append_1 : decode cX8_append 1 = .ok (.bipush 33, 2) := by decide +kernel
theorem dX8_append_3 : decode cX8_append 3 = .ok (.bipush 126, 2) := by decide +kernel
theorem dX8_append_5 : decode cX8_append 5 = .ok (.invokestatic 66, 3) := by decide +kernel
theorem dX8_append_8 : decode cX8_append 8 = .ok (.aload_n 0, 1) := by decide +kernel
theorem dX8_append_9 : decode cX8_append 9 = .ok (.getfield 43, 3) := by decide +kernel
theorem dX8_append_12 : decode cX8_append 12 = .ok (.getfield 174, 3) := by decide +kernel
theorem dX8_append_15 : decode cX8_append 15 = .ok (.bipush 60, 2) := by decide +kernel
theorem dX8_append_17 : decode cX8_append 17 = .ok (.if_icmp .lt 13, 3) := by decide +kernel
theorem dX8_append_20 : decode cX8_append 20 = .ok (.new 70, 3) := by decide +kernel
theorem dX8_append_23 : decode cX8_append 23 = .ok (.dup, 1) := by decide +kernel
theorem dX8_append_24 : decode cX8_append 24 = .ok (.ldc 177, 2) := by decide +kernel
theorem dX8_append_26 : decode cX8_append 26 = .ok (.invokespecial 74, 3) := by decide +kernel
theorem dX8_append_29 : decode cX8_append 29 = .ok (.athrow, 1) := by decide +kernel
theorem dX8_append_30 : decode cX8_append 30 = .ok (.aload_n 0, 1) := by decide +kernel
theorem dX8_append_31 : decode cX8_append 31 = .ok (.getfield 43, 3) := by decide +kernel
theorem dX8_append_34 : decode cX8_append 34 = .ok (.iload_n 1, 1) := by decide +kernel
theorem dX8_append_35 : decode cX8_append 35 = .ok (.invokevirtual 179, 3) := by decide +kernel
theorem dX8_append_38 : decode cX8_append 38 = .ok (.aload_n 0, 1) := by decide +kernel
theorem dX8_append_39 : decode cX8_append 39 = .ok (.getfield 43, 3) := by decide +kernel
theorem dX8_append_42 : decode cX8_append 42 = .ok (.getfield 174, 3) := by decide +kernel
theorem dX8_append_45 : decode cX8_append 45 = .ok (.ireturn, 1) := by decide +kernel
theorem dX8_clearText_0 : decode cX8_clearText 0 = .ok (.aload_n 0, 1) := by decide +kernel
theorem dX8_clearText_1 : decode cX8_clearText 1 = .ok (.getfield 43, 3) := by decide +kernel
theorem dX8_clearText_4 : decode cX8_clearText 4 = .ok (.getfield 174, 3) := by decide +kernel
theorem dX8_clearText_7 : decode cX8_clearText 7 = .ok (.istore_n 1, 1) := by decide +kernel
theorem dX8_clearText_8 : decode cX8_clearText 8 = .ok (.aload_n 0, 1) := by decide +kernel
theorem dX8_clearText_9 : decode cX8_clearText 9 = .ok (.getfield 43, 3) := by decide +kernel
theorem dX8_clearText_12 : decode cX8_clearText 12 = .ok (.iconst 0, 1) := by decide +kernel
theorem dX8_clearText_13 : decode cX8_clearText 13 = .ok (.putfield 174, 3) := by decide +kernel
theorem dX8_clearText_16 : decode cX8_clearText 16 = .ok (.iload_n 1, 1) := by decide +kernel
theorem dX8_clearText_17 : decode cX8_clearText 17 = .ok (.ireturn, 1) := by decide +kernel
theorem dX8_firstError_0 : decode cX8_firstError 0 = .ok (.aload_n 0, 1) := by decide +kernel
theorem dX8_firstError_1 : decode cX8_firstError 1 = .ok (.getfield 43, 3) := by decide +kernel
theorem dX8_firstError_4 : decode cX8_firstError 4 = .ok (.invokevirtual 182, 3) := by decide +kernel
theorem dX8_firstError_7 : decode cX8_firstError 7 = .ok (.ireturn, 1) := by decide +kernel
theorem dX8_load_0 : decode cX8_load 0 = .ok (.aload_n 0, 1) := by decide +kernel
theorem dX8_load_1 : decode cX8_load 1 = .ok (.getfield 43, 3) := by decide +kernel
theorem dX8_load_4 : decode cX8_load 4 = .ok (.invokevirtual 182, 3) := by decide +kernel
theorem dX8_load_7 : decode cX8_load 7 = .ok (.aload_n 0, 1) := by decide +kernel
theorem dX8_load_8 : decode cX8_load 8 = .ok (.getfield 43, 3) := by decide +kernel
theorem dX8_load_11 : decode cX8_load 11 = .ok (.getfield 174, 3) := by decide +kernel
theorem dX8_load_14 : decode cX8_load 14 = .ok (.if_icmp .lt 13, 3) := by decide +kernel
theorem dX8_load_17 : decode cX8_load 17 = .ok (.aload_n 0, 1) := by decide +kernel
theorem dX8_load_18 : decode cX8_load 18 = .ok (.getfield 43, 3) := by decide +kernel
theorem dX8_load_21 : decode cX8_load 21 = .ok (.invokevirtual 185, 3) := by decide +kernel
theorem dX8_load_24 : decode cX8_load 24 = .ok (.ifCond .ne 13, 3) := by decide +kernel
theorem dX8_load_27 : decode cX8_load 27 = .ok (.new 189, 3) := by decide +kernel
theorem dX8_load_30 : decode cX8_load 30 = .ok (.dup, 1) := by decide +kernel
theorem dX8_load_31 : decode cX8_load 31 = .ok (.ldc 191, 2) := by decide +kernel
theorem dX8_load_33 : decode cX8_load 33 = .ok (.invokespecial 193, 3) := by decide +kernel
theorem dX8_load_36 : decode cX8_load 36 = .ok (.athrow, 1) := by decide +kernel
theorem dX8_load_37 : decode cX8_load 37 = .ok (.aload_n 0, 1) := by decide +kernel
theorem dX8_load_38 : decode cX8_load 38 = .ok (.getfield 10, 3) := by decide +kernel
theorem dX8_load_41 : decode cX8_load 41 = .ok (.getfield 58, 3) := by decide +kernel
theorem dX8_load_44 : decode cX8_load 44 = .ok (.aload_n 0, 1) := by decide +kernel
theorem dX8_load_45 : decode cX8_load 45 = .ok (.getfield 43, 3) := by decide +kernel
theorem dX8_load_48 : decode cX8_load 48 = .ok (.invokevirtual 194, 3) := by decide +kernel
theorem dX8_load_51 : decode cX8_load 51 = .ok (.iadd, 1) := by decide +kernel
theorem dX8_load_52 : decode cX8_load 52 = .ok (.bipush 40, 2) := by decide +kernel
theorem dX8_load_54 : decode cX8_load 54 = .ok (.if_icmp .le 13, 3) := by decide +kernel
theorem dX8_load_57 : decode cX8_load 57 = .ok (.new 70, 3) := by decide +kernel
theorem dX8_load_60 : decode cX8_load 60 = .ok (.dup, 1) := by decide +kernel
theorem dX8_load_61 : decode cX8_load 61 = .ok (.ldc 197, 2) := by decide +kernel
theorem dX8_load_63 : decode cX8_load 63 = .ok (.invokespecial 74, 3) := by decide +kernel
theorem dX8_load_66 : decode cX8_load 66 = .ok (.athrow, 1) := by decide +kernel
theorem dX8_load_67 : decode cX8_load 67 = .ok (.aload_n 0, 1) := by decide +kernel
theorem dX8_load_68 : decode cX8_load 68 = .ok (.invokevirtual 77, 3) := by decide +kernel
theorem dX8_load_71 : decode cX8_load 71 = .ok (.iconst 0, 1) := by decide +kernel
theorem dX8_load_72 : decode cX8_load 72 = .ok (.istore_n 1, 1) := by decide +kernel
theorem dX8_load_73 : decode cX8_load 73 = .ok (.iload_n 1, 1) := by decide +kernel
theorem dX8_load_74 : decode cX8_load 74 = .ok (.aload_n 0, 1) := by decide +kernel
theorem dX8_load_75 : decode cX8_load 75 = .ok (.getfield 43, 3) := by decide +kernel
theorem dX8_load_78 : decode cX8_load 78 = .ok (.invokevirtual 194, 3) := by decide +kernel
theorem dX8_load_81 : decode cX8_load 81 = .ok (.if_icmp .ge 45, 3) := by decide +kernel
theorem dX8_load_84 : decode cX8_load 84 = .ok (.aload_n 0, 1) := by decide +kernel
theorem dX8_load_85 : decode cX8_load 85 = .ok (.getfield 10, 3) := by decide +kernel
theorem dX8_load_88 : decode cX8_load 88 = .ok (.aload_n 0, 1) := by decide +kernel
theorem dX8_load_89 : decode cX8_load 89 = .ok (.getfield 10, 3) := by decide +kernel
theorem dX8_load_92 : decode cX8_load 92 = .ok (.getfield 58, 3) := by decide +kernel
theorem dX8_load_95 : decode cX8_load 95 = .ok (.aload_n 0, 1) := by decide +kernel
theorem dX8_load_96 : decode cX8_load 96 = .ok (.getfield 43, 3) := by decide +kernel
theorem dX8_load_99 : decode cX8_load 99 = .ok (.getfield 199, 3) := by decide +kernel
theorem dX8_load_102 : decode cX8_load 102 = .ok (.iload_n 1, 1) := by decide +kernel
theorem dX8_load_103 : decode cX8_load 103 = .ok (.invokevirtual 87, 3) := by decide +kernel
theorem dX8_load_106 : decode cX8_load 106 = .ok (.aload_n 0, 1) := by decide +kernel
theorem dX8_load_107 : decode cX8_load 107 = .ok (.getfield 43, 3) := by decide +kernel
theorem dX8_load_110 : decode cX8_load 110 = .ok (.getfield 200, 3) := by decide +kernel
theorem dX8_load_113 : decode cX8_load 113 = .ok (.iload_n 1, 1) := by decide +kernel
theorem dX8_load_114 : decode cX8_load 114 = .ok (.invokevirtual 87, 3) := by decide +kernel
theorem dX8_load_117 : decode cX8_load 117 = .ok (.invokevirtual 80, 3) := by decide +kernel
theorem dX8_load_120 : decode cX8_load 120 = .ok (.iinc 1 1, 3) := by decide +kernel
theorem dX8_load_123 : decode cX8_load 123 = .ok (.goto (-50), 3) := by decide +kernel
theorem dX8_load_126 : decode cX8_load 126 = .ok (.aload_n 0, 1) := by decide +kernel
theorem dX8_load_127 : decode cX8_load 127 = .ok (.getfield 43, 3) := by decide +kernel
theorem dX8_load_130 : decode cX8_load 130 = .ok (.iconst 0, 1) := by decide +kernel
theorem dX8_load_131 : decode cX8_load 131 = .ok (.putfield 174, 3) := by decide +kernel
theorem dX8_load_134 : decode cX8_load 134 = .ok (.aload_n 0, 1) := by decide +kernel
theorem dX8_load_135 : decode cX8_load 135 = .ok (.getfield 10, 3) := by decide +kernel
theorem dX8_load_138 : decode cX8_load 138 = .ok (.getfield 58, 3) := by decide +kernel
theorem dX8_load_141 : decode cX8_load 141 = .ok (.ireturn, 1) := by decide +kernel
theorem dX8_undo_0 : decode cX8_undo 0 = .ok (.aload_n 0, 1) := by decide +kernel
theorem dX8_undo_1 : decode cX8_undo 1 = .ok (.getfield 50, 3) := by decide +kernel
theorem dX8_undo_4 : decode cX8_undo 4 = .ok (.getfield 201, 3) := by decide +kernel
theorem dX8_undo_7 : decode cX8_undo 7 = .ok (.ifCond .gt 13, 3) := by decide +kernel
theorem dX8_undo_10 : decode cX8_undo 10 = .ok (.new 70, 3) := by decide +kernel
theorem dX8_undo_13 : decode cX8_undo 13 = .ok (.dup, 1) := by decide +kernel
theorem dX8_undo_14 : decode cX8_undo 14 = .ok (.ldc 202, 2) := by decide +kernel
theorem dX8_undo_16 : decode cX8_undo 16 = .ok (.invokespecial 74, 3) := by decide +kernel
theorem dX8_undo_19 : decode cX8_undo 19 = .ok (.athrow, 1) := by decide +kernel
theorem dX8_undo_20 : decode cX8_undo 20 = .ok (.aload_n 0, 1) := by decide +kernel
theorem dX8_undo_21 : decode cX8_undo 21 = .ok (.getfield 50, 3) := by decide +kernel
theorem dX8_undo_24 : decode cX8_undo 24 = .ok (.aload_n 0, 1) := by decide +kernel
theorem dX8_undo_25 : decode cX8_undo 25 = .ok (.getfield 10, 3) := by decide +kernel
theorem dX8_undo_28 : decode cX8_undo 28 = .ok (.invokevirtual 204, 3) := by decide +kernel
theorem dX8_undo_31 : decode cX8_undo 31 = .ok (.aload_n 0, 1) := by decide +kernel
theorem dX8_undo_32 : decode cX8_undo 32 = .ok (.iconst 1, 1) := by decide +kernel
theorem dX8_undo_33 : decode cX8_undo 33 = .ok (.putfield 54, 3) := by decide +kernel
theorem dX8_undo_36 : decode cX8_undo 36 = .ok (.aload_n 0, 1) := by decide +kernel
theorem dX8_undo_37 : decode cX8_undo 37 = .ok (.getfield 50, 3) := by decide +kernel
theorem dX8_undo_40 : decode cX8_undo 40 = .ok (.getfield 201, 3) := by decide +kernel
theorem dX8_undo_43 : decode cX8_undo 43 = .ok (.ireturn, 1) := by decide +kernel
theorem dX8_savedStates_0 : decode cX8_savedStates 0 = .ok (.aload_n 0, 1) := by decide +kernel
theorem dX8_savedStates_1 : decode cX8_savedStates 1 = .ok (.getfield 50, 3) := by decide +kernel
theorem dX8_savedStates_4 : decode cX8_savedStates 4 = .ok (.getfield 201, 3) := by decide +kernel
theorem dX8_savedStates_7 : decode cX8_savedStates 7 = .ok (.ireturn, 1) := by decide +kernel
theorem dX8_digest_0 : decode cX8_digest 0 = .ok (.aload_n 0, 1) := by decide +kernel
theorem dX8_digest_1 : decode cX8_digest 1 = .ok (.invokevirtual 124, 3) := by decide +kernel
theorem dX8_digest_4 : decode cX8_digest 4 = .ok (.ldc2_w 207, 3) := by decide +kernel
theorem dX8_digest_7 : decode cX8_digest 7 = .ok (.lstore_n 1, 1) := by decide +kernel
theorem dX8_digest_8 : decode cX8_digest 8 = .ok (.lload_n 1, 1) := by decide +kernel
theorem dX8_digest_9 : decode cX8_digest 9 = .ok (.aload_n 0, 1) := by decide +kernel
theorem dX8_digest_10 : decode cX8_digest 10 = .ok (.getfield 10, 3) := by decide +kernel
theorem dX8_digest_13 : decode cX8_digest 13 = .ok (.getfield 58, 3) := by decide +kernel
theorem dX8_digest_16 : decode cX8_digest 16 = .ok (.invokestatic 209, 3) := by decide +kernel
theorem dX8_digest_19 : decode cX8_digest 19 = .ok (.lstore_n 1, 1) := by decide +kernel
theorem dX8_digest_20 : decode cX8_digest 20 = .ok (.lload_n 1, 1) := by decide +kernel
theorem dX8_digest_21 : decode cX8_digest 21 = .ok (.aload_n 0, 1) := by decide +kernel
theorem dX8_digest_22 : decode cX8_digest 22 = .ok (.getfield 21, 3) := by decide +kernel
theorem dX8_digest_25 : decode cX8_digest 25 = .ok (.getfield 127, 3) := by decide +kernel
theorem dX8_digest_28 : decode cX8_digest 28 = .ok (.invokestatic 209, 3) := by decide +kernel
theorem dX8_digest_31 : decode cX8_digest 31 = .ok (.lstore_n 1, 1) := by decide +kernel
theorem dX8_digest_32 : decode cX8_digest 32 = .ok (.lload_n 1, 1) := by decide +kernel
theorem dX8_digest_33 : decode cX8_digest 33 = .ok (.aload_n 0, 1) := by decide +kernel
theorem dX8_digest_34 : decode cX8_digest 34 = .ok (.getfield 10, 3) := by decide +kernel
theorem dX8_digest_37 : decode cX8_digest 37 = .ok (.invokevirtual 143, 3) := by decide +kernel
theorem dX8_digest_40 : decode cX8_digest 40 = .ok (.invokestatic 209, 3) := by decide +kernel
theorem dX8_digest_43 : decode cX8_digest 43 = .ok (.lstore_n 1, 1) := by decide +kernel
theorem dX8_digest_44 : decode cX8_digest 44 = .ok (.lload_n 1, 1) := by decide +kernel
theorem dX8_digest_45 : decode cX8_digest 45 = .ok (.aload_n 0, 1) := by decide +kernel
theorem dX8_digest_46 : decode cX8_digest 46 = .ok (.getfield 21, 3) := by decide +kernel
theorem dX8_digest_49 : decode cX8_digest 49 = .ok (.invokevirtual 147, 3) := by decide +kernel
theorem dX8_digest_52 : decode cX8_digest 52 = .ok (.invokestatic 209, 3) := by decide +kernel
theorem dX8_digest_55 : decode cX8_digest 55 = .ok (.lstore_n 1, 1) := by decide +kernel
theorem dX8_digest_56 : decode cX8_digest 56 = .ok (.lload_n 1, 1) := by decide +kernel
theorem dX8_digest_57 : decode cX8_digest 57 = .ok (.aload_n 0, 1) := by decide +kernel
theorem dX8_digest_58 : decode cX8_digest 58 = .ok (.getfield 21, 3) := by decide +kernel
theorem dX8_digest_61 : decode cX8_digest 61 = .ok (.invokevirtual 150, 3) := by decide +kernel
theorem dX8_digest_64 : decode cX8_digest 64 = .ok (.invokestatic 209, 3) := by decide +kernel
theorem dX8_digest_67 : decode cX8_digest 67 = .ok (.lstore_n 1, 1) := by decide +kernel
theorem dX8_digest_68 : decode cX8_digest 68 = .ok (.lload_n 1, 1) := by decide +kernel
theorem dX8_digest_69 : decode cX8_digest 69 = .ok (.aload_n 0, 1) := by decide +kernel
theorem dX8_digest_70 : decode cX8_digest 70 = .ok (.getfield 30, 3) := by decide +kernel
theorem dX8_digest_73 : decode cX8_digest 73 = .ok (.getfield 153, 3) := by decide +kernel
theorem dX8_digest_76 : decode cX8_digest 76 = .ok (.invokestatic 209, 3) := by decide +kernel
theorem dX8_digest_79 : decode cX8_digest 79 = .ok (.lstore_n 1, 1) := by decide +kernel
theorem dX8_digest_80 : decode cX8_digest 80 = .ok (.lload_n 1, 1) := by decide +kernel
theorem dX8_digest_81 : decode cX8_digest 81 = .ok (.aload_n 0, 1) := by decide +kernel
theorem dX8_digest_82 : decode cX8_digest 82 = .ok (.getfield 30, 3) := by decide +kernel
theorem dX8_digest_85 : decode cX8_digest 85 = .ok (.invokevirtual 158, 3) := by decide +kernel
theorem dX8_digest_88 : decode cX8_digest 88 = .ok (.invokestatic 209, 3) := by decide +kernel
theorem dX8_digest_91 : decode cX8_digest 91 = .ok (.lstore_n 1, 1) := by decide +kernel
theorem dX8_digest_92 : decode cX8_digest 92 = .ok (.lload_n 1, 1) := by decide +kernel
theorem dX8_digest_93 : decode cX8_digest 93 = .ok (.aload_n 0, 1) := by decide +kernel
theorem dX8_digest_94 : decode cX8_digest 94 = .ok (.getfield 30, 3) := by decide +kernel
theorem dX8_digest_97 : decode cX8_digest 97 = .ok (.invokevirtual 161, 3) := by decide +kernel
theorem dX8_digest_100 : decode cX8_digest 100 = .ok (.invokestatic 209, 3) := by decide +kernel
theorem dX8_digest_103 : decode cX8_digest 103 = .ok (.lstore_n 1, 1) := by decide +kernel
theorem dX8_digest_104 : decode cX8_digest 104 = .ok (.lload_n 1, 1) := by decide +kernel
theorem dX8_digest_105 : decode cX8_digest 105 = .ok (.aload_n 0, 1) := by decide +kernel
theorem dX8_digest_106 : decode cX8_digest 106 = .ok (.invokevirtual 213, 3) := by decide +kernel
theorem dX8_digest_109 : decode cX8_digest 109 = .ok (.invokestatic 209, 3) := by decide +kernel
theorem dX8_digest_112 : decode cX8_digest 112 = .ok (.lstore_n 1, 1) := by decide +kernel
theorem dX8_digest_113 : decode cX8_digest 113 = .ok (.iconst 0, 1) := by decide +kernel
theorem dX8_digest_114 : decode cX8_digest 114 = .ok (.istore_n 3, 1) := by decide +kernel
theorem dX8_digest_115 : decode cX8_digest 115 = .ok (.iload_n 3, 1) := by decide +kernel
theorem dX8_digest_116 : decode cX8_digest 116 = .ok (.aload_n 0, 1) := by decide +kernel
theorem dX8_digest_117 : decode cX8_digest 117 = .ok (.getfield 10, 3) := by decide +kernel
theorem dX8_digest_120 : decode cX8_digest 120 = .ok (.getfield 58, 3) := by decide +kernel
theorem dX8_digest_123 : decode cX8_digest 123 = .ok (.if_icmp .ge 70, 3) := by decide +kernel
theorem dX8_digest_126 : decode cX8_digest 126 = .ok (.lload_n 1, 1) := by decide +kernel
theorem dX8_digest_127 : decode cX8_digest 127 = .ok (.aload_n 0, 1) := by decide +kernel
theorem dX8_digest_128 : decode cX8_digest 128 = .ok (.getfield 10, 3) := by decide +kernel
theorem dX8_digest_131 : decode cX8_digest 131 = .ok (.getfield 83, 3) := by decide +kernel
theorem dX8_digest_134 : decode cX8_digest 134 = .ok (.iload_n 3, 1) := by decide +kernel
theorem dX8_digest_135 : decode cX8_digest 135 = .ok (.invokevirtual 87, 3) := by decide +kernel
theorem dX8_digest_138 : decode cX8_digest 138 = .ok (.invokestatic 209, 3) := by decide +kernel
theorem dX8_digest_141 : decode cX8_digest 141 = .ok (.lstore_n 1, 1) := by decide +kernel
theorem dX8_digest_142 : decode cX8_digest 142 = .ok (.lload_n 1, 1) := by decide +kernel
theorem dX8_digest_143 : decode cX8_digest 143 = .ok (.aload_n 0, 1) := by decide +kernel
theorem dX8_digest_144 : decode cX8_digest 144 = .ok (.getfield 10, 3) := by decide +kernel
theorem dX8_digest_147 : decode cX8_digest 147 = .ok (.getfield 97, 3) := by decide +kernel
theorem dX8_digest_150 : decode cX8_digest 150 = .ok (.iload_n 3, 1) := by decide +kernel
theorem dX8_digest_151 : decode cX8_digest 151 = .ok (.invokevirtual 87, 3) := by decide +kernel
theorem dX8_digest_154 : decode cX8_digest 154 = .ok (.invokestatic 209, 3) := by decide +kernel
theorem dX8_digest_157 : decode cX8_digest 157 = .ok (.lstore_n 1, 1) := by decide +kernel
theorem dX8_digest_158 : decode cX8_digest 158 = .ok (.lload_n 1, 1) := by decide +kernel
theorem dX8_digest_159 : decode cX8_digest 159 = .ok (.aload_n 0, 1) := by decide +kernel
theorem dX8_digest_160 : decode cX8_digest 160 = .ok (.getfield 21, 3) := by decide +kernel
theorem dX8_digest_163 : decode cX8_digest 163 = .ok (.getfield 128, 3) := by decide +kernel
theorem dX8_digest_166 : decode cX8_digest 166 = .ok (.iload_n 3, 1) := by decide +kernel
theorem dX8_digest_167 : decode cX8_digest 167 = .ok (.invokevirtual 87, 3) := by decide +kernel
theorem dX8_digest_170 : decode cX8_digest 170 = .ok (.invokestatic 209, 3) := by decide +kernel
theorem dX8_digest_173 : decode cX8_digest 173 = .ok (.lstore_n 1, 1) := by decide +kernel
theorem dX8_digest_174 : decode cX8_digest 174 = .ok (.lload_n 1, 1) := by decide +kernel
theorem dX8_digest_175 : decode cX8_digest 175 = .ok (.aload_n 0, 1) := by decide +kernel
theorem dX8_digest_176 : decode cX8_digest 176 = .ok (.getfield 21, 3) := by decide +kernel
theorem dX8_digest_179 : decode cX8_digest 179 = .ok (.iload_n 3, 1) := by decide +kernel
theorem dX8_digest_180 : decode cX8_digest 180 = .ok (.invokevirtual 140, 3) := by decide +kernel
theorem dX8_digest_183 : decode cX8_digest 183 = .ok (.invokestatic 209, 3) := by decide +kernel
theorem dX8_digest_186 : decode cX8_digest 186 = .ok (.lstore_n 1, 1) := by decide +kernel
theorem dX8_digest_187 : decode cX8_digest 187 = .ok (.iinc 3 1, 3) := by decide +kernel
theorem dX8_digest_190 : decode cX8_digest 190 = .ok (.goto (-75), 3) := by decide +kernel
theorem dX8_digest_193 : decode cX8_digest 193 = .ok (.iconst 0, 1) := by decide +kernel
theorem dX8_digest_194 : decode cX8_digest 194 = .ok (.istore_n 3, 1) := by decide +kernel
theorem dX8_digest_195 : decode cX8_digest 195 = .ok (.iload_n 3, 1) := by decide +kernel
theorem dX8_digest_196 : decode cX8_digest 196 = .ok (.aload_n 0, 1) := by decide +kernel
theorem dX8_digest_197 : decode cX8_digest 197 = .ok (.getfield 21, 3) := by decide +kernel
theorem dX8_digest_200 : decode cX8_digest 200 = .ok (.getfield 127, 3) := by decide +kernel
theorem dX8_digest_203 : decode cX8_digest 203 = .ok (.if_icmp .ge 38, 3) := by decide +kernel
theorem dX8_digest_206 : decode cX8_digest 206 = .ok (.lload_n 1, 1) := by decide +kernel
theorem dX8_digest_207 : decode cX8_digest 207 = .ok (.aload_n 0, 1) := by decide +kernel
theorem dX8_digest_208 : decode cX8_digest 208 = .ok (.getfield 21, 3) := by decide +kernel
theorem dX8_digest_211 : decode cX8_digest 211 = .ok (.iload_n 3, 1) := by decide +kernel
theorem dX8_digest_212 : decode cX8_digest 212 = .ok (.invokevirtual 134, 3) := by decide +kernel
theorem dX8_digest_215 : decode cX8_digest 215 = .ok (.invokestatic 209, 3) := by decide +kernel
theorem dX8_digest_218 : decode cX8_digest 218 = .ok (.lstore_n 1, 1) := by decide +kernel
theorem dX8_digest_219 : decode cX8_digest 219 = .ok (.lload_n 1, 1) := by decide +kernel
theorem dX8_digest_220 : decode cX8_digest 220 = .ok (.aload_n 0, 1) := by decide +kernel
theorem dX8_digest_221 : decode cX8_digest 221 = .ok (.getfield 30, 3) := by decide +kernel
theorem dX8_digest_224 : decode cX8_digest 224 = .ok (.getfield 154, 3) := by decide +kernel
theorem dX8_digest_227 : decode cX8_digest 227 = .ok (.iload_n 3, 1) := by decide +kernel
theorem dX8_digest_228 : decode cX8_digest 228 = .ok (.invokevirtual 87, 3) := by decide +kernel
theorem dX8_digest_231 : decode cX8_digest 231 = .ok (.invokestatic 209, 3) := by decide +kernel
theorem dX8_digest_234 : decode cX8_digest 234 = .ok (.lstore_n 1, 1) := by decide +kernel
theorem dX8_digest_235 : decode cX8_digest 235 = .ok (.iinc 3 1, 3) := by decide +kernel
theorem dX8_digest_238 : decode cX8_digest 238 = .ok (.goto (-43), 3) := by decide +kernel
theorem dX8_digest_241 : decode cX8_digest 241 = .ok (.lload_n 1, 1) := by decide +kernel
theorem dX8_digest_242 : decode cX8_digest 242 = .ok (.lreturn, 1) := by decide +kernel
theorem dX8_mix_0 : decode cX8_mix 0 = .ok (.ldc2_w 216, 3) := by decide +kernel
theorem dX8_mix_3 : decode cX8_mix 3 = .ok (.lload_n 0, 1) := by decide +kernel
theorem dX8_mix_4 : decode cX8_mix 4 = .ok (.lmul, 1) := by decide +kernel
theorem dX8_mix_5 : decode cX8_mix 5 = .ok (.iload_n 2, 1) := by decide +kernel
theorem dX8_mix_6 : decode cX8_mix 6 = .ok (.i2l, 1) := by decide +kernel
theorem dX8_mix_7 : decode cX8_mix 7 = .ok (.ladd, 1) := by decide +kernel
theorem dX8_mix_8 : decode cX8_mix 8 = .ok (.lreturn, 1) := by decide +kernel
theorem dX8_requireIndex_0 : decode cX8_requireIndex 0 = .ok (.iload_n 0, 1) := by decide +kernel
theorem dX8_requireIndex_1 : decode cX8_requireIndex 1 = .ok (.ifCond .lt 8, 3) := by decide +kernel
theorem dX8_requireIndex_4 : decode cX8_requireIndex 4 = .ok (.iload_n 0, 1) := by decide +kernel
theorem dX8_requireIndex_5 : decode cX8_requireIndex 5 = .ok (.iload_n 1, 1) := by decide +kernel
theorem dX8_requireIndex_6 : decode cX8_requireIndex 6 = .ok (.if_icmp .lt 13, 3) := by decide +kernel
theorem dX8_requireIndex_9 : decode cX8_requireIndex 9 = .ok (.new 218, 3) := by decide +kernel
theorem dX8_requireIndex_12 : decode cX8_requireIndex 12 = .ok (.dup, 1) := by decide +kernel
theorem dX8_requireIndex_13 : decode cX8_requireIndex 13 = .ok (.ldc 220, 2) := by decide +kernel
theorem dX8_requireIndex_15 : decode cX8_requireIndex 15 = .ok (.invokespecial 222, 3) := by decide +kernel
theorem dX8_requireIndex_18 : decode cX8_requireIndex 18 = .ok (.athrow, 1) := by decide +kernel
theorem dX8_requireIndex_19 : decode cX8_requireIndex 19 = .ok (.return_, 1) := by decide +kernel
theorem dX8_requireRange_0 : decode cX8_requireRange 0 = .ok (.iload_n 0, 1) := by decide +kernel
theorem dX8_requireRange_1 : decode cX8_requireRange 1 = .ok (.iload_n 1, 1) := by decide +kernel
theorem dX8_requireRange_2 : decode cX8_requireRange 2 = .ok (.if_icmp .lt 8, 3) := by decide +kernel
theorem dX8_requireRange_5 : decode cX8_requireRange 5 = .ok (.iload_n 0, 1) := by decide +kernel
theorem dX8_requireRange_6 : decode cX8_requireRange 6 = .ok (.iload_n 2, 1) := by decide +kernel
theorem dX8_requireRange_7 : decode cX8_requireRange 7 = .ok (.if_icmp .le 13, 3) := by decide +kernel
theorem dX8_requireRange_10 : decode cX8_requireRange 10 = .ok (.new 189, 3) := by decide +kernel
theorem dX8_requireRange_13 : decode cX8_requireRange 13 = .ok (.dup, 1) := by decide +kernel
theorem dX8_requireRange_14 : decode cX8_requireRange 14 = .ok (.ldc 223, 2) := by decide +kernel
theorem dX8_requireRange_16 : decode cX8_requireRange 16 = .ok (.invokespecial 193, 3) := by decide +kernel
theorem dX8_requireRange_19 : decode cX8_requireRange 19 = .ok (.athrow, 1) := by decide +kernel
theorem dX8_requireRange_20 : decode cX8_requireRange 20 = .ok (.return_, 1) := by decide +kernel
theorem dX8_prepareChange_0 : decode cX8_prepareChange 0 = .ok (.aload_n 0, 1) := by decide +kernel
theorem dX8_prepareChange_1 : decode cX8_prepareChange 1 = .ok (.getfield 50, 3) := by decide +kernel
theorem dX8_prepareChange_4 : decode cX8_prepareChange 4 = .ok (.aload_n 0, 1) := by decide +kernel
theorem dX8_prepareChange_5 : decode cX8_prepareChange 5 = .ok (.getfield 10, 3) := by decide +kernel
theorem dX8_prepareChange_8 : decode cX8_prepareChange 8 = .ok (.invokevirtual 225, 3) := by decide +kernel
theorem dX8_prepareChange_11 : decode cX8_prepareChange 11 = .ok (.aload_n 0, 1) := by decide +kernel
theorem dX8_prepareChange_12 : decode cX8_prepareChange 12 = .ok (.iconst 1, 1) := by decide +kernel
theorem dX8_prepareChange_13 : decode cX8_prepareChange 13 = .ok (.putfield 54, 3) := by decide +kernel
theorem dX8_prepareChange_16 : decode cX8_prepareChange 16 = .ok (.return_, 1) := by decide +kernel
theorem dX8_refresh_0 : decode cX8_refresh 0 = .ok (.aload_n 0, 1) := by decide +kernel
theorem dX8_refresh_1 : decode cX8_refresh 1 = .ok (.getfield 54, 3) := by decide +kernel
theorem dX8_refresh_4 : decode cX8_refresh 4 = .ok (.ifCond .eq 29, 3) := by decide +kernel
theorem dX8_refresh_7 : decode cX8_refresh 7 = .ok (.aload_n 0, 1) := by decide +kernel
theorem dX8_refresh_8 : decode cX8_refresh 8 = .ok (.getfield 21, 3) := by decide +kernel
theorem dX8_refresh_11 : decode cX8_refresh 11 = .ok (.aload_n 0, 1) := by decide +kernel
theorem dX8_refresh_12 : decode cX8_refresh 12 = .ok (.getfield 10, 3) := by decide +kernel
theorem dX8_refresh_15 : decode cX8_refresh 15 = .ok (.getfield 121, 3) := by decide +kernel
theorem dX8_refresh_18 : decode cX8_refresh 18 = .ok (.invokevirtual 167, 3) := by decide +kernel
theorem dX8_refresh_21 : decode cX8_refresh 21 = .ok (.aload_n 0, 1) := by decide +kernel
theorem dX8_refresh_22 : decode cX8_refresh 22 = .ok (.getfield 30, 3) := by decide +kernel
theorem dX8_refresh_25 : decode cX8_refresh 25 = .ok (.invokevirtual 228, 3) := by decide +kernel
theorem dX8_refresh_28 : decode cX8_refresh 28 = .ok (.aload_n 0, 1) := by decide +kernel
theorem dX8_refresh_29 : decode cX8_refresh 29 = .ok (.iconst 0, 1) := by decide +kernel
theorem dX8_refresh_30 : decode cX8_refresh 30 = .ok (.putfield 54, 3) := by decide +kernel
theorem dX8_refresh_33 : decode cX8_refresh 33 = .ok (.return_, 1) := by decide +kernel
theorem dX9_init_0 : decode cX9_init 0 = .ok (.aload_n 0, 1) := by decide +kernel
theorem dX9_init_1 : decode cX9_init 1 = .ok (.invokespecial 1, 3) := by decide +kernel
theorem dX9_init_4 : decode cX9_init 4 = .ok (.aload_n 0, 1) := by decide +kernel
theorem dX9_init_5 : decode cX9_init 5 = .ok (.sipush 616, 3) := by decide +kernel
theorem dX9_init_8 : decode cX9_init 8 = .ok (.newarray .int, 2) := by decide +kernel
theorem dX9_init_10 : decode cX9_init 10 = .ok (.putfield 7, 3) := by decide +kernel
theorem dX9_init_13 : decode cX9_init 13 = .ok (.aload_n 0, 1) := by decide +kernel
theorem dX9_init_14 : decode cX9_init 14 = .ok (.bipush 60, 2) := by decide +kernel
theorem dX9_init_16 : decode cX9_init 16 = .ok (.newarray .char, 2) := by decide +kernel
theorem dX9_init_18 : decode cX9_init 18 = .ok (.putfield 13, 3) := by decide +kernel
theorem dX9_init_21 : decode cX9_init 21 = .ok (.aload_n 0, 1) := by decide +kernel
theorem dX9_init_22 : decode cX9_init 22 = .ok (.bipush 40, 2) := by decide +kernel
theorem dX9_init_24 : decode cX9_init 24 = .ok (.newarray .boolean, 2) := by decide +kernel
theorem dX9_init_26 : decode cX9_init 26 = .ok (.putfield 17, 3) := by decide +kernel
theorem dX9_init_29 : decode cX9_init 29 = .ok (.aload_n 0, 1) := by decide +kernel
theorem dX9_init_30 : decode cX9_init 30 = .ok (.bipush 41, 2) := by decide +kernel
theorem dX9_init_32 : decode cX9_init 32 = .ok (.newarray .int, 2) := by decide +kernel
theorem dX9_init_34 : decode cX9_init 34 = .ok (.putfield 21, 3) := by decide +kernel
theorem dX9_init_37 : decode cX9_init 37 = .ok (.aload_n 0, 1) := by decide +kernel
theorem dX9_init_38 : decode cX9_init 38 = .ok (.sipush 4921, 3) := by decide +kernel
theorem dX9_init_41 : decode cX9_init 41 = .ok (.newarray .int, 2) := by decide +kernel
theorem dX9_init_43 : decode cX9_init 43 = .ok (.putfield 24, 3) := by decide +kernel
theorem dX9_init_46 : decode cX9_init 46 = .ok (.aload_n 0, 1) := by decide +kernel
theorem dX9_init_47 : decode cX9_init 47 = .ok (.sipush 4921, 3) := by decide +kernel
theorem dX9_init_50 : decode cX9_init 50 = .ok (.newarray .int, 2) := by decide +kernel
theorem dX9_init_52 : decode cX9_init 52 = .ok (.putfield 27, 3) := by decide +kernel
theorem dX9_init_55 : decode cX9_init 55 = .ok (.aload_n 0, 1) := by decide +kernel
theorem dX9_init_56 : decode cX9_init 56 = .ok (.sipush 4921, 3) := by decide +kernel
theorem dX9_init_59 : decode cX9_init 59 = .ok (.newarray .int, 2) := by decide +kernel
theorem dX9_init_61 : decode cX9_init 61 = .ok (.putfield 30, 3) := by decide +kernel
theorem dX9_init_64 : decode cX9_init 64 = .ok (.aload_n 0, 1) := by decide +kernel
theorem dX9_init_65 : decode cX9_init 65 = .ok (.bipush 40, 2) := by decide +kernel
theorem dX9_init_67 : decode cX9_init 67 = .ok (.newarray .int, 2) := by decide +kernel
theorem dX9_init_69 : decode cX9_init 69 = .ok (.putfield 33, 3) := by decide +kernel
theorem dX9_init_72 : decode cX9_init 72 = .ok (.aload_n 0, 1) := by decide +kernel
theorem dX9_init_73 : decode cX9_init 73 = .ok (.getfield 7, 3) := by decide +kernel
theorem dX9_init_76 : decode cX9_init 76 = .ok (.bipush 81, 2) := by decide +kernel
theorem dX9_init_78 : decode cX9_init 78 = .ok (.bipush 60, 2) := by decide +kernel
theorem dX9_init_80 : decode cX9_init 80 = .ok (.iastore, 1) := by decide +kernel
theorem dX9_init_81 : decode cX9_init 81 = .ok (.aload_n 0, 1) := by decide +kernel
theorem dX9_init_82 : decode cX9_init 82 = .ok (.getfield 7, 3) := by decide +kernel
theorem dX9_init_85 : decode cX9_init 85 = .ok (.bipush 82, 2) := by decide +kernel
theorem dX9_init_87 : decode cX9_init 87 = .ok (.iconst 2, 1) := by decide +kernel
theorem dX9_init_88 : decode cX9_init 88 = .ok (.iastore, 1) := by decide +kernel
theorem dX9_init_89 : decode cX9_init 89 = .ok (.aload_n 0, 1) := by decide +kernel
theorem dX9_init_90 : decode cX9_init 90 = .ok (.getfield 7, 3) := by decide +kernel
theorem dX9_init_93 : decode cX9_init 93 = .ok (.bipush 83, 2) := by decide +kernel
theorem dX9_init_95 : decode cX9_init 95 = .ok (.iconst 3, 1) := by decide +kernel
theorem dX9_init_96 : decode cX9_init 96 = .ok (.iastore, 1) := by decide +kernel
theorem dX9_init_97 : decode cX9_init 97 = .ok (.aload_n 0, 1) := by decide +kernel
theorem dX9_init_98 : decode cX9_init 98 = .ok (.getfield 7, 3) := by decide +kernel
theorem dX9_init_101 : decode cX9_init 101 = .ok (.bipush 84, 2) := by decide +kernel
theorem dX9_init_103 : decode cX9_init 103 = .ok (.sipush 500, 3) := by decide +kernel
theorem dX9_init_106 : decode cX9_init 106 = .ok (.iastore, 1) := by decide +kernel
theorem dX9_init_107 : decode cX9_init 107 = .ok (.aload_n 0, 1) := by decide +kernel
theorem dX9_init_108 : decode cX9_init 108 = .ok (.getfield 7, 3) := by decide +kernel
theorem dX9_init_111 : decode cX9_init 111 = .ok (.bipush 85, 2) := by decide +kernel
theorem dX9_init_113 : decode cX9_init 113 = .ok (.sipush 300, 3) := by decide +kernel
theorem dX9_init_116 : decode cX9_init 116 = .ok (.iastore, 1) := by decide +kernel
theorem dX9_init_117 : decode cX9_init 117 = .ok (.aload_n 0, 1) := by decide +kernel
theorem dX9_init_118 : decode cX9_init 118 = .ok (.getfield 7, 3) := by decide +kernel
theorem dX9_init_121 : decode cX9_init 121 = .ok (.bipush 86, 2) := by decide +kernel
theorem dX9_init_123 : decode cX9_init 123 = .ok (.bipush 6, 2) := by decide +kernel
theorem dX9_init_125 : decode cX9_init 125 = .ok (.iastore, 1) := by decide +kernel
theorem dX9_init_126 : decode cX9_init 126 = .ok (.aload_n 0, 1) := by decide +kernel
theorem dX9_init_127 : decode cX9_init 127 = .ok (.getfield 7, 3) := by decide +kernel
theorem dX9_init_130 : decode cX9_init 130 = .ok (.bipush 87, 2) := by decide +kernel
theorem dX9_init_132 : decode cX9_init 132 = .ok (.iconst 1, 1) := by decide +kernel
theorem dX9_init_133 : decode cX9_init 133 = .ok (.iastore, 1) := by decide +kernel
theorem dX9_init_134 : decode cX9_init 134 = .ok (.return_, 1) := by decide +kernel
theorem dX9_thrown_0 : decode cX9_thrown 0 = .ok (.aload_n 0, 1) := by decide +kernel
theorem dX9_thrown_1 : decode cX9_thrown 1 = .ok (.getfield 36, 3) := by decide +kernel
theorem dX9_thrown_4 : decode cX9_thrown 4 = .ok (.ireturn, 1) := by decide +kernel
theorem dX9_in_0 : decode cX9_in 0 = .ok (.iload_n 0, 1) := by decide +kernel
theorem dX9_in_1 : decode cX9_in 1 = .ok (.iload_n 1, 1) := by decide +kernel
theorem dX9_in_2 : decode cX9_in 2 = .ok (.if_icmp .lt 12, 3) := by decide +kernel
theorem dX9_in_5 : decode cX9_in 5 = .ok (.iload_n 0, 1) := by decide +kernel
theorem dX9_in_6 : decode cX9_in 6 = .ok (.iload_n 2, 1) := by decide +kernel
theorem dX9_in_7 : decode cX9_in 7 = .ok (.if_icmp .gt 7, 3) := by decide +kernel
theorem dX9_in_10 : decode cX9_in 10 = .ok (.iconst 1, 1) := by decide +kernel
theorem dX9_in_11 : decode cX9_in 11 = .ok (.goto 4, 3) := by decide +kernel
theorem dX9_in_14 : decode cX9_in 14 = .ok (.iconst 0, 1) := by decide +kernel
theorem dX9_in_15 : decode cX9_in 15 = .ok (.ireturn, 1) := by decide +kernel
theorem dX9_goes_0 : decode cX9_goes 0 = .ok (.aload_n 0, 1) := by decide +kernel
theorem dX9_goes_1 : decode cX9_goes 1 = .ok (.iload_n 1, 1) := by decide +kernel
theorem dX9_goes_2 : decode cX9_goes 2 = .ok (.ifCond .ne 7, 3) := by decide +kernel
theorem dX9_goes_5 : decode cX9_goes 5 = .ok (.iconst 1, 1) := by decide +kernel
theorem dX9_goes_6 : decode cX9_goes 6 = .ok (.goto 20, 3) := by decide +kernel
theorem dX9_goes_9 : decode cX9_goes 9 = .ok (.iload_n 2, 1) := by decide +kernel
theorem dX9_goes_10 : decode cX9_goes 10 = .ok (.ifCond .ne 7, 3) := by decide +kernel
theorem dX9_goes_13 : decode cX9_goes 13 = .ok (.iconst 2, 1) := by decide +kernel
theorem dX9_goes_14 : decode cX9_goes 14 = .ok (.goto 12, 3) := by decide +kernel
theorem dX9_goes_17 : decode cX9_goes 17 = .ok (.iload_n 3, 1) := by decide +kernel
theorem dX9_goes_18 : decode cX9_goes 18 = .ok (.ifCond .ne 7, 3) := by decide +kernel
theorem dX9_goes_21 : decode cX9_goes 21 = .ok (.iconst 3, 1) := by decide +kernel
theorem dX9_goes_22 : decode cX9_goes 22 = .ok (.goto 4, 3) := by decide +kernel
theorem dX9_goes_25 : decode cX9_goes 25 = .ok (.iconst 0, 1) := by decide +kernel
theorem dX9_goes_26 : decode cX9_goes 26 = .ok (.putfield 36, 3) := by decide +kernel
theorem dX9_goes_29 : decode cX9_goes 29 = .ok (.aload_n 0, 1) := by decide +kernel
theorem dX9_goes_30 : decode cX9_goes 30 = .ok (.getfield 36, 3) := by decide +kernel
theorem dX9_goes_33 : decode cX9_goes 33 = .ok (.ifCond .ne 7, 3) := by decide +kernel
theorem dX9_goes_36 : decode cX9_goes 36 = .ok (.iconst 1, 1) := by decide +kernel
theorem dX9_goes_37 : decode cX9_goes 37 = .ok (.goto 4, 3) := by decide +kernel
theorem dX9_goes_40 : decode cX9_goes 40 = .ok (.iconst 0, 1) := by decide +kernel
theorem dX9_goes_41 : decode cX9_goes 41 = .ok (.ireturn, 1) := by decide +kernel
theorem dX9_copies_0 : decode cX9_copies 0 = .ok (.iconst 0, 1) := by decide +kernel
theorem dX9_copies_1 : decode cX9_copies 1 = .ok (.istore_n 3, 1) := by decide +kernel
theorem dX9_copies_2 : decode cX9_copies 2 = .ok (.iload_n 3, 1) := by decide +kernel
theorem dX9_copies_3 : decode cX9_copies 3 = .ok (.bipush 88, 2) := by decide +kernel
theorem dX9_copies_5 : decode cX9_copies 5 = .ok (.if_icmp .ge 31, 3) := by decide +kernel
theorem dX9_copies_8 : decode cX9_copies 8 = .ok (.aload_n 0, 1) := by decide +kernel
theorem dX9_copies_9 : decode cX9_copies 9 = .ok (.getfield 7, 3) := by decide +kernel
theorem dX9_copies_12 : decode cX9_copies 12 = .ok (.bipush 88, 2) := by decide +kernel
theorem dX9_copies_14 : decode cX9_copies 14 = .ok (.iload_n 2, 1) := by decide +kernel
theorem dX9_copies_15 : decode cX9_copies 15 = .ok (.imul, 1) := by decide +kernel
theorem dX9_copies_16 : decode cX9_copies 16 = .ok (.iload_n 3, 1) := by decide +kernel
theorem dX9_copies_17 : decode cX9_copies 17 = .ok (.iadd, 1) := by decide +kernel
theorem dX9_copies_18 : decode cX9_copies 18 = .ok (.aload_n 0, 1) := by decide +kernel
theorem dX9_copies_19 : decode cX9_copies 19 = .ok (.getfield 7, 3) := by decide +kernel
theorem dX9_copies_22 : decode cX9_copies 22 = .ok (.bipush 88, 2) := by decide +kernel
theorem dX9_copies_24 : decode cX9_copies 24 = .ok (.iload_n 1, 1) := by decide +kernel
theorem dX9_copies_25 : decode cX9_copies 25 = .ok (.imul, 1) := by decide +kernel
theorem dX9_copies_26 : decode cX9_copies 26 = .ok (.iload_n 3, 1) := by decide +kernel
theorem dX9_copies_27 : decode cX9_copies 27 = .ok (.iadd, 1) := by decide +kernel
theorem dX9_copies_28 : decode cX9_copies 28 = .ok (.iaload, 1) := by decide +kernel
theorem dX9_copies_29 : decode cX9_copies 29 = .ok (.iastore, 1) := by decide +kernel
theorem dX9_copies_30 : decode cX9_copies 30 = .ok (.iinc 3 1, 3) := by decide +kernel
theorem dX9_copies_33 : decode cX9_copies 33 = .ok (.goto (-31), 3) := by decide +kernel
theorem dX9_copies_36 : decode cX9_copies 36 = .ok (.return_, 1) := by decide +kernel
theorem dX9_saves_0 : decode cX9_saves 0 = .ok (.aload_n 0, 1) := by decide +kernel
theorem dX9_saves_1 : decode cX9_saves 1 = .ok (.getfield 40, 3) := by decide +kernel
theorem dX9_saves_4 : decode cX9_saves 4 = .ok (.bipush 6, 2) := by decide +kernel
theorem dX9_saves_6 : decode cX9_saves 6 = .ok (.if_icmp .ne 35, 3) := by decide +kernel
theorem dX9_saves_9 : decode cX9_saves 9 = .ok (.iconst 1, 1) := by decide +kernel
theorem dX9_saves_10 : decode cX9_saves 10 = .ok (.istore_n 1, 1) := by decide +kernel
theorem dX9_saves_11 : decode cX9_saves 11 = .ok (.iload_n 1, 1) := by decide +kernel
theorem dX9_saves_12 : decode cX9_saves 12 = .ok (.bipush 6, 2) := by decide +kernel
theorem dX9_saves_14 : decode cX9_saves 14 = .ok (.if_icmp .ge 17, 3) := by decide +kernel
theorem dX9_saves_17 : decode cX9_saves 17 = .ok (.aload_n 0, 1) := by decide +kernel
theorem dX9_saves_18 : decode cX9_saves 18 = .ok (.iload_n 1, 1) := by decide +kernel
theorem dX9_saves_19 : decode cX9_saves 19 = .ok (.iconst 1, 1) := by decide +kernel
theorem dX9_saves_20 : decode cX9_saves 20 = .ok (.iadd, 1) := by decide +kernel
theorem dX9_saves_21 : decode cX9_saves 21 = .ok (.iload_n 1, 1) := by decide +kernel
theorem dX9_saves_22 : decode cX9_saves 22 = .ok (.invokevirtual 43, 3) := by decide +kernel
theorem dX9_saves_25 : decode cX9_saves 25 = .ok (.iinc 1 1, 3) := by decide +kernel
theorem dX9_saves_28 : decode cX9_saves 28 = .ok (.goto (-17), 3) := by decide +kernel
theorem dX9_saves_31 : decode cX9_saves 31 = .ok (.aload_n 0, 1) := by decide +kernel
theorem dX9_saves_32 : decode cX9_saves 32 = .ok (.dup, 1) := by decide +kernel
theorem dX9_saves_33 : decode cX9_saves 33 = .ok (.getfield 40, 3) := by decide +kernel
theorem dX9_saves_36 : decode cX9_saves 36 = .ok (.iconst 1, 1) := by decide +kernel
theorem dX9_saves_37 : decode cX9_saves 37 = .ok (.isub, 1) := by decide +kernel
theorem dX9_saves_38 : decode cX9_saves 38 = .ok (.putfield 40, 3) := by decide +kernel
theorem dX9_saves_41 : decode cX9_saves 41 = .ok (.aload_n 0, 1) := by decide +kernel
theorem dX9_saves_42 : decode cX9_saves 42 = .ok (.dup, 1) := by decide +kernel
theorem dX9_saves_43 : decode cX9_saves 43 = .ok (.getfield 40, 3) := by decide +kernel
theorem dX9_saves_46 : decode cX9_saves 46 = .ok (.iconst 1, 1) := by decide +kernel
theorem dX9_saves_47 : decode cX9_saves 47 = .ok (.iadd, 1) := by decide +kernel
theorem dX9_saves_48 : decode cX9_saves 48 = .ok (.putfield 40, 3) := by decide +kernel
theorem dX9_saves_51 : decode cX9_saves 51 = .ok (.aload_n 0, 1) := by decide +kernel
theorem dX9_saves_52 : decode cX9_saves 52 = .ok (.iconst 0, 1) := by decide +kernel
theorem dX9_saves_53 : decode cX9_saves 53 = .ok (.aload_n 0, 1) := by decide +kernel
theorem dX9_saves_54 : decode cX9_saves 54 = .ok (.getfield 40, 3) := by decide +kernel
theorem dX9_saves_57 : decode cX9_saves 57 = .ok (.invokevirtual 43, 3) := by decide +kernel
theorem dX9_saves_60 : decode cX9_saves 60 = .ok (.return_, 1) := by decide +kernel
theorem dX9_isWord_0 : decode cX9_isWord 0 = .ok (.iload_n 1, 1) := by decide +kernel
theorem dX9_isWord_1 : decode cX9_isWord 1 = .ok (.iconst 0, 1) := by decide +kernel
theorem dX9_isWord_2 : decode cX9_isWord 2 = .ok (.aload_n 0, 1) := by decide +kernel
theorem dX9_isWord_3 : decode cX9_isWord 3 = .ok (.getfield 7, 3) := by decide +kernel
theorem dX9_isWord_6 : decode cX9_isWord 6 = .ok (.bipush 80, 2) := by decide +kernel
theorem dX9_isWord_8 : decode cX9_isWord 8 = .ok (.iaload, 1) := by decide +kernel
theorem dX9_isWord_9 : decode cX9_isWord 9 = .ok (.iconst 1, 1) := by decide +kernel
theorem dX9_isWord_10 : decode cX9_isWord 10 = .ok (.isub, 1) := by decide +kernel
theorem dX9_isWord_11 : decode cX9_isWord 11 = .ok (.invokestatic 47, 3) := by decide +kernel
theorem dX9_isWord_14 : decode cX9_isWord 14 = .ok (.ireturn, 1) := by decide +kernel
theorem dX9_puts_0 : decode cX9_puts 0 = .ok (.aload_n 0, 1) := by decide +kernel
theorem dX9_puts_1 : decode cX9_puts 1 = .ok (.getfield 7, 3) := by decide +kernel
theorem dX9_puts_4 : decode cX9_puts 4 = .ok (.bipush 80, 2) := by decide +kernel
theorem dX9_puts_6 : decode cX9_puts 6 = .ok (.iaload, 1) := by decide +kernel
theorem dX9_puts_7 : decode cX9_puts 7 = .ok (.istore 4, 2) := by decide +kernel
theorem dX9_puts_9 : decode cX9_puts 9 = .ok (.iload 4, 2) := by decide +kernel
theorem dX9_puts_11 : decode cX9_puts 11 = .ok (.iload_n 1, 1) := by decide +kernel
theorem dX9_puts_12 : decode cX9_puts 12 = .ok (.if_icmp .le 47, 3) := by decide +kernel
theorem dX9_puts_15 : decode cX9_puts 15 = .ok (.aload_n 0, 1) := by decide +kernel
theorem dX9_puts_16 : decode cX9_puts 16 = .ok (.getfield 7, 3) := by decide +kernel
theorem dX9_puts_19 : decode cX9_puts 19 = .ok (.iload 4, 2) := by decide +kernel
theorem dX9_puts_21 : decode cX9_puts 21 = .ok (.aload_n 0, 1) := by decide +kernel
theorem dX9_puts_22 : decode cX9_puts 22 = .ok (.getfield 7, 3) := by decide +kernel
theorem dX9_puts_25 : decode cX9_puts 25 = .ok (.iload 4, 2) := by decide +kernel
theorem dX9_puts_27 : decode cX9_puts 27 = .ok (.iconst 1, 1) := by decide +kernel
theorem dX9_puts_28 : decode cX9_puts 28 = .ok (.isub, 1) := by decide +kernel
theorem dX9_puts_29 : decode cX9_puts 29 = .ok (.iaload, 1) := by decide +kernel
theorem dX9_puts_30 : decode cX9_puts 30 = .ok (.iastore, 1) := by decide +kernel
theorem dX9_puts_31 : decode cX9_puts 31 = .ok (.aload_n 0, 1) := by decide +kernel
theorem dX9_puts_32 : decode cX9_puts 32 = .ok (.getfield 7, 3) := by decide +kernel
theorem dX9_puts_35 : decode cX9_puts 35 = .ok (.bipush 40, 2) := by decide +kernel
theorem dX9_puts_37 : decode cX9_puts 37 = .ok (.iload 4, 2) := by decide +kernel
theorem dX9_puts_39 : decode cX9_puts 39 = .ok (.iadd, 1) := by decide +kernel
theorem dX9_puts_40 : decode cX9_puts 40 = .ok (.aload_n 0, 1) := by decide +kernel
theorem dX9_puts_41 : decode cX9_puts 41 = .ok (.getfield 7, 3) := by decide +kernel
theorem dX9_puts_44 : decode cX9_puts 44 = .ok (.bipush 40, 2) := by decide +kernel
theorem dX9_puts_46 : decode cX9_puts 46 = .ok (.iload 4, 2) := by decide +kernel
theorem dX9_puts_48 : decode cX9_puts 48 = .ok (.iadd, 1) := by decide +kernel
theorem dX9_puts_49 : decode cX9_puts 49 = .ok (.iconst 1, 1) := by decide +kernel
theorem dX9_puts_50 : decode cX9_puts 50 = .ok (.isub, 1) := by decide +kernel
theorem dX9_puts_51 : decode cX9_puts 51 = .ok (.iaload, 1) := by decide +kernel
theorem dX9_puts_52 : decode cX9_puts 52 = .ok (.iastore, 1) := by decide +kernel
theorem dX9_puts_53 : decode cX9_puts 53 = .ok (.iinc 4 (-1), 3) := by decide +kernel
theorem dX9_puts_56 : decode cX9_puts 56 = .ok (.goto (-47), 3) := by decide +kernel
theorem dX9_puts_59 : decode cX9_puts 59 = .ok (.aload_n 0, 1) := by decide +kernel
theorem dX9_puts_60 : decode cX9_puts 60 = .ok (.getfield 7, 3) := by decide +kernel
theorem dX9_puts_63 : decode cX9_puts 63 = .ok (.iload_n 1, 1) := by decide +kernel
theorem dX9_puts_64 : decode cX9_puts 64 = .ok (.iload_n 2, 1) := by decide +kernel
theorem dX9_puts_65 : decode cX9_puts 65 = .ok (.iastore, 1) := by decide +kernel
theorem dX9_puts_66 : decode cX9_puts 66 = .ok (.aload_n 0, 1) := by decide +kernel
theorem dX9_puts_67 : decode cX9_puts 67 = .ok (.getfield 7, 3) := by decide +kernel
theorem dX9_puts_70 : decode cX9_puts 70 = .ok (.bipush 40, 2) := by decide +kernel
theorem dX9_puts_72 : decode cX9_puts 72 = .ok (.iload_n 1, 1) := by decide +kernel
theorem dX9_puts_73 : decode cX9_puts 73 = .ok (.iadd, 1) := by decide +kernel
theorem dX9_puts_74 : decode cX9_puts 74 = .ok (.iload_n 3, 1) := by decide +kernel
theorem dX9_puts_75 : decode cX9_puts 75 = .ok (.iastore, 1) := by decide +kernel
theorem dX9_puts_76 : decode cX9_puts 76 = .ok (.aload_n 0, 1) := by decide +kernel
theorem dX9_puts_77 : decode cX9_puts 77 = .ok (.getfield 7, 3) := by decide +kernel
theorem dX9_puts_80 : decode cX9_puts 80 = .ok (.bipush 80, 2) := by decide +kernel
theorem dX9_puts_82 : decode cX9_puts 82 = .ok (.dup2, 1) := by decide +kernel
theorem dX9_puts_83 : decode cX9_puts 83 = .ok (.iaload, 1) := by decide +kernel
theorem dX9_puts_84 : decode cX9_puts 84 = .ok (.iconst 1, 1) := by decide +kernel
theorem dX9_puts_85 : decode cX9_puts 85 = .ok (.iadd, 1) := by decide +kernel
theorem dX9_puts_86 : decode cX9_puts 86 = .ok (.iastore, 1) := by decide +kernel
theorem dX9_puts_87 : decode cX9_puts 87 = .ok (.return_, 1) := by decide +kernel
theorem dX9_insert_0 : decode cX9_insert 0 = .ok (.aload_n 0, 1) := by decide +kernel
theorem dX9_insert_1 : decode cX9_insert 1 = .ok (.iload_n 1, 1) := by decide +kernel
theorem dX9_insert_2 : decode cX9_insert 2 = .ok (.iconst 0, 1) := by decide +kernel
theorem dX9_insert_3 : decode cX9_insert 3 = .ok (.aload_n 0, 1) := by decide +kernel
theorem dX9_insert_4 : decode cX9_insert 4 = .ok (.getfield 7, 3) := by decide +kernel
theorem dX9_insert_7 : decode cX9_insert 7 = .ok (.bipush 80, 2) := by decide +kernel
theorem dX9_insert_9 : decode cX9_insert 9 = .ok (.iaload, 1) := by decide +kernel
theorem dX9_insert_10 : decode cX9_insert 10 = .ok (.invokestatic 47, 3) := by decide +kernel
theorem dX9_insert_13 : decode cX9_insert 13 = .ok (.iload_n 2, 1) := by decide +kernel
theorem dX9_insert_14 : decode cX9_insert 14 = .ok (.iconst 1, 1) := by decide +kernel
theorem dX9_insert_15 : decode cX9_insert 15 = .ok (.bipush 30, 2) := by decide +kernel
theorem dX9_insert_17 : decode cX9_insert 17 = .ok (.invokestatic 47, 3) := by decide +kernel
theorem dX9_insert_20 : decode cX9_insert 20 = .ok (.aload_n 0, 1) := by decide +kernel
theorem dX9_insert_21 : decode cX9_insert 21 = .ok (.getfield 7, 3) := by decide +kernel
theorem dX9_insert_24 : decode cX9_insert 24 = .ok (.bipush 80, 2) := by decide +kernel
theorem dX9_insert_26 : decode cX9_insert 26 = .ok (.iaload, 1) := by decide +kernel
theorem dX9_insert_27 : decode cX9_insert 27 = .ok (.bipush 40, 2) := by decide +kernel
theorem dX9_insert_29 : decode cX9_insert 29 = .ok (.if_icmp .ge 7, 3) := by decide +kernel
theorem dX9_insert_32 : decode cX9_insert 32 = .ok (.iconst 1, 1) := by decide +kernel
theorem dX9_insert_33 : decode cX9_insert 33 = .ok (.goto 4, 3) := by decide +kernel
theorem dX9_insert_36 : decode cX9_insert 36 = .ok (.iconst 0, 1) := by decide +kernel
theorem dX9_insert_37 : decode cX9_insert 37 = .ok (.invokevirtual 51, 3) := by decide +kernel
theorem dX9_insert_40 : decode cX9_insert 40 = .ok (.ifCond .ne 5, 3) := by decide +kernel
theorem dX9_insert_43 : decode cX9_insert 43 = .ok (.iconst 0, 1) := by decide +kernel
theorem dX9_insert_44 : decode cX9_insert 44 = .ok (.ireturn, 1) := by decide +kernel
theorem dX9_insert_45 : decode cX9_insert 45 = .ok (.aload_n 0, 1) := by decide +kernel
theorem dX9_insert_46 : decode cX9_insert 46 = .ok (.invokevirtual 55, 3) := by decide +kernel
theorem dX9_insert_49 : decode cX9_insert 49 = .ok (.aload_n 0, 1) := by decide +kernel
theorem dX9_insert_50 : decode cX9_insert 50 = .ok (.iload_n 1, 1) := by decide +kernel
theorem dX9_insert_51 : decode cX9_insert 51 = .ok (.iload_n 2, 1) := by decide +kernel
theorem dX9_insert_52 : decode cX9_insert 52 = .ok (.iconst 0, 1) := by decide +kernel
theorem dX9_insert_53 : decode cX9_insert 53 = .ok (.invokevirtual 58, 3) := by decide +kernel
theorem dX9_insert_56 : decode cX9_insert 56 = .ok (.aload_n 0, 1) := by decide +kernel
theorem dX9_insert_57 : decode cX9_insert 57 = .ok (.getfield 7, 3) := by decide +kernel
theorem dX9_insert_60 : decode cX9_insert 60 = .ok (.bipush 80, 2) := by decide +kernel
theorem dX9_insert_62 : decode cX9_insert 62 = .ok (.iaload, 1) := by decide +kernel
theorem dX9_insert_63 : decode cX9_insert 63 = .ok (.ireturn, 1) := by decide +kernel
theorem dX9_remove_0 : decode cX9_remove 0 = .ok (.aload_n 0, 1) := by decide +kernel
theorem dX9_remove_1 : decode cX9_remove 1 = .ok (.aload_n 0, 1) := by decide +kernel
theorem dX9_remove_2 : decode cX9_remove 2 = .ok (.iload_n 1, 1) := by decide +kernel
theorem dX9_remove_3 : decode cX9_remove 3 = .ok (.invokevirtual 62, 3) := by decide +kernel
theorem dX9_remove_6 : decode cX9_remove 6 = .ok (.iconst 1, 1) := by decide +kernel
theorem dX9_remove_7 : decode cX9_remove 7 = .ok (.iconst 1, 1) := by decide +kernel
theorem dX9_remove_8 : decode cX9_remove 8 = .ok (.invokevirtual 51, 3) := by decide +kernel
theorem dX9_remove_11 : decode cX9_remove 11 = .ok (.ifCond .ne 5, 3) := by decide +kernel
theorem dX9_remove_14 : decode cX9_remove 14 = .ok (.iconst 0, 1) := by decide +kernel
theorem dX9_remove_15 : decode cX9_remove 15 = .ok (.ireturn, 1) := by decide +kernel
theorem dX9_remove_16 : decode cX9_remove 16 = .ok (.aload_n 0, 1) := by decide +kernel
theorem dX9_remove_17 : decode cX9_remove 17 = .ok (.invokevirtual 55, 3) := by decide +kernel
theorem dX9_remove_20 : decode cX9_remove 20 = .ok (.aload_n 0, 1) := by decide +kernel
theorem dX9_remove_21 : decode cX9_remove 21 = .ok (.getfield 7, 3) := by decide +kernel
theorem dX9_remove_24 : decode cX9_remove 24 = .ok (.iload_n 1, 1) := by decide +kernel
theorem dX9_remove_25 : decode cX9_remove 25 = .ok (.iaload, 1) := by decide +kernel
theorem dX9_remove_26 : decode cX9_remove 26 = .ok (.istore_n 2, 1) := by decide +kernel
theorem dX9_remove_27 : decode cX9_remove 27 = .ok (.aload_n 0, 1) := by decide +kernel
theorem dX9_remove_28 : decode cX9_remove 28 = .ok (.getfield 7, 3) := by decide +kernel
theorem dX9_remove_31 : decode cX9_remove 31 = .ok (.bipush 80, 2) := by decide +kernel
theorem dX9_remove_33 : decode cX9_remove 33 = .ok (.dup2, 1) := by decide +kernel
theorem dX9_remove_34 : decode cX9_remove 34 = .ok (.iaload, 1) := by decide +kernel
theorem dX9_remove_35 : decode cX9_remove 35 = .ok (.iconst 1, 1) := by decide +kernel
theorem dX9_remove_36 : decode cX9_remove 36 = .ok (.isub, 1) := by decide +kernel
theorem dX9_remove_37 : decode cX9_remove 37 = .ok (.iastore, 1) := by decide +kernel
theorem dX9_remove_38 : decode cX9_remove 38 = .ok (.iload_n 1, 1) := by decide +kernel
theorem dX9_remove_39 : decode cX9_remove 39 = .ok (.istore_n 3, 1) := by decide +kernel
theorem dX9_remove_40 : decode cX9_remove 40 = .ok (.iload_n 3, 1) := by decide +kernel
theorem dX9_remove_41 : decode cX9_remove 41 = .ok (.aload_n 0, 1) := by decide +kernel
theorem dX9_remove_42 : decode cX9_remove 42 = .ok (.getfield 7, 3) := by decide +kernel
theorem dX9_remove_45 : decode cX9_remove 45 = .ok (.bipush 80, 2) := by decide +kernel
theorem dX9_remove_47 : decode cX9_remove 47 = .ok (.iaload, 1) := by decide +kernel
theorem dX9_remove_48 : decode cX9_remove 48 = .ok (.if_icmp .ge 43, 3) := by decide +kernel
theorem dX9_remove_51 : decode cX9_remove 51 = .ok (.aload_n 0, 1) := by decide +kernel
theorem dX9_remove_52 : decode cX9_remove 52 = .ok (.getfield 7, 3) := by decide +kernel
theorem dX9_remove_55 : decode cX9_remove 55 = .ok (.iload_n 3, 1) := by decide +kernel
theorem dX9_remove_56 : decode cX9_remove 56 = .ok (.aload_n 0, 1) := by decide +kernel
theorem dX9_remove_57 : decode cX9_remove 57 = .ok (.getfield 7, 3) := by decide +kernel
theorem dX9_remove_60 : decode cX9_remove 60 = .ok (.iload_n 3, 1) := by decide +kernel
theorem dX9_remove_61 : decode cX9_remove 61 = .ok (.iconst 1, 1) := by decide +kernel
theorem dX9_remove_62 : decode cX9_remove 62 = .ok (.iadd, 1) := by decide +kernel
theorem dX9_remove_63 : decode cX9_remove 63 = .ok (.iaload, 1) := by decide +kernel
theorem dX9_remove_64 : decode cX9_remove 64 = .ok (.iastore, 1) := by decide +kernel
theorem dX9_remove_65 : decode cX9_remove 65 = .ok (.aload_n 0, 1) := by decide +kernel
theorem dX9_remove_66 : decode cX9_remove 66 = .ok (.getfield 7, 3) := by decide +kernel
theorem dX9_remove_69 : decode cX9_remove 69 = .ok (.bipush 40, 2) := by decide +kernel
theorem dX9_remove_71 : decode cX9_remove 71 = .ok (.iload_n 3, 1) := by decide +kernel
theorem dX9_remove_72 : decode cX9_remove 72 = .ok (.iadd, 1) := by decide +kernel
theorem dX9_remove_73 : decode cX9_remove 73 = .ok (.aload_n 0, 1) := by decide +kernel
theorem dX9_remove_74 : decode cX9_remove 74 = .ok (.getfield 7, 3) := by decide +kernel
theorem dX9_remove_77 : decode cX9_remove 77 = .ok (.bipush 40, 2) := by decide +kernel
theorem dX9_remove_79 : decode cX9_remove 79 = .ok (.iload_n 3, 1) := by decide +kernel
theorem dX9_remove_80 : decode cX9_remove 80 = .ok (.iadd, 1) := by decide +kernel
theorem dX9_remove_81 : decode cX9_remove 81 = .ok (.iconst 1, 1) := by decide +kernel
theorem dX9_remove_82 : decode cX9_remove 82 = .ok (.iadd, 1) := by decide +kernel
theorem dX9_remove_83 : decode cX9_remove 83 = .ok (.iaload, 1) := by decide +kernel
theorem dX9_remove_84 : decode cX9_remove 84 = .ok (.iastore, 1) := by decide +kernel
theorem dX9_remove_85 : decode cX9_remove 85 = .ok (.iinc 3 1, 3) := by decide +kernel
theorem dX9_remove_88 : decode cX9_remove 88 = .ok (.goto (-48), 3) := by decide +kernel
theorem dX9_remove_91 : decode cX9_remove 91 = .ok (.iload_n 2, 1) := by decide +kernel
theorem dX9_remove_92 : decode cX9_remove 92 = .ok (.ireturn, 1) := by decide +kernel
theorem dX9_setMark_0 : decode cX9_setMark 0 = .ok (.aload_n 0, 1) := by decide +kernel
theorem dX9_setMark_1 : decode cX9_setMark 1 = .ok (.aload_n 0, 1) := by decide +kernel
theorem dX9_setMark_2 : decode cX9_setMark 2 = .ok (.iload_n 1, 1) := by decide +kernel
theorem dX9_setMark_3 : decode cX9_setMark 3 = .ok (.invokevirtual 62, 3) := by decide +kernel
theorem dX9_setMark_6 : decode cX9_setMark 6 = .ok (.iload_n 2, 1) := by decide +kernel
theorem dX9_setMark_7 : decode cX9_setMark 7 = .ok (.iconst 0, 1) := by decide +kernel
theorem dX9_setMark_8 : decode cX9_setMark 8 = .ok (.iconst 2, 1) := by decide +kernel
theorem dX9_setMark_9 : decode cX9_setMark 9 = .ok (.invokestatic 47, 3) := by decide +kernel
theorem dX9_setMark_12 : decode cX9_setMark 12 = .ok (.iconst 1, 1) := by decide +kernel
theorem dX9_setMark_13 : decode cX9_setMark 13 = .ok (.invokevirtual 51, 3) := by decide +kernel
theorem dX9_setMark_16 : decode cX9_setMark 16 = .ok (.ifCond .ne 5, 3) := by decide +kernel
theorem dX9_setMark_19 : decode cX9_setMark 19 = .ok (.iconst 0, 1) := by decide +kernel
theorem dX9_setMark_20 : decode cX9_setMark 20 = .ok (.ireturn, 1) := by decide +kernel
theorem dX9_setMark_21 : decode cX9_setMark 21 = .ok (.aload_n 0, 1) := by decide +kernel
theorem dX9_setMark_22 : decode cX9_setMark 22 = .ok (.invokevirtual 55, 3) := by decide +kernel
theorem dX9_setMark_25 : decode cX9_setMark 25 = .ok (.aload_n 0, 1) := by decide +kernel
theorem dX9_setMark_26 : decode cX9_setMark 26 = .ok (.getfield 7, 3) := by decide +kernel
theorem dX9_setMark_29 : decode cX9_setMark 29 = .ok (.bipush 40, 2) := by decide +kernel
theorem dX9_setMark_31 : decode cX9_setMark 31 = .ok (.iload_n 1, 1) := by decide +kernel
theorem dX9_setMark_32 : decode cX9_setMark 32 = .ok (.iadd, 1) := by decide +kernel
theorem dX9_setMark_33 : decode cX9_setMark 33 = .ok (.iaload, 1) := by decide +kernel
theorem dX9_setMark_34 : decode cX9_setMark 34 = .ok (.istore_n 3, 1) := by decide +kernel
theorem dX9_setMark_35 : decode cX9_setMark 35 = .ok (.aload_n 0, 1) := by decide +kernel
theorem dX9_setMark_36 : decode cX9_setMark 36 = .ok (.getfield 7, 3) := by decide +kernel
theorem dX9_setMark_39 : decode cX9_setMark 39 = .ok (.bipush 40, 2) := by decide +kernel
theorem dX9_setMark_41 : decode cX9_setMark 41 = .ok (.iload_n 1, 1) := by decide +kernel
theorem dX9_setMark_42 : decode cX9_setMark 42 = .ok (.iadd, 1) := by decide +kernel
theorem dX9_setMark_43 : decode cX9_setMark 43 = .ok (.iload_n 2, 1) := by decide +kernel
theorem dX9_setMark_44 : decode cX9_setMark 44 = .ok (.iastore, 1) := by decide +kernel
theorem dX9_setMark_45 : decode cX9_setMark 45 = .ok (.iload_n 3, 1) := by decide +kernel
theorem dX9_setMark_46 : decode cX9_setMark 46 = .ok (.ireturn, 1) := by decide +kernel
theorem dX9_words_0 : decode cX9_words 0 = .ok (.aload_n 0, 1) := by decide +kernel
theorem dX9_words_1 : decode cX9_words 1 = .ok (.iconst 0, 1) := by decide +kernel
theorem dX9_words_2 : decode cX9_words 2 = .ok (.putfield 36, 3) := by decide +kernel
theorem dX9_words_5 : decode cX9_words 5 = .ok (.aload_n 0, 1) := by decide +kernel
theorem dX9_words_6 : decode cX9_words 6 = .ok (.getfield 7, 3) := by decide +kernel
theorem dX9_words_9 : decode cX9_words 9 = .ok (.bipush 80, 2) := by decide +kernel
theorem dX9_words_11 : decode cX9_words 11 = .ok (.iaload, 1) := by decide +kernel
theorem dX9_words_12 : decode cX9_words 12 = .ok (.ireturn, 1) := by decide +kernel
theorem dX9_wordWidth_0 : decode cX9_wordWidth 0 = .ok (.aload_n 0, 1) := by decide +kernel
theorem dX9_wordWidth_1 : decode cX9_wordWidth 1 = .ok (.aload_n 0, 1) := by decide +kernel
theorem dX9_wordWidth_2 : decode cX9_wordWidth 2 = .ok (.iload_n 1, 1) := by decide +kernel
theorem dX9_wordWidth_3 : decode cX9_wordWidth 3 = .ok (.invokevirtual 62, 3) := by decide +kernel
theorem dX9_wordWidth_6 : decode cX9_wordWidth 6 = .ok (.iconst 1, 1) := by decide +kernel
theorem dX9_wordWidth_7 : decode cX9_wordWidth 7 = .ok (.iconst 1, 1) := by decide +kernel
theorem dX9_wordWidth_8 : decode cX9_wordWidth 8 = .ok (.invokevirtual 51, 3) := by decide +kernel
theorem dX9_wordWidth_11 : decode cX9_wordWidth 11 = .ok (.ifCond .eq 12, 3) := by decide +kernel
theorem dX9_wordWidth_14 : decode cX9_wordWidth 14 = .ok (.aload_n 0, 1) := by decide +kernel
theorem dX9_wordWidth_15 : decode cX9_wordWidth 15 = .ok (.getfield 7, 3) := by decide +kernel
theorem dX9_wordWidth_18 : decode cX9_wordWidth 18 = .ok (.iload_n 1, 1) := by decide +kernel
theorem dX9_wordWidth_19 : decode cX9_wordWidth 19 = .ok (.iaload, 1) := by decide +kernel
theorem dX9_wordWidth_20 : decode cX9_wordWidth 20 = .ok (.goto 4, 3) := by decide +kernel
theorem dX9_wordWidth_23 : decode cX9_wordWidth 23 = .ok (.iconst 0, 1) := by decide +kernel
theorem dX9_wordWidth_24 : decode cX9_wordWidth 24 = .ok (.ireturn, 1) := by decide +kernel
theorem dX9_mark_0 : decode cX9_mark 0 = .ok (.aload_n 0, 1) := by decide +kernel
theorem dX9_mark_1 : decode cX9_mark 1 = .ok (.aload_n 0, 1) := by decide +kernel
theorem dX9_mark_2 : decode cX9_mark 2 = .ok (.iload_n 1, 1) := by decide +kernel
theorem dX9_mark_3 : decode cX9_mark 3 = .ok (.invokevirtual 62, 3) := by decide +kernel
theorem dX9_mark_6 : decode cX9_mark 6 = .ok (.iconst 1, 1) := by decide +kernel
theorem dX9_mark_7 : decode cX9_mark 7 = .ok (.iconst 1, 1) := by decide +kernel
theorem dX9_mark_8 : decode cX9_mark 8 = .ok (.invokevirtual 51, 3) := by decide +kernel
theorem dX9_mark_11 : decode cX9_mark 11 = .ok (.ifCond .eq 15, 3) := by decide +kernel
theorem dX9_mark_14 : decode cX9_mark 14 = .ok (.aload_n 0, 1) := by decide +kernel
theorem dX9_mark_15 : decode cX9_mark 15 = .ok (.getfield 7, 3) := by decide +kernel
theorem dX9_mark_18 : decode cX9_mark 18 = .ok (.bipush 40, 2) := by decide +kernel
theorem dX9_mark_20 : decode cX9_mark 20 = .ok (.iload_n 1, 1) := by decide +kernel
theorem dX9_mark_21 : decode cX9_mark 21 = .ok (.iadd, 1) := by decide +kernel
theorem dX9_mark_22 : decode cX9_mark 22 = .ok (.iaload, 1) := by decide +kernel
theorem dX9_mark_23 : decode cX9_mark 23 = .ok (.goto 4, 3) := by decide +kernel
theorem dX9_mark_26 : decode cX9_mark 26 = .ok (.iconst 0, 1) := by decide +kernel
theorem dX9_mark_27 : decode cX9_mark 27 = .ok (.ireturn, 1) := by decide +kernel
theorem dX9_sets_0 : decode cX9_sets 0 = .ok (.aload_n 0, 1) := by decide +kernel
theorem dX9_sets_1 : decode cX9_sets 1 = .ok (.invokevirtual 55, 3) := by decide +kernel
theorem dX9_sets_4 : decode cX9_sets 4 = .ok (.aload_n 0, 1) := by decide +kernel
theorem dX9_sets_5 : decode cX9_sets 5 = .ok (.getfield 7, 3) := by decide +kernel
theorem dX9_sets_8 : decode cX9_sets 8 = .ok (.iload_n 1, 1) := by decide +kernel
theorem dX9_sets_9 : decode cX9_sets 9 = .ok (.iaload, 1) := by decide +kernel
theorem dX9_sets_10 : decode cX9_sets 10 = .ok (.istore_n 3, 1) := by decide +kernel
theorem dX9_sets_11 : decode cX9_sets 11 = .ok (.aload_n 0, 1) := by decide +kernel
theorem dX9_sets_12 : decode cX9_sets 12 = .ok (.getfield 7, 3) := by decide +kernel
theorem dX9_sets_15 : decode cX9_sets 15 = .ok (.iload_n 1, 1) := by decide +kernel
theorem dX9_sets_16 : decode cX9_sets 16 = .ok (.iload_n 2, 1) := by decide +kernel
theorem dX9_sets_17 : decode cX9_sets 17 = .ok (.iastore, 1) := by decide +kernel
theorem dX9_sets_18 : decode cX9_sets 18 = .ok (.iload_n 3, 1) := by decide +kernel
theorem dX9_sets_19 : decode cX9_sets 19 = .ok (.ireturn, 1) := by decide +kernel
theorem dX9_setColumn_0 : decode cX9_setColumn 0 = .ok (.aload_n 0, 1) := by decide +kernel
theorem dX9_setColumn_1 : decode cX9_setColumn 1 = .ok (.iload_n 1, 1) := by decide +kernel
theorem dX9_setColumn_2 : decode cX9_setColumn 2 = .ok (.bipush 30, 2) := by decide +kernel
theorem dX9_setColumn_4 : decode cX9_setColumn 4 = .ok (.bipush 100, 2) := by decide +kernel
theorem dX9_setColumn_6 : decode cX9_setColumn 6 = .ok (.invokestatic 47, 3) := by decide +kernel
theorem dX9_setColumn_9 : decode cX9_setColumn 9 = .ok (.iconst 1, 1) := by decide +kernel
theorem dX9_setColumn_10 : decode cX9_setColumn 10 = .ok (.iconst 1, 1) := by decide +kernel
theorem dX9_setColumn_11 : decode cX9_setColumn 11 = .ok (.invokevirtual 51, 3) := by decide +kernel
theorem dX9_setColumn_14 : decode cX9_setColumn 14 = .ok (.ifCond .eq 13, 3) := by decide +kernel
theorem dX9_setColumn_17 : decode cX9_setColumn 17 = .ok (.aload_n 0, 1) := by decide +kernel
theorem dX9_setColumn_18 : decode cX9_setColumn 18 = .ok (.bipush 81, 2) := by decide +kernel
theorem dX9_setColumn_20 : decode cX9_setColumn 20 = .ok (.iload_n 1, 1) := by decide +kernel
theorem dX9_setColumn_21 : decode cX9_setColumn 21 = .ok (.invokevirtual 66, 3) := by decide +kernel
theorem dX9_setColumn_24 : decode cX9_setColumn 24 = .ok (.goto 4, 3) := by decide +kernel
theorem dX9_setColumn_27 : decode cX9_setColumn 27 = .ok (.iconst 0, 1) := by decide +kernel
theorem dX9_setColumn_28 : decode cX9_setColumn 28 = .ok (.ireturn, 1) := by decide +kernel
theorem dX9_setSpace_0 : decode cX9_setSpace 0 = .ok (.aload_n 0, 1) := by decide +kernel
theorem dX9_setSpace_1 : decode cX9_setSpace 1 = .ok (.iload_n 1, 1) := by decide +kernel
theorem dX9_setSpace_2 : decode cX9_setSpace 2 = .ok (.iconst 1, 1) := by decide +kernel
theorem dX9_setSpace_3 : decode cX9_setSpace 3 = .ok (.iconst 5, 1) := by decide +kernel
theorem dX9_setSpace_4 : decode cX9_setSpace 4 = .ok (.invokestatic 47, 3) := by decide +kernel
theorem dX9_setSpace_7 : decode cX9_setSpace 7 = .ok (.iconst 1, 1) := by decide +kernel
theorem dX9_setSpace_8 : decode cX9_setSpace 8 = .ok (.iconst 1, 1) := by decide +kernel
theorem dX9_setSpace_9 : decode cX9_setSpace 9 = .ok (.invokevirtual 51, 3) := by decide +kernel
theorem dX9_setSpace_12 : decode cX9_setSpace 12 = .ok (.ifCond .eq 13, 3) := by decide +kernel
theorem dX9_setSpace_15 : decode cX9_setSpace 15 = .ok (.aload_n 0, 1) := by decide +kernel
theorem dX9_setSpace_16 : decode cX9_setSpace 16 = .ok (.bipush 82, 2) := by decide +kernel
theorem dX9_setSpace_18 : decode cX9_setSpace 18 = .ok (.iload_n 1, 1) := by decide +kernel
theorem dX9_setSpace_19 : decode cX9_setSpace 19 = .ok (.invokevirtual 66, 3) := by decide +kernel
theorem dX9_setSpace_22 : decode cX9_setSpace 22 = .ok (.goto 4, 3) := by decide +kernel
theorem dX9_setSpace_25 : decode cX9_setSpace 25 = .ok (.iconst 0, 1) := by decide +kernel
theorem dX9_setSpace_26 : decode cX9_setSpace 26 = .ok (.ireturn, 1) := by decide +kernel
theorem dX9_setPenalties_0 : decode cX9_setPenalties 0 = .ok (.aload_n 0, 1) := by decide +kernel
theorem dX9_setPenalties_1 : decode cX9_setPenalties 1 = .ok (.iload_n 1, 1) := by decide +kernel
theorem dX9_setPenalties_2 : decode cX9_setPenalties 2 = .ok (.iconst 1, 1) := by decide +kernel
theorem dX9_setPenalties_3 : decode cX9_setPenalties 3 = .ok (.bipush 20, 2) := by decide +kernel
theorem dX9_setPenalties_5 : decode cX9_setPenalties 5 = .ok (.invokestatic 47, 3) := by decide +kernel
theorem dX9_setPenalties_8 : decode cX9_setPenalties 8 = .ok (.ifCond .eq 29, 3) := by decide +kernel
theorem dX9_setPenalties_11 : decode cX9_setPenalties 11 = .ok (.iload_n 2, 1) := by decide +kernel
theorem dX9_setPenalties_12 : decode cX9_setPenalties 12 = .ok (.iconst 0, 1) := by decide +kernel
theorem dX9_setPenalties_13 : decode cX9_setPenalties 13 = .ok (.sipush 9999, 3) := by decide +kernel
theorem dX9_setPenalties_16 : decode cX9_setPenalties 16 = .ok (.invokestatic 47, 3) := by decide +kernel
theorem dX9_setPenalties_19 : decode cX9_setPenalties 19 = .ok (.ifCond .eq 18, 3) := by decide +kernel
theorem dX9_setPenalties_22 : decode cX9_setPenalties 22 = .ok (.iload_n 3, 1) := by decide +kernel
theorem dX9_setPenalties_23 : decode cX9_setPenalties 23 = .ok (.iconst 0, 1) := by decide +kernel
theorem dX9_setPenalties_24 : decode cX9_setPenalties 24 = .ok (.sipush 9999, 3) := by decide +kernel
theorem dX9_setPenalties_27 : decode cX9_setPenalties 27 = .ok (.invokestatic 47, 3) := by decide +kernel
theorem dX9_setPenalties_30 : decode cX9_setPenalties 30 = .ok (.ifCond .eq 7, 3) := by decide +kernel
theorem dX9_setPenalties_33 : decode cX9_setPenalties 33 = .ok (.iconst 1, 1) := by decide +kernel
theorem dX9_setPenalties_34 : decode cX9_setPenalties 34 = .ok (.goto 4, 3) := by decide +kernel
theorem dX9_setPenalties_37 : decode cX9_setPenalties 37 = .ok (.iconst 0, 1) := by decide +kernel
theorem dX9_setPenalties_38 : decode cX9_setPenalties 38 = .ok (.iconst 1, 1) := by decide +kernel
theorem dX9_setPenalties_39 : decode cX9_setPenalties 39 = .ok (.iconst 1, 1) := by decide +kernel
theorem dX9_setPenalties_40 : decode cX9_setPenalties 40 = .ok (.invokevirtual 51, 3) := by decide +kernel
theorem dX9_setPenalties_43 : decode cX9_setPenalties 43 = .ok (.ifCond .ne 5, 3) := by decide +kernel
theorem dX9_setPenalties_46 : decode cX9_setPenalties 46 = .ok (.iconst 0, 1) := by decide +kernel
theorem dX9_setPenalties_47 : decode cX9_setPenalties 47 = .ok (.ireturn, 1) := by decide +kernel
theorem dX9_setPenalties_48 : decode cX9_setPenalties 48 = .ok (.aload_n 0, 1) := by decide +kernel
theorem dX9_setPenalties_49 : decode cX9_setPenalties 49 = .ok (.bipush 83, 2) := by decide +kernel
theorem dX9_setPenalties_51 : decode cX9_setPenalties 51 = .ok (.iload_n 1, 1) := by decide +kernel
theorem dX9_setPenalties_52 : decode cX9_setPenalties 52 = .ok (.invokevirtual 66, 3) := by decide +kernel
theorem dX9_setPenalties_55 : decode cX9_setPenalties 55 = .ok (.istore 4, 2) := by decide +kernel
theorem dX9_setPenalties_57 : decode cX9_setPenalties 57 = .ok (.aload_n 0, 1) := by decide +kernel
theorem dX9_setPenalties_58 : decode cX9_setPenalties 58 = .ok (.getfield 7, 3) := by decide +kernel
theorem dX9_setPenalties_61 : decode cX9_setPenalties 61 = .ok (.bipush 84, 2) := by decide +kernel
theorem dX9_setPenalties_63 : decode cX9_setPenalties 63 = .ok (.iload_n 2, 1) := by decide +kernel
theorem dX9_setPenalties_64 : decode cX9_setPenalties 64 = .ok (.iastore, 1) := by decide +kernel
theorem dX9_setPenalties_65 : decode cX9_setPenalties 65 = .ok (.aload_n 0, 1) := by decide +kernel
theorem dX9_setPenalties_66 : decode cX9_setPenalties 66 = .ok (.getfield 7, 3) := by decide +kernel
theorem dX9_setPenalties_69 : decode cX9_setPenalties 69 = .ok (.bipush 85, 2) := by decide +kernel
theorem dX9_setPenalties_71 : decode cX9_setPenalties 71 = .ok (.iload_n 3, 1) := by decide +kernel
theorem dX9_setPenalties_72 : decode cX9_setPenalties 72 = .ok (.iastore, 1) := by decide +kernel
theorem dX9_setPenalties_73 : decode cX9_setPenalties 73 = .ok (.iload 4, 2) := by decide +kernel
theorem dX9_setPenalties_75 : decode cX9_setPenalties 75 = .ok (.ireturn, 1) := by decide +kernel
theorem dX9_setPage_0 : decode cX9_setPage 0 = .ok (.aload_n 0, 1) := by decide +kernel
theorem dX9_setPage_1 : decode cX9_setPage 1 = .ok (.iload_n 1, 1) := by decide +kernel
theorem dX9_setPage_2 : decode cX9_setPage 2 = .ok (.iconst 2, 1) := by decide +kernel
theorem dX9_setPage_3 : decode cX9_setPage 3 = .ok (.bipush 20, 2) := by decide +kernel
theorem dX9_setPage_5 : decode cX9_setPage 5 = .ok (.invokestatic 47, 3) := by decide +kernel
theorem dX9_setPage_8 : decode cX9_setPage 8 = .ok (.iconst 1, 1) := by decide +kernel
theorem dX9_setPage_9 : decode cX9_setPage 9 = .ok (.iconst 1, 1) := by decide +kernel
theorem dX9_setPage_10 : decode cX9_setPage 10 = .ok (.invokevirtual 51, 3) := by decide +kernel
theorem dX9_setPage_13 : decode cX9_setPage 13 = .ok (.ifCond .eq 13, 3) := by decide +kernel
theorem dX9_setPage_16 : decode cX9_setPage 16 = .ok (.aload_n 0, 1) := by decide +kernel
theorem dX9_setPage_17 : decode cX9_setPage 17 = .ok (.bipush 86, 2) := by decide +kernel
theorem dX9_setPage_19 : decode cX9_setPage 19 = .ok (.iload_n 1, 1) := by decide +kernel
theorem dX9_setPage_20 : decode cX9_setPage 20 = .ok (.invokevirtual 66, 3) := by decide +kernel
theorem dX9_setPage_23 : decode cX9_setPage 23 = .ok (.goto 4, 3) := by decide +kernel
theorem dX9_setPage_26 : decode cX9_setPage 26 = .ok (.iconst 0, 1) := by decide +kernel
theorem dX9_setPage_27 : decode cX9_setPage 27 = .ok (.ireturn, 1) := by decide +kernel
theorem dX9_setOptimal_0 : decode cX9_setOptimal 0 = .ok (.aload_n 0, 1) := by decide +kernel
theorem dX9_setOptimal_1 : decode cX9_setOptimal 1 = .ok (.iconst 0, 1) := by decide +kernel
theorem dX9_setOptimal_2 : decode cX9_setOptimal 2 = .ok (.putfield 36, 3) := by decide +kernel
theorem dX9_setOptimal_5 : decode cX9_setOptimal 5 = .ok (.aload_n 0, 1) := by decide +kernel
theorem dX9_setOptimal_6 : decode cX9_setOptimal 6 = .ok (.bipush 87, 2) := by decide +kernel
theorem dX9_setOptimal_8 : decode cX9_setOptimal 8 = .ok (.iload_n 1, 1) := by decide +kernel
theorem dX9_setOptimal_9 : decode cX9_setOptimal 9 = .ok (.ifCond .eq 7, 3) := by decide +kernel
theorem dX9_setOptimal_12 : decode cX9_setOptimal 12 = .ok (.iconst 1, 1) := by decide +kernel
theorem dX9_setOptimal_13 : decode cX9_setOptimal 13 = .ok (.goto 4, 3) := by decide +kernel
theorem dX9_setOptimal_16 : decode cX9_setOptimal 16 = .ok (.iconst 0, 1) := by decide +kernel
theorem dX9_setOptimal_17 : decode cX9_setOptimal 17 = .ok (.invokevirtual 66, 3) := by decide +kernel
theorem dX9_setOptimal_20 : decode cX9_setOptimal 20 = .ok (.iconst 1, 1) := by decide +kernel
theorem dX9_setOptimal_21 : decode cX9_setOptimal 21 = .ok (.if_icmp .ne 7, 3) := by decide +kernel
theorem dX9_setOptimal_24 : decode cX9_setOptimal 24 = .ok (.iconst 1, 1) := by decide +kernel
theorem dX9_setOptimal_25 : decode cX9_setOptimal 25 = .ok (.goto 4, 3) := by decide +kernel
theorem dX9_setOptimal_28 : decode cX9_setOptimal 28 = .ok (.iconst 0, 1) := by decide +kernel
theorem dX9_setOptimal_29 : decode cX9_setOptimal 29 = .ok (.ireturn, 1) := by decide +kernel
theorem dX9_width_0 : decode cX9_width 0 = .ok (.aload_n 0, 1) := by decide +kernel
theorem dX9_width_1 : decode cX9_width 1 = .ok (.getfield 21, 3) := by decide +kernel
theorem dX9_width_4 : decode cX9_width 4 = .ok (.iload_n 2, 1) := by decide +kernel
theorem dX9_width_5 : decode cX9_width 5 = .ok (.iaload, 1) := by decide +kernel
theorem dX9_width_6 : decode cX9_width 6 = .ok (.aload_n 0, 1) := by decide +kernel
theorem dX9_width_7 : decode cX9_width 7 = .ok (.getfield 21, 3) := by decide +kernel
theorem dX9_width_10 : decode cX9_width 10 = .ok (.iload_n 1, 1) := by decide +kernel
theorem dX9_width_11 : decode cX9_width 11 = .ok (.iaload, 1) := by decide +kernel
theorem dX9_width_12 : decode cX9_width 12 = .ok (.isub, 1) := by decide +kernel
theorem dX9_width_13 : decode cX9_width 13 = .ok (.aload_n 0, 1) := by decide +kernel
theorem dX9_width_14 : decode cX9_width 14 = .ok (.getfield 7, 3) := by decide +kernel
theorem dX9_width_17 : decode cX9_width 17 = .ok (.bipush 82, 2) := by decide +kernel
theorem dX9_width_19 : decode cX9_width 19 = .ok (.iaload, 1) := by decide +kernel
theorem dX9_width_20 : decode cX9_width 20 = .ok (.iload_n 2, 1) := by decide +kernel
theorem dX9_width_21 : decode cX9_width 21 = .ok (.iload_n 1, 1) := by decide +kernel
theorem dX9_width_22 : decode cX9_width 22 = .ok (.isub, 1) := by decide +kernel
theorem dX9_width_23 : decode cX9_width 23 = .ok (.iconst 1, 1) := by decide +kernel
theorem dX9_width_24 : decode cX9_width 24 = .ok (.isub, 1) := by decide +kernel
theorem dX9_width_25 : decode cX9_width 25 = .ok (.imul, 1) := by decide +kernel
theorem dX9_width_26 : decode cX9_width 26 = .ok (.iadd, 1) := by decide +kernel
theorem dX9_width_27 : decode cX9_width 27 = .ok (.ireturn, 1) := by decide +kernel
theorem dX9_sums_0 : decode cX9_sums 0 = .ok (.iconst 0, 1) := by decide +kernel
theorem dX9_sums_1 : decode cX9_sums 1 = .ok (.istore_n 1, 1) := by decide +kernel
theorem dX9_sums_2 : decode cX9_sums 2 = .ok (.iload_n 1, 1) := by decide +kernel
theorem dX9_sums_3 : decode cX9_sums 3 = .ok (.aload_n 0, 1) := by decide +kernel
theorem dX9_sums_4 : decode cX9_sums 4 = .ok (.getfield 7, 3) := by decide +kernel
theorem dX9_sums_7 : decode cX9_sums 7 = .ok (.bipush 80, 2) := by decide +kernel
theorem dX9_sums_9 : decode cX9_sums 9 = .ok (.iaload, 1) := by decide +kernel
theorem dX9_sums_10 : decode cX9_sums 10 = .ok (.if_icmp .ge 30, 3) := by decide +kernel
theorem dX9_sums_13 : decode cX9_sums 13 = .ok (.aload_n 0, 1) := by decide +kernel
theorem dX9_sums_14 : decode cX9_sums 14 = .ok (.getfield 21, 3) := by decide +kernel
theorem dX9_sums_17 : decode cX9_sums 17 = .ok (.iload_n 1, 1) := by decide +kernel
theorem dX9_sums_18 : decode cX9_sums 18 = .ok (.iconst 1, 1) := by decide +kernel
theorem dX9_sums_19 : decode cX9_sums 19 = .ok (.iadd, 1) := by decide +kernel
theorem dX9_sums_20 : decode cX9_sums 20 = .ok (.aload_n 0, 1) := by decide +kernel
theorem dX9_sums_21 : decode cX9_sums 21 = .ok (.getfield 21, 3) := by decide +kernel
theorem dX9_sums_24 : decode cX9_sums 24 = .ok (.iload_n 1, 1) := by decide +kernel
theorem dX9_sums_25 : decode cX9_sums 25 = .ok (.iaload, 1) := by decide +kernel
theorem dX9_sums_26 : decode cX9_sums 26 = .ok (.aload_n 0, 1) := by decide +kernel
theorem dX9_sums_27 : decode cX9_sums 27 = .ok (.getfield 7, 3) := by decide +kernel
theorem dX9_sums_30 : decode cX9_sums 30 = .ok (.iload_n 1, 1) := by decide +kernel
theorem dX9_sums_31 : decode cX9_sums 31 = .ok (.iaload, 1) := by decide +kernel
theorem dX9_sums_32 : decode cX9_sums 32 = .ok (.iadd, 1) := by decide +kernel
theorem dX9_sums_33 : decode cX9_sums 33 = .ok (.iastore, 1) := by decide +kernel
theorem dX9_sums_34 : decode cX9_sums 34 = .ok (.iinc 1 1, 3) := by decide +kernel
theorem dX9_sums_37 : decode cX9_sums 37 = .ok (.goto (-35), 3) := by decide +kernel
theorem dX9_sums_40 : decode cX9_sums 40 = .ok (.return_, 1) := by decide +kernel
theorem dX9_paragraphEnd_0 : decode cX9_paragraphEnd 0 = .ok (.iload_n 1, 1) := by decide +kernel
theorem dX9_paragraphEnd_1 : decode cX9_paragraphEnd 1 = .ok (.istore_n 2, 1) := by decide +kernel
theorem dX9_paragraphEnd_2 : decode cX9_paragraphEnd 2 = .ok (.iload_n 2, 1) := by decide +kernel
theorem dX9_paragraphEnd_3 : decode cX9_paragraphEnd 3 = .ok (.aload_n 0, 1) := by decide +kernel
theorem dX9_paragraphEnd_4 : decode cX9_paragraphEnd 4 = .ok (.getfield 7, 3) := by decide +kernel
theorem dX9_paragraphEnd_7 : decode cX9_paragraphEnd 7 = .ok (.bipush 80, 2) := by decide +kernel
theorem dX9_paragraphEnd_9 : decode cX9_paragraphEnd 9 = .ok (.iaload, 1) := by decide +kernel
theorem dX9_paragraphEnd_10 : decode cX9_paragraphEnd 10 = .ok (.iconst 1, 1) := by decide +kernel
theorem dX9_paragraphEnd_11 : decode cX9_paragraphEnd 11 = .ok (.isub, 1) := by decide +kernel
theorem dX9_paragraphEnd_12 : decode cX9_paragraphEnd 12 = .ok (.if_icmp .ge 22, 3) := by decide +kernel
theorem dX9_paragraphEnd_15 : decode cX9_paragraphEnd 15 = .ok (.aload_n 0, 1) := by decide +kernel
theorem dX9_paragraphEnd_16 : decode cX9_paragraphEnd 16 = .ok (.getfield 7, 3) := by decide +kernel
theorem dX9_paragraphEnd_19 : decode cX9_paragraphEnd 19 = .ok (.bipush 40, 2) := by decide +kernel
theorem dX9_paragraphEnd_21 : decode cX9_paragraphEnd 21 = .ok (.iload_n 2, 1) := by decide +kernel
theorem dX9_paragraphEnd_22 : decode cX9_paragraphEnd 22 = .ok (.iadd, 1) := by decide +kernel
theorem dX9_paragraphEnd_23 : decode cX9_paragraphEnd 23 = .ok (.iaload, 1) := by decide +kernel
theorem dX9_paragraphEnd_24 : decode cX9_paragraphEnd 24 = .ok (.iconst 2, 1) := by decide +kernel
theorem dX9_paragraphEnd_25 : decode cX9_paragraphEnd 25 = .ok (.if_icmp .eq 9, 3) := by decide +kernel
theorem dX9_paragraphEnd_28 : decode cX9_paragraphEnd 28 = .ok (.iinc 2 1, 3) := by decide +kernel
theorem dX9_paragraphEnd_31 : decode cX9_paragraphEnd 31 = .ok (.goto (-29), 3) := by decide +kernel
theorem dX9_paragraphEnd_34 : decode cX9_paragraphEnd 34 = .ok (.iload_n 2, 1) := by decide +kernel
theorem dX9_paragraphEnd_35 : decode cX9_paragraphEnd 35 = .ok (.iconst 1, 1) := by decide +kernel
theorem dX9_paragraphEnd_36 : decode cX9_paragraphEnd 36 = .ok (.iadd, 1) := by decide +kernel
theorem dX9_paragraphEnd_37 : decode cX9_paragraphEnd 37 = .ok (.ireturn, 1) := by decide +kernel
theorem dX9_goesOn_0 : decode cX9_goesOn 0 = .ok (.aload_n 0, 1) := by decide +kernel
theorem dX9_goesOn_1 : decode cX9_goesOn 1 = .ok (.getfield 7, 3) := by decide +kernel
theorem dX9_goesOn_4 : decode cX9_goesOn 4 = .ok (.bipush 40, 2) := by decide +kernel
theorem dX9_goesOn_6 : decode cX9_goesOn 6 = .ok (.iload_n 2, 1) := by decide +kernel
theorem dX9_goesOn_7 : decode cX9_goesOn 7 = .ok (.iadd, 1) := by decide +kernel
theorem dX9_goesOn_8 : decode cX9_goesOn 8 = .ok (.iconst 1, 1) := by decide +kernel
theorem dX9_goesOn_9 : decode cX9_goesOn 9 = .ok (.isub, 1) := by decide +kernel
theorem dX9_goesOn_10 : decode cX9_goesOn 10 = .ok (.iaload, 1) := by decide +kernel
theorem dX9_goesOn_11 : decode cX9_goesOn 11 = .ok (.iconst 1, 1) := by decide +kernel
theorem dX9_goesOn_12 : decode cX9_goesOn 12 = .ok (.if_icmp .eq 19, 3) := by decide +kernel
theorem dX9_goesOn_15 : decode cX9_goesOn 15 = .ok (.aload_n 0, 1) := by decide +kernel
theorem dX9_goesOn_16 : decode cX9_goesOn 16 = .ok (.iload_n 1, 1) := by decide +kernel
theorem dX9_goesOn_17 : decode cX9_goesOn 17 = .ok (.iload_n 2, 1) := by decide +kernel
theorem dX9_goesOn_18 : decode cX9_goesOn 18 = .ok (.iconst 1, 1) := by decide +kernel
theorem dX9_goesOn_19 : decode cX9_goesOn 19 = .ok (.iadd, 1) := by decide +kernel
theorem dX9_goesOn_20 : decode cX9_goesOn 20 = .ok (.invokevirtual 70, 3) := by decide +kernel
theorem dX9_goesOn_23 : decode cX9_goesOn 23 = .ok (.iload_n 3, 1) := by decide +kernel
theorem dX9_goesOn_24 : decode cX9_goesOn 24 = .ok (.if_icmp .gt 7, 3) := by decide +kernel
theorem dX9_goesOn_27 : decode cX9_goesOn 27 = .ok (.iconst 1, 1) := by decide +kernel
theorem dX9_goesOn_28 : decode cX9_goesOn 28 = .ok (.goto 4, 3) := by decide +kernel
theorem dX9_goesOn_31 : decode cX9_goesOn 31 = .ok (.iconst 0, 1) := by decide +kernel
theorem dX9_goesOn_32 : decode cX9_goesOn 32 = .ok (.ireturn, 1) := by decide +kernel
theorem dX9_trend_0 : decode cX9_trend 0 = .ok (.iload_n 2, 1) := by decide +kernel
theorem dX9_trend_1 : decode cX9_trend 1 = .ok (.iload_n 1, 1) := by decide +kernel
theorem dX9_trend_2 : decode cX9_trend 2 = .ok (.aload_n 0, 1) := by decide +kernel
theorem dX9_trend_3 : decode cX9_trend 3 = .ok (.getfield 7, 3) := by decide +kernel
theorem dX9_trend_6 : decode cX9_trend 6 = .ok (.bipush 83, 2) := by decide +kernel
theorem dX9_trend_8 : decode cX9_trend 8 = .ok (.iaload, 1) := by decide +kernel
theorem dX9_trend_9 : decode cX9_trend 9 = .ok (.isub, 1) := by decide +kernel
theorem dX9_trend_10 : decode cX9_trend 10 = .ok (.if_icmp .gt 7, 3) := by decide +kernel
theorem dX9_trend_13 : decode cX9_trend 13 = .ok (.iconst 0, 1) := by decide +kernel
theorem dX9_trend_14 : decode cX9_trend 14 = .ok (.goto 21, 3) := by decide +kernel
theorem dX9_trend_17 : decode cX9_trend 17 = .ok (.iload_n 2, 1) := by decide +kernel
theorem dX9_trend_18 : decode cX9_trend 18 = .ok (.iload_n 1, 1) := by decide +kernel
theorem dX9_trend_19 : decode cX9_trend 19 = .ok (.aload_n 0, 1) := by decide +kernel
theorem dX9_trend_20 : decode cX9_trend 20 = .ok (.getfield 7, 3) := by decide +kernel
theorem dX9_trend_23 : decode cX9_trend 23 = .ok (.bipush 83, 2) := by decide +kernel
theorem dX9_trend_25 : decode cX9_trend 25 = .ok (.iaload, 1) := by decide +kernel
theorem dX9_trend_26 : decode cX9_trend 26 = .ok (.iadd, 1) := by decide +kernel
theorem dX9_trend_27 : decode cX9_trend 27 = .ok (.if_icmp .lt 7, 3) := by decide +kernel
theorem dX9_trend_30 : decode cX9_trend 30 = .ok (.iconst 2, 1) := by decide +kernel
theorem dX9_trend_31 : decode cX9_trend 31 = .ok (.goto 4, 3) := by decide +kernel
theorem dX9_trend_34 : decode cX9_trend 34 = .ok (.iconst 1, 1) := by decide +kernel
theorem dX9_trend_35 : decode cX9_trend 35 = .ok (.ireturn, 1) := by decide +kernel
theorem dX9_at_0 : decode cX9_at 0 = .ok (.iconst 3, 1) := by decide +kernel
theorem dX9_at_1 : decode cX9_at 1 = .ok (.bipush 41, 2) := by decide +kernel
theorem dX9_at_3 : decode cX9_at 3 = .ok (.iload_n 0, 1) := by decide +kernel
theorem dX9_at_4 : decode cX9_at 4 = .ok (.imul, 1) := by decide +kernel
theorem dX9_at_5 : decode cX9_at 5 = .ok (.iload_n 1, 1) := by decide +kernel
theorem dX9_at_6 : decode cX9_at 6 = .ok (.iadd, 1) := by decide +kernel
theorem dX9_at_7 : decode cX9_at 7 = .ok (.imul, 1) := by decide +kernel
theorem dX9_at_8 : decode cX9_at 8 = .ok (.iload_n 2, 1) := by decide +kernel
theorem dX9_at_9 : decode cX9_at 9 = .ok (.iadd, 1) := by decide +kernel
theorem dX9_at_10 : decode cX9_at 10 = .ok (.ireturn, 1) := by decide +kernel
theorem dX9_chooses_0 : decode cX9_chooses 0 = .ok (.iconst (-1), 1) := by decide +kernel
theorem dX9_chooses_1 : decode cX9_chooses 1 = .ok (.istore 7, 2) := by decide +kernel
theorem dX9_chooses_3 : decode cX9_chooses 3 = .ok (.iload_n 3, 1) := by decide +kernel
theorem dX9_chooses_4 : decode cX9_chooses 4 = .ok (.iconst 1, 1) := by decide +kernel
theorem dX9_chooses_5 : decode cX9_chooses 5 = .ok (.iadd, 1) := by decide +kernel
theorem dX9_chooses_6 : decode cX9_chooses 6 = .ok (.istore 8, 2) := by decide +kernel
theorem dX9_chooses_8 : decode cX9_chooses 8 = .ok (.iload 8, 2) := by decide +kernel
theorem dX9_chooses_10 : decode cX9_chooses 10 = .ok (.iload 5, 2) := by decide +kernel
theorem dX9_chooses_12 : decode cX9_chooses 12 = .ok (.if_icmp .gt 277, 3) := by decide +kernel
theorem dX9_chooses_15 : decode cX9_chooses 15 = .ok (.iload 8, 2) := by decide +kernel
theorem dX9_chooses_17 : decode cX9_chooses 17 = .ok (.iload_n 3, 1) := by decide +kernel
theorem dX9_chooses_18 : decode cX9_chooses 18 = .ok (.iconst 1, 1) := by decide +kernel
theorem dX9_chooses_19 : decode cX9_chooses 19 = .ok (.iadd, 1) := by decide +kernel
theorem dX9_chooses_20 : decode cX9_chooses 20 = .ok (.if_icmp .eq 17, 3) := by decide +kernel
theorem dX9_chooses_23 : decode cX9_chooses 23 = .ok (.aload_n 0, 1) := by decide +kernel
theorem dX9_chooses_24 : decode cX9_chooses 24 = .ok (.iload_n 3, 1) := by decide +kernel
theorem dX9_chooses_25 : decode cX9_chooses 25 = .ok (.iload 8, 2) := by decide +kernel
theorem dX9_chooses_27 : decode cX9_chooses 27 = .ok (.iconst 1, 1) := by decide +kernel
theorem dX9_chooses_28 : decode cX9_chooses 28 = .ok (.isub, 1) := by decide +kernel
theorem dX9_chooses_29 : decode cX9_chooses 29 = .ok (.iload 6, 2) := by decide +kernel
theorem dX9_chooses_31 : decode cX9_chooses 31 = .ok (.invokevirtual 73, 3) := by decide +kernel
theorem dX9_chooses_34 : decode cX9_chooses 34 = .ok (.ifCond .eq 255, 3) := by decide +kernel
theorem dX9_chooses_37 : decode cX9_chooses 37 = .ok (.aload_n 0, 1) := by decide +kernel
theorem dX9_chooses_38 : decode cX9_chooses 38 = .ok (.iload_n 3, 1) := by decide +kernel
theorem dX9_chooses_39 : decode cX9_chooses 39 = .ok (.iload 8, 2) := by decide +kernel
theorem dX9_chooses_41 : decode cX9_chooses 41 = .ok (.invokevirtual 70, 3) := by decide +kernel
theorem dX9_chooses_44 : decode cX9_chooses 44 = .ok (.istore 9, 2) := by decide +kernel
theorem dX9_chooses_46 : decode cX9_chooses 46 = .ok (.iconst 0, 1) := by decide +kernel
theorem dX9_chooses_47 : decode cX9_chooses 47 = .ok (.istore 10, 2) := by decide +kernel
theorem dX9_chooses_49 : decode cX9_chooses 49 = .ok (.iconst 1, 1) := by decide +kernel
theorem dX9_chooses_50 : decode cX9_chooses 50 = .ok (.istore 11, 2) := by decide +kernel
theorem dX9_chooses_52 : decode cX9_chooses 52 = .ok (.iload 8, 2) := by decide +kernel
theorem dX9_chooses_54 : decode cX9_chooses 54 = .ok (.iload 5, 2) := by decide +kernel
theorem dX9_chooses_56 : decode cX9_chooses 56 = .ok (.if_icmp .ne 33, 3) := by decide +kernel
theorem dX9_chooses_59 : decode cX9_chooses 59 = .ok (.iload_n 2, 1) := by decide +kernel
theorem dX9_chooses_60 : decode cX9_chooses 60 = .ok (.iconst (-1), 1) := by decide +kernel
theorem dX9_chooses_61 : decode cX9_chooses 61 = .ok (.if_icmp .eq 22, 3) := by decide +kernel
theorem dX9_chooses_64 : decode cX9_chooses 64 = .ok (.iconst 4, 1) := by decide +kernel
theorem dX9_chooses_65 : decode cX9_chooses 65 = .ok (.iload 9, 2) := by decide +kernel
theorem dX9_chooses_67 : decode cX9_chooses 67 = .ok (.imul, 1) := by decide +kernel
theorem dX9_chooses_68 : decode cX9_chooses 68 = .ok (.iload 6, 2) := by decide +kernel
theorem dX9_chooses_70 : decode cX9_chooses 70 = .ok (.if_icmp .ge 13, 3) := by decide +kernel
theorem dX9_chooses_73 : decode cX9_chooses 73 = .ok (.aload_n 0, 1) := by decide +kernel
theorem dX9_chooses_74 : decode cX9_chooses 74 = .ok (.getfield 7, 3) := by decide +kernel
theorem dX9_chooses_77 : decode cX9_chooses 77 = .ok (.bipush 85, 2) := by decide +kernel
theorem dX9_chooses_79 : decode cX9_chooses 79 = .ok (.iaload, 1) := by decide +kernel
theorem dX9_chooses_80 : decode cX9_chooses 80 = .ok (.goto 4, 3) := by decide +kernel
theorem dX9_chooses_83 : decode cX9_chooses 83 = .ok (.iconst 0, 1) := by decide +kernel
theorem dX9_chooses_84 : decode cX9_chooses 84 = .ok (.istore 10, 2) := by decide +kernel
theorem dX9_chooses_86 : decode cX9_chooses 86 = .ok (.goto 93, 3) := by decide +kernel
theorem dX9_chooses_89 : decode cX9_chooses 89 = .ok (.iload_n 2, 1) := by decide +kernel
theorem dX9_chooses_90 : decode cX9_chooses 90 = .ok (.iconst (-1), 1) := by decide +kernel
theorem dX9_chooses_91 : decode cX9_chooses 91 = .ok (.if_icmp .ne 7, 3) := by decide +kernel
theorem dX9_chooses_94 : decode cX9_chooses 94 = .ok (.iconst 1, 1) := by decide +kernel
theorem dX9_chooses_95 : decode cX9_chooses 95 = .ok (.goto 15, 3) := by decide +kernel
theorem dX9_chooses_98 : decode cX9_chooses 98 = .ok (.aload_n 0, 1) := by decide +kernel
theorem dX9_chooses_99 : decode cX9_chooses 99 = .ok (.aload_n 0, 1) := by decide +kernel
theorem dX9_chooses_100 : decode cX9_chooses 100 = .ok (.iload_n 2, 1) := by decide +kernel
theorem dX9_chooses_101 : decode cX9_chooses 101 = .ok (.iload_n 3, 1) := by decide +kernel
theorem dX9_chooses_102 : decode cX9_chooses 102 = .ok (.invokevirtual 70, 3) := by decide +kernel
theorem dX9_chooses_105 : decode cX9_chooses 105 = .ok (.iload 9, 2) := by decide +kernel
theorem dX9_chooses_107 : decode cX9_chooses 107 = .ok (.invokevirtual 76, 3) := by decide +kernel
theorem dX9_chooses_110 : decode cX9_chooses 110 = .ok (.istore 12, 2) := by decide +kernel
theorem dX9_chooses_112 : decode cX9_chooses 112 = .ok (.iload_n 3, 1) := by decide +kernel
theorem dX9_chooses_113 : decode cX9_chooses 113 = .ok (.iload 8, 2) := by decide +kernel
theorem dX9_chooses_115 : decode cX9_chooses 115 = .ok (.iload 12, 2) := by decide +kernel
theorem dX9_chooses_117 : decode cX9_chooses 117 = .ok (.invokestatic 79, 3) := by decide +kernel
theorem dX9_chooses_120 : decode cX9_chooses 120 = .ok (.istore 13, 2) := by decide +kernel
theorem dX9_chooses_122 : decode cX9_chooses 122 = .ok (.iload 6, 2) := by decide +kernel
theorem dX9_chooses_124 : decode cX9_chooses 124 = .ok (.iload 9, 2) := by decide +kernel
theorem dX9_chooses_126 : decode cX9_chooses 126 = .ok (.isub, 1) := by decide +kernel
theorem dX9_chooses_127 : decode cX9_chooses 127 = .ok (.iload 6, 2) := by decide +kernel
theorem dX9_chooses_129 : decode cX9_chooses 129 = .ok (.iload 9, 2) := by decide +kernel
theorem dX9_chooses_131 : decode cX9_chooses 131 = .ok (.isub, 1) := by decide +kernel
theorem dX9_chooses_132 : decode cX9_chooses 132 = .ok (.imul, 1) := by decide +kernel
theorem dX9_chooses_133 : decode cX9_chooses 133 = .ok (.iload 4, 2) := by decide +kernel
theorem dX9_chooses_135 : decode cX9_chooses 135 = .ok (.iconst 1, 1) := by decide +kernel
theorem dX9_chooses_136 : decode cX9_chooses 136 = .ok (.if_icmp .eq 20, 3) := by decide +kernel
theorem dX9_chooses_139 : decode cX9_chooses 139 = .ok (.iload 12, 2) := by decide +kernel
theorem dX9_chooses_141 : decode cX9_chooses 141 = .ok (.iload 4, 2) := by decide +kernel
theorem dX9_chooses_143 : decode cX9_chooses 143 = .ok (.if_icmp .ne 13, 3) := by decide +kernel
theorem dX9_chooses_146 : decode cX9_chooses 146 = .ok (.aload_n 0, 1) := by decide +kernel
theorem dX9_chooses_147 : decode cX9_chooses 147 = .ok (.getfield 7, 3) := by decide +kernel
theorem dX9_chooses_150 : decode cX9_chooses 150 = .ok (.bipush 84, 2) := by decide +kernel
theorem dX9_chooses_152 : decode cX9_chooses 152 = .ok (.iaload, 1) := by decide +kernel
theorem dX9_chooses_153 : decode cX9_chooses 153 = .ok (.goto 4, 3) := by decide +kernel
theorem dX9_chooses_156 : decode cX9_chooses 156 = .ok (.iconst 0, 1) := by decide +kernel
theorem dX9_chooses_157 : decode cX9_chooses 157 = .ok (.iadd, 1) := by decide +kernel
theorem dX9_chooses_158 : decode cX9_chooses 158 = .ok (.aload_n 0, 1) := by decide +kernel
theorem dX9_chooses_159 : decode cX9_chooses 159 = .ok (.getfield 24, 3) := by decide +kernel
theorem dX9_chooses_162 : decode cX9_chooses 162 = .ok (.iload 13, 2) := by decide +kernel
theorem dX9_chooses_164 : decode cX9_chooses 164 = .ok (.iaload, 1) := by decide +kernel
theorem dX9_chooses_165 : decode cX9_chooses 165 = .ok (.iadd, 1) := by decide +kernel
theorem dX9_chooses_166 : decode cX9_chooses 166 = .ok (.istore 10, 2) := by decide +kernel
theorem dX9_chooses_168 : decode cX9_chooses 168 = .ok (.iconst 1, 1) := by decide +kernel
theorem dX9_chooses_169 : decode cX9_chooses 169 = .ok (.aload_n 0, 1) := by decide +kernel
theorem dX9_chooses_170 : decode cX9_chooses 170 = .ok (.getfield 27, 3) := by decide +kernel
theorem dX9_chooses_173 : decode cX9_chooses 173 = .ok (.iload 13, 2) := by decide +kernel
theorem dX9_chooses_175 : decode cX9_chooses 175 = .ok (.iaload, 1) := by decide +kernel
theorem dX9_chooses_176 : decode cX9_chooses 176 = .ok (.iadd, 1) := by decide +kernel
theorem dX9_chooses_177 : decode cX9_chooses 177 = .ok (.istore 11, 2) := by decide +kernel
theorem dX9_chooses_179 : decode cX9_chooses 179 = .ok (.iload 7, 2) := by decide +kernel
theorem dX9_chooses_181 : decode cX9_chooses 181 = .ok (.iconst (-1), 1) := by decide +kernel
theorem dX9_chooses_182 : decode cX9_chooses 182 = .ok (.if_icmp .eq 36, 3) := by decide +kernel
theorem dX9_chooses_185 : decode cX9_chooses 185 = .ok (.iload 10, 2) := by decide +kernel
theorem dX9_chooses_187 : decode cX9_chooses 187 = .ok (.aload_n 0, 1) := by decide +kernel
theorem dX9_chooses_188 : decode cX9_chooses 188 = .ok (.getfield 24, 3) := by decide +kernel
theorem dX9_chooses_191 : decode cX9_chooses 191 = .ok (.iload_n 1, 1) := by decide +kernel
theorem dX9_chooses_192 : decode cX9_chooses 192 = .ok (.iaload, 1) := by decide +kernel
theorem dX9_chooses_193 : decode cX9_chooses 193 = .ok (.if_icmp .lt 25, 3) := by decide +kernel
theorem dX9_chooses_196 : decode cX9_chooses 196 = .ok (.iload 10, 2) := by decide +kernel
theorem dX9_chooses_198 : decode cX9_chooses 198 = .ok (.aload_n 0, 1) := by decide +kernel
theorem dX9_chooses_199 : decode cX9_chooses 199 = .ok (.getfield 24, 3) := by decide +kernel
theorem dX9_chooses_202 : decode cX9_chooses 202 = .ok (.iload_n 1, 1) := by decide +kernel
theorem dX9_chooses_203 : decode cX9_chooses 203 = .ok (.iaload, 1) := by decide +kernel
theorem dX9_chooses_204 : decode cX9_chooses 204 = .ok (.if_icmp .ne 18, 3) := by decide +kernel
theorem dX9_chooses_207 : decode cX9_chooses 207 = .ok (.iload 11, 2) := by decide +kernel
theorem dX9_chooses_209 : decode cX9_chooses 209 = .ok (.aload_n 0, 1) := by decide +kernel
theorem dX9_chooses_210 : decode cX9_chooses 210 = .ok (.getfield 27, 3) := by decide +kernel
theorem dX9_chooses_213 : decode cX9_chooses 213 = .ok (.iload_n 1, 1) := by decide +kernel
theorem dX9_chooses_214 : decode cX9_chooses 214 = .ok (.iaload, 1) := by decide +kernel
theorem dX9_chooses_215 : decode cX9_chooses 215 = .ok (.if_icmp .gt 7, 3) := by decide +kernel
theorem dX9_chooses_218 : decode cX9_chooses 218 = .ok (.iconst 1, 1) := by decide +kernel
theorem dX9_chooses_219 : decode cX9_chooses 219 = .ok (.goto 4, 3) := by decide +kernel
theorem dX9_chooses_222 : decode cX9_chooses 222 = .ok (.iconst 0, 1) := by decide +kernel
theorem dX9_chooses_223 : decode cX9_chooses 223 = .ok (.istore 12, 2) := by decide +kernel
theorem dX9_chooses_225 : decode cX9_chooses 225 = .ok (.iload 12, 2) := by decide +kernel
theorem dX9_chooses_227 : decode cX9_chooses 227 = .ok (.ifCond .eq 8, 3) := by decide +kernel
theorem dX9_chooses_230 : decode cX9_chooses 230 = .ok (.iload 8, 2) := by decide +kernel
theorem dX9_chooses_232 : decode cX9_chooses 232 = .ok (.goto 5, 3) := by decide +kernel
theorem dX9_chooses_235 : decode cX9_chooses 235 = .ok (.iload 7, 2) := by decide +kernel
theorem dX9_chooses_237 : decode cX9_chooses 237 = .ok (.istore 7, 2) := by decide +kernel
theorem dX9_chooses_239 : decode cX9_chooses 239 = .ok (.aload_n 0, 1) := by decide +kernel
theorem dX9_chooses_240 : decode cX9_chooses 240 = .ok (.getfield 24, 3) := by decide +kernel
theorem dX9_chooses_243 : decode cX9_chooses 243 = .ok (.iload_n 1, 1) := by decide +kernel
theorem dX9_chooses_244 : decode cX9_chooses 244 = .ok (.iload 12, 2) := by decide +kernel
theorem dX9_chooses_246 : decode cX9_chooses 246 = .ok (.ifCond .eq 8, 3) := by decide +kernel
theorem dX9_chooses_249 : decode cX9_chooses 249 = .ok (.iload 10, 2) := by decide +kernel
theorem dX9_chooses_251 : decode cX9_chooses 251 = .ok (.goto 9, 3) := by decide +kernel
theorem dX9_chooses_254 : decode cX9_chooses 254 = .ok (.aload_n 0, 1) := by decide +kernel
theorem dX9_chooses_255 : decode cX9_chooses 255 = .ok (.getfield 24, 3) := by decide +kernel
theorem dX9_chooses_258 : decode cX9_chooses 258 = .ok (.iload_n 1, 1) := by decide +kernel
theorem dX9_chooses_259 : decode cX9_chooses 259 = .ok (.iaload, 1) := by decide +kernel
theorem dX9_chooses_260 : decode cX9_chooses 260 = .ok (.iastore, 1) := by decide +kernel
theorem dX9_chooses_261 : decode cX9_chooses 261 = .ok (.aload_n 0, 1) := by decide +kernel
theorem dX9_chooses_262 : decode cX9_chooses 262 = .ok (.getfield 27, 3) := by decide +kernel
theorem dX9_chooses_265 : decode cX9_chooses 265 = .ok (.iload_n 1, 1) := by decide +kernel
theorem dX9_chooses_266 : decode cX9_chooses 266 = .ok (.iload 12, 2) := by decide +kernel
theorem dX9_chooses_268 : decode cX9_chooses 268 = .ok (.ifCond .eq 8, 3) := by decide +kernel
theorem dX9_chooses_271 : decode cX9_chooses 271 = .ok (.iload 11, 2) := by decide +kernel
theorem dX9_chooses_273 : decode cX9_chooses 273 = .ok (.goto 9, 3) := by decide +kernel
theorem dX9_chooses_276 : decode cX9_chooses 276 = .ok (.aload_n 0, 1) := by decide +kernel
theorem dX9_chooses_277 : decode cX9_chooses 277 = .ok (.getfield 27, 3) := by decide +kernel
theorem dX9_chooses_280 : decode cX9_chooses 280 = .ok (.iload_n 1, 1) := by decide +kernel
theorem dX9_chooses_281 : decode cX9_chooses 281 = .ok (.iaload, 1) := by decide +kernel
theorem dX9_chooses_282 : decode cX9_chooses 282 = .ok (.iastore, 1) := by decide +kernel
theorem dX9_chooses_283 : decode cX9_chooses 283 = .ok (.iinc 8 1, 3) := by decide +kernel
theorem dX9_chooses_286 : decode cX9_chooses 286 = .ok (.goto (-278), 3) := by decide +kernel
theorem dX9_chooses_289 : decode cX9_chooses 289 = .ok (.aload_n 0, 1) := by decide +kernel
theorem dX9_chooses_290 : decode cX9_chooses 290 = .ok (.getfield 30, 3) := by decide +kernel
theorem dX9_chooses_293 : decode cX9_chooses 293 = .ok (.iload_n 1, 1) := by decide +kernel
theorem dX9_chooses_294 : decode cX9_chooses 294 = .ok (.iload 7, 2) := by decide +kernel
theorem dX9_chooses_296 : decode cX9_chooses 296 = .ok (.iastore, 1) := by decide +kernel
theorem dX9_chooses_297 : decode cX9_chooses 297 = .ok (.return_, 1) := by decide +kernel
theorem dX9_laysBest_0 : decode cX9_laysBest 0 = .ok (.iload_n 2, 1) := by decide +kernel
theorem dX9_laysBest_1 : decode cX9_laysBest 1 = .ok (.iconst 1, 1) := by decide +kernel
theorem dX9_laysBest_2 : decode cX9_laysBest 2 = .ok (.isub, 1) := by decide +kernel
theorem dX9_laysBest_3 : decode cX9_laysBest 3 = .ok (.istore 4, 2) := by decide +kernel
theorem dX9_laysBest_5 : decode cX9_laysBest 5 = .ok (.iload 4, 2) := by decide +kernel
theorem dX9_laysBest_7 : decode cX9_laysBest 7 = .ok (.iload_n 1, 1) := by decide +kernel
theorem dX9_laysBest_8 : decode cX9_laysBest 8 = .ok (.if_icmp .le 114, 3) := by decide +kernel
theorem dX9_laysBest_11 : decode cX9_laysBest 11 = .ok (.iconst 1, 1) := by decide +kernel
theorem dX9_laysBest_12 : decode cX9_laysBest 12 = .ok (.istore 5, 2) := by decide +kernel
theorem dX9_laysBest_14 : decode cX9_laysBest 14 = .ok (.iload 4, 2) := by decide +kernel
theorem dX9_laysBest_16 : decode cX9_laysBest 16 = .ok (.iconst 1, 1) := by decide +kernel
theorem dX9_laysBest_17 : decode cX9_laysBest 17 = .ok (.isub, 1) := by decide +kernel
theorem dX9_laysBest_18 : decode cX9_laysBest 18 = .ok (.istore 6, 2) := by decide +kernel
theorem dX9_laysBest_20 : decode cX9_laysBest 20 = .ok (.iload 6, 2) := by decide +kernel
theorem dX9_laysBest_22 : decode cX9_laysBest 22 = .ok (.iload_n 1, 1) := by decide +kernel
theorem dX9_laysBest_23 : decode cX9_laysBest 23 = .ok (.if_icmp .lt 93, 3) := by decide +kernel
theorem dX9_laysBest_26 : decode cX9_laysBest 26 = .ok (.iload 5, 2) := by decide +kernel
theorem dX9_laysBest_28 : decode cX9_laysBest 28 = .ok (.ifCond .eq 88, 3) := by decide +kernel
theorem dX9_laysBest_31 : decode cX9_laysBest 31 = .ok (.iconst 0, 1) := by decide +kernel
theorem dX9_laysBest_32 : decode cX9_laysBest 32 = .ok (.istore 7, 2) := by decide +kernel
theorem dX9_laysBest_34 : decode cX9_laysBest 34 = .ok (.iload 7, 2) := by decide +kernel
theorem dX9_laysBest_36 : decode cX9_laysBest 36 = .ok (.iconst 3, 1) := by decide +kernel
theorem dX9_laysBest_37 : decode cX9_laysBest 37 = .ok (.if_icmp .ge 30, 3) := by decide +kernel
theorem dX9_laysBest_40 : decode cX9_laysBest 40 = .ok (.aload_n 0, 1) := by decide +kernel
theorem dX9_laysBest_41 : decode cX9_laysBest 41 = .ok (.iload 6, 2) := by decide +kernel
theorem dX9_laysBest_43 : decode cX9_laysBest 43 = .ok (.iload 4, 2) := by decide +kernel
theorem dX9_laysBest_45 : decode cX9_laysBest 45 = .ok (.iload 7, 2) := by decide +kernel
theorem dX9_laysBest_47 : decode cX9_laysBest 47 = .ok (.invokestatic 79, 3) := by decide +kernel
theorem dX9_laysBest_50 : decode cX9_laysBest 50 = .ok (.iload 6, 2) := by decide +kernel
theorem dX9_laysBest_52 : decode cX9_laysBest 52 = .ok (.iload 4, 2) := by decide +kernel
theorem dX9_laysBest_54 : decode cX9_laysBest 54 = .ok (.iload 7, 2) := by decide +kernel
theorem dX9_laysBest_56 : decode cX9_laysBest 56 = .ok (.iload_n 2, 1) := by decide +kernel
theorem dX9_laysBest_57 : decode cX9_laysBest 57 = .ok (.iload_n 3, 1) := by decide +kernel
theorem dX9_laysBest_58 : decode cX9_laysBest 58 = .ok (.invokevirtual 83, 3) := by decide +kernel
theorem dX9_laysBest_61 : decode cX9_laysBest 61 = .ok (.iinc 7 1, 3) := by decide +kernel
theorem dX9_laysBest_64 : decode cX9_laysBest 64 = .ok (.goto (-30), 3) := by decide +kernel
theorem dX9_laysBest_67 : decode cX9_laysBest 67 = .ok (.iload 6, 2) := by decide +kernel
theorem dX9_laysBest_69 : decode cX9_laysBest 69 = .ok (.iload_n 1, 1) := by decide +kernel
theorem dX9_laysBest_70 : decode cX9_laysBest 70 = .ok (.if_icmp .le 37, 3) := by decide +kernel
theorem dX9_laysBest_73 : decode cX9_laysBest 73 = .ok (.aload_n 0, 1) := by decide +kernel
theorem dX9_laysBest_74 : decode cX9_laysBest 74 = .ok (.getfield 7, 3) := by decide +kernel
theorem dX9_laysBest_77 : decode cX9_laysBest 77 = .ok (.bipush 40, 2) := by decide +kernel
theorem dX9_laysBest_79 : decode cX9_laysBest 79 = .ok (.iload 6, 2) := by decide +kernel
theorem dX9_laysBest_81 : decode cX9_laysBest 81 = .ok (.iadd, 1) := by decide +kernel
theorem dX9_laysBest_82 : decode cX9_laysBest 82 = .ok (.iconst 1, 1) := by decide +kernel
theorem dX9_laysBest_83 : decode cX9_laysBest 83 = .ok (.isub, 1) := by decide +kernel
theorem dX9_laysBest_84 : decode cX9_laysBest 84 = .ok (.iaload, 1) := by decide +kernel
theorem dX9_laysBest_85 : decode cX9_laysBest 85 = .ok (.iconst 1, 1) := by decide +kernel
theorem dX9_laysBest_86 : decode cX9_laysBest 86 = .ok (.if_icmp .eq 21, 3) := by decide +kernel
theorem dX9_laysBest_89 : decode cX9_laysBest 89 = .ok (.aload_n 0, 1) := by decide +kernel
theorem dX9_laysBest_90 : decode cX9_laysBest 90 = .ok (.iload 6, 2) := by decide +kernel
theorem dX9_laysBest_92 : decode cX9_laysBest 92 = .ok (.iconst 1, 1) := by decide +kernel
theorem dX9_laysBest_93 : decode cX9_laysBest 93 = .ok (.isub, 1) := by decide +kernel
theorem dX9_laysBest_94 : decode cX9_laysBest 94 = .ok (.iload 4, 2) := by decide +kernel
theorem dX9_laysBest_96 : decode cX9_laysBest 96 = .ok (.invokevirtual 70, 3) := by decide +kernel
theorem dX9_laysBest_99 : decode cX9_laysBest 99 = .ok (.iload_n 3, 1) := by decide +kernel
theorem dX9_laysBest_100 : decode cX9_laysBest 100 = .ok (.if_icmp .gt 7, 3) := by decide +kernel
theorem dX9_laysBest_103 : decode cX9_laysBest 103 = .ok (.iconst 1, 1) := by decide +kernel
theorem dX9_laysBest_104 : decode cX9_laysBest 104 = .ok (.goto 4, 3) := by decide +kernel
theorem dX9_laysBest_107 : decode cX9_laysBest 107 = .ok (.iconst 0, 1) := by decide +kernel
theorem dX9_laysBest_108 : decode cX9_laysBest 108 = .ok (.istore 5, 2) := by decide +kernel
theorem dX9_laysBest_110 : decode cX9_laysBest 110 = .ok (.iinc 6 (-1), 3) := by decide +kernel
theorem dX9_laysBest_113 : decode cX9_laysBest 113 = .ok (.goto (-93), 3) := by decide +kernel
theorem dX9_laysBest_116 : decode cX9_laysBest 116 = .ok (.iinc 4 (-1), 3) := by decide +kernel
theorem dX9_laysBest_119 : decode cX9_laysBest 119 = .ok (.goto (-114), 3) := by decide +kernel
theorem dX9_laysBest_122 : decode cX9_laysBest 122 = .ok (.aload_n 0, 1) := by decide +kernel
theorem dX9_laysBest_123 : decode cX9_laysBest 123 = .ok (.sipush 4920, 3) := by decide +kernel
theorem dX9_laysBest_126 : decode cX9_laysBest 126 = .ok (.iconst (-1), 1) := by decide +kernel
theorem dX9_laysBest_127 : decode cX9_laysBest 127 = .ok (.iload_n 1, 1) := by decide +kernel
theorem dX9_laysBest_128 : decode cX9_laysBest 128 = .ok (.iconst 1, 1) := by decide +kernel
theorem dX9_laysBest_129 : decode cX9_laysBest 129 = .ok (.iload_n 2, 1) := by decide +kernel
theorem dX9_laysBest_130 : decode cX9_laysBest 130 = .ok (.iload_n 3, 1) := by decide +kernel
theorem dX9_laysBest_131 : decode cX9_laysBest 131 = .ok (.invokevirtual 83, 3) := by decide +kernel
theorem dX9_laysBest_134 : decode cX9_laysBest 134 = .ok (.sipush 4920, 3) := by decide +kernel
theorem dX9_laysBest_137 : decode cX9_laysBest 137 = .ok (.istore 4, 2) := by decide +kernel
theorem dX9_laysBest_139 : decode cX9_laysBest 139 = .ok (.iconst (-1), 1) := by decide +kernel
theorem dX9_laysBest_140 : decode cX9_laysBest 140 = .ok (.istore 5, 2) := by decide +kernel
theorem dX9_laysBest_142 : decode cX9_laysBest 142 = .ok (.iload_n 1, 1) := by decide +kernel
theorem dX9_laysBest_143 : decode cX9_laysBest 143 = .ok (.istore 6, 2) := by decide +kernel
theorem dX9_laysBest_145 : decode cX9_laysBest 145 = .ok (.iload 6, 2) := by decide +kernel
theorem dX9_laysBest_147 : decode cX9_laysBest 147 = .ok (.iload_n 2, 1) := by decide +kernel
theorem dX9_laysBest_148 : decode cX9_laysBest 148 = .ok (.if_icmp .ge 87, 3) := by decide +kernel
theorem dX9_laysBest_151 : decode cX9_laysBest 151 = .ok (.aload_n 0, 1) := by decide +kernel
theorem dX9_laysBest_152 : decode cX9_laysBest 152 = .ok (.getfield 30, 3) := by decide +kernel
theorem dX9_laysBest_155 : decode cX9_laysBest 155 = .ok (.iload 4, 2) := by decide +kernel
theorem dX9_laysBest_157 : decode cX9_laysBest 157 = .ok (.iaload, 1) := by decide +kernel
theorem dX9_laysBest_158 : decode cX9_laysBest 158 = .ok (.istore 7, 2) := by decide +kernel
theorem dX9_laysBest_160 : decode cX9_laysBest 160 = .ok (.aload_n 0, 1) := by decide +kernel
theorem dX9_laysBest_161 : decode cX9_laysBest 161 = .ok (.getfield 17, 3) := by decide +kernel
theorem dX9_laysBest_164 : decode cX9_laysBest 164 = .ok (.iload 7, 2) := by decide +kernel
theorem dX9_laysBest_166 : decode cX9_laysBest 166 = .ok (.iconst 1, 1) := by decide +kernel
theorem dX9_laysBest_167 : decode cX9_laysBest 167 = .ok (.isub, 1) := by decide +kernel
theorem dX9_laysBest_168 : decode cX9_laysBest 168 = .ok (.iconst 1, 1) := by decide +kernel
theorem dX9_laysBest_169 : decode cX9_laysBest 169 = .ok (.bastore, 1) := by decide +kernel
theorem dX9_laysBest_170 : decode cX9_laysBest 170 = .ok (.iload 5, 2) := by decide +kernel
theorem dX9_laysBest_172 : decode cX9_laysBest 172 = .ok (.iconst (-1), 1) := by decide +kernel
theorem dX9_laysBest_173 : decode cX9_laysBest 173 = .ok (.if_icmp .ne 7, 3) := by decide +kernel
theorem dX9_laysBest_176 : decode cX9_laysBest 176 = .ok (.iconst 1, 1) := by decide +kernel
theorem dX9_laysBest_177 : decode cX9_laysBest 177 = .ok (.goto 23, 3) := by decide +kernel
theorem dX9_laysBest_180 : decode cX9_laysBest 180 = .ok (.aload_n 0, 1) := by decide +kernel
theorem dX9_laysBest_181 : decode cX9_laysBest 181 = .ok (.aload_n 0, 1) := by decide +kernel
theorem dX9_laysBest_182 : decode cX9_laysBest 182 = .ok (.iload 5, 2) := by decide +kernel
theorem dX9_laysBest_184 : decode cX9_laysBest 184 = .ok (.iload 6, 2) := by decide +kernel
theorem dX9_laysBest_186 : decode cX9_laysBest 186 = .ok (.invokevirtual 70, 3) := by decide +kernel
theorem dX9_laysBest_189 : decode cX9_laysBest 189 = .ok (.aload_n 0, 1) := by decide +kernel
theorem dX9_laysBest_190 : decode cX9_laysBest 190 = .ok (.iload 6, 2) := by decide +kernel
theorem dX9_laysBest_192 : decode cX9_laysBest 192 = .ok (.iload 7, 2) := by decide +kernel
theorem dX9_laysBest_194 : decode cX9_laysBest 194 = .ok (.invokevirtual 70, 3) := by decide +kernel
theorem dX9_laysBest_197 : decode cX9_laysBest 197 = .ok (.invokevirtual 76, 3) := by decide +kernel
theorem dX9_laysBest_200 : decode cX9_laysBest 200 = .ok (.istore 8, 2) := by decide +kernel
theorem dX9_laysBest_202 : decode cX9_laysBest 202 = .ok (.iload 7, 2) := by decide +kernel
theorem dX9_laysBest_204 : decode cX9_laysBest 204 = .ok (.iload_n 2, 1) := by decide +kernel
theorem dX9_laysBest_205 : decode cX9_laysBest 205 = .ok (.if_icmp .ge 15, 3) := by decide +kernel
theorem dX9_laysBest_208 : decode cX9_laysBest 208 = .ok (.iload 6, 2) := by decide +kernel
theorem dX9_laysBest_210 : decode cX9_laysBest 210 = .ok (.iload 7, 2) := by decide +kernel
theorem dX9_laysBest_212 : decode cX9_laysBest 212 = .ok (.iload 8, 2) := by decide +kernel
theorem dX9_laysBest_214 : decode cX9_laysBest 214 = .ok (.invokestatic 79, 3) := by decide +kernel
theorem dX9_laysBest_217 : decode cX9_laysBest 217 = .ok (.goto 5, 3) := by decide +kernel
theorem dX9_laysBest_220 : decode cX9_laysBest 220 = .ok (.iload 4, 2) := by decide +kernel
theorem dX9_laysBest_222 : decode cX9_laysBest 222 = .ok (.istore 4, 2) := by decide +kernel
theorem dX9_laysBest_224 : decode cX9_laysBest 224 = .ok (.iload 6, 2) := by decide +kernel
theorem dX9_laysBest_226 : decode cX9_laysBest 226 = .ok (.istore 5, 2) := by decide +kernel
theorem dX9_laysBest_228 : decode cX9_laysBest 228 = .ok (.iload 7, 2) := by decide +kernel
theorem dX9_laysBest_230 : decode cX9_laysBest 230 = .ok (.istore 6, 2) := by decide +kernel
theorem dX9_laysBest_232 : decode cX9_laysBest 232 = .ok (.goto (-87), 3) := by decide +kernel
theorem dX9_laysBest_235 : decode cX9_laysBest 235 = .ok (.return_, 1) := by decide +kernel
theorem dX9_laysGreedily_0 : decode cX9_laysGreedily 0 = .ok (.iload_n 1, 1) := by decide +kernel
theorem dX9_laysGreedily_1 : decode cX9_laysGreedily 1 = .ok (.istore 4, 2) := by decide +kernel
theorem dX9_laysGreedily_3 : decode cX9_laysGreedily 3 = .ok (.iload_n 1, 1) := by decide +kernel
theorem dX9_laysGreedily_4 : decode cX9_laysGreedily 4 = .ok (.istore 5, 2) := by decide +kernel
theorem dX9_laysGreedily_6 : decode cX9_laysGreedily 6 = .ok (.iload 5, 2) := by decide +kernel
theorem dX9_laysGreedily_8 : decode cX9_laysGreedily 8 = .ok (.iload_n 2, 1) := by decide +kernel
theorem dX9_laysGreedily_9 : decode cX9_laysGreedily 9 = .ok (.if_icmp .ge 63, 3) := by decide +kernel
theorem dX9_laysGreedily_12 : decode cX9_laysGreedily 12 = .ok (.iload 5, 2) := by decide +kernel
theorem dX9_laysGreedily_14 : decode cX9_laysGreedily 14 = .ok (.iload_n 2, 1) := by decide +kernel
theorem dX9_laysGreedily_15 : decode cX9_laysGreedily 15 = .ok (.iconst 1, 1) := by decide +kernel
theorem dX9_laysGreedily_16 : decode cX9_laysGreedily 16 = .ok (.isub, 1) := by decide +kernel
theorem dX9_laysGreedily_17 : decode cX9_laysGreedily 17 = .ok (.if_icmp .eq 17, 3) := by decide +kernel
theorem dX9_laysGreedily_20 : decode cX9_laysGreedily 20 = .ok (.aload_n 0, 1) := by decide +kernel
theorem dX9_laysGreedily_21 : decode cX9_laysGreedily 21 = .ok (.iload 4, 2) := by decide +kernel
theorem dX9_laysGreedily_23 : decode cX9_laysGreedily 23 = .ok (.iload 5, 2) := by decide +kernel
theorem dX9_laysGreedily_25 : decode cX9_laysGreedily 25 = .ok (.iconst 1, 1) := by decide +kernel
theorem dX9_laysGreedily_26 : decode cX9_laysGreedily 26 = .ok (.iadd, 1) := by decide +kernel
theorem dX9_laysGreedily_27 : decode cX9_laysGreedily 27 = .ok (.iload_n 3, 1) := by decide +kernel
theorem dX9_laysGreedily_28 : decode cX9_laysGreedily 28 = .ok (.invokevirtual 73, 3) := by decide +kernel
theorem dX9_laysGreedily_31 : decode cX9_laysGreedily 31 = .ok (.ifCond .ne 7, 3) := by decide +kernel
theorem dX9_laysGreedily_34 : decode cX9_laysGreedily 34 = .ok (.iconst 1, 1) := by decide +kernel
theorem dX9_laysGreedily_35 : decode cX9_laysGreedily 35 = .ok (.goto 4, 3) := by decide +kernel
theorem dX9_laysGreedily_38 : decode cX9_laysGreedily 38 = .ok (.iconst 0, 1) := by decide +kernel
theorem dX9_laysGreedily_39 : decode cX9_laysGreedily 39 = .ok (.istore 6, 2) := by decide +kernel
theorem dX9_laysGreedily_41 : decode cX9_laysGreedily 41 = .ok (.aload_n 0, 1) := by decide +kernel
theorem dX9_laysGreedily_42 : decode cX9_laysGreedily 42 = .ok (.getfield 17, 3) := by decide +kernel
theorem dX9_laysGreedily_45 : decode cX9_laysGreedily 45 = .ok (.iload 5, 2) := by decide +kernel
theorem dX9_laysGreedily_47 : decode cX9_laysGreedily 47 = .ok (.iload 6, 2) := by decide +kernel
theorem dX9_laysGreedily_49 : decode cX9_laysGreedily 49 = .ok (.bastore, 1) := by decide +kernel
theorem dX9_laysGreedily_50 : decode cX9_laysGreedily 50 = .ok (.iload 6, 2) := by decide +kernel
theorem dX9_laysGreedily_52 : decode cX9_laysGreedily 52 = .ok (.ifCond .eq 10, 3) := by decide +kernel
theorem dX9_laysGreedily_55 : decode cX9_laysGreedily 55 = .ok (.iload 5, 2) := by decide +kernel
theorem dX9_laysGreedily_57 : decode cX9_laysGreedily 57 = .ok (.iconst 1, 1) := by decide +kernel
theorem dX9_laysGreedily_58 : decode cX9_laysGreedily 58 = .ok (.iadd, 1) := by decide +kernel
theorem dX9_laysGreedily_59 : decode cX9_laysGreedily 59 = .ok (.goto 5, 3) := by decide +kernel
theorem dX9_laysGreedily_62 : decode cX9_laysGreedily 62 = .ok (.iload 4, 2) := by decide +kernel
theorem dX9_laysGreedily_64 : decode cX9_laysGreedily 64 = .ok (.istore 4, 2) := by decide +kernel
theorem dX9_laysGreedily_66 : decode cX9_laysGreedily 66 = .ok (.iinc 5 1, 3) := by decide +kernel
theorem dX9_laysGreedily_69 : decode cX9_laysGreedily 69 = .ok (.goto (-63), 3) := by decide +kernel
theorem dX9_laysGreedily_72 : decode cX9_laysGreedily 72 = .ok (.return_, 1) := by decide +kernel
theorem dX9_lays_0 : decode cX9_lays 0 = .ok (.aload_n 0, 1) := by decide +kernel
theorem dX9_lays_1 : decode cX9_lays 1 = .ok (.invokevirtual 87, 3) := by decide +kernel
theorem dX9_lays_4 : decode cX9_lays 4 = .ok (.iconst 0, 1) := by decide +kernel
theorem dX9_lays_5 : decode cX9_lays 5 = .ok (.istore_n 3, 1) := by decide +kernel
theorem dX9_lays_6 : decode cX9_lays 6 = .ok (.iload_n 3, 1) := by decide +kernel
theorem dX9_lays_7 : decode cX9_lays 7 = .ok (.bipush 40, 2) := by decide +kernel
theorem dX9_lays_9 : decode cX9_lays 9 = .ok (.if_icmp .ge 16, 3) := by decide +kernel
theorem dX9_lays_12 : decode cX9_lays 12 = .ok (.aload_n 0, 1) := by decide +kernel
theorem dX9_lays_13 : decode cX9_lays 13 = .ok (.getfield 17, 3) := by decide +kernel
theorem dX9_lays_16 : decode cX9_lays 16 = .ok (.iload_n 3, 1) := by decide +kernel
theorem dX9_lays_17 : decode cX9_lays 17 = .ok (.iconst 0, 1) := by decide +kernel
theorem dX9_lays_18 : decode cX9_lays 18 = .ok (.bastore, 1) := by decide +kernel
theorem dX9_lays_19 : decode cX9_lays 19 = .ok (.iinc 3 1, 3) := by decide +kernel
theorem dX9_lays_22 : decode cX9_lays 22 = .ok (.goto (-16), 3) := by decide +kernel
theorem dX9_lays_25 : decode cX9_lays 25 = .ok (.iconst 0, 1) := by decide +kernel
theorem dX9_lays_26 : decode cX9_lays 26 = .ok (.istore_n 3, 1) := by decide +kernel
theorem dX9_lays_27 : decode cX9_lays 27 = .ok (.iconst 0, 1) := by decide +kernel
theorem dX9_lays_28 : decode cX9_lays 28 = .ok (.istore 4, 2) := by decide +kernel
theorem dX9_lays_30 : decode cX9_lays 30 = .ok (.iload 4, 2) := by decide +kernel
theorem dX9_lays_32 : decode cX9_lays 32 = .ok (.aload_n 0, 1) := by decide +kernel
theorem dX9_lays_33 : decode cX9_lays 33 = .ok (.getfield 7, 3) := by decide +kernel
theorem dX9_lays_36 : decode cX9_lays 36 = .ok (.bipush 80, 2) := by decide +kernel
theorem dX9_lays_38 : decode cX9_lays 38 = .ok (.iaload, 1) := by decide +kernel
theorem dX9_lays_39 : decode cX9_lays 39 = .ok (.if_icmp .ge 55, 3) := by decide +kernel
theorem dX9_lays_42 : decode cX9_lays 42 = .ok (.aload_n 0, 1) := by decide +kernel
theorem dX9_lays_43 : decode cX9_lays 43 = .ok (.iload 4, 2) := by decide +kernel
theorem dX9_lays_45 : decode cX9_lays 45 = .ok (.invokevirtual 90, 3) := by decide +kernel
theorem dX9_lays_48 : decode cX9_lays 48 = .ok (.istore 5, 2) := by decide +kernel
theorem dX9_lays_50 : decode cX9_lays 50 = .ok (.iload_n 2, 1) := by decide +kernel
theorem dX9_lays_51 : decode cX9_lays 51 = .ok (.ifCond .eq 15, 3) := by decide +kernel
theorem dX9_lays_54 : decode cX9_lays 54 = .ok (.aload_n 0, 1) := by decide +kernel
theorem dX9_lays_55 : decode cX9_lays 55 = .ok (.iload 4, 2) := by decide +kernel
theorem dX9_lays_57 : decode cX9_lays 57 = .ok (.iload 5, 2) := by decide +kernel
theorem dX9_lays_59 : decode cX9_lays 59 = .ok (.iload_n 1, 1) := by decide +kernel
theorem dX9_lays_60 : decode cX9_lays 60 = .ok (.invokevirtual 94, 3) := by decide +kernel
theorem dX9_lays_63 : decode cX9_lays 63 = .ok (.goto 12, 3) := by decide +kernel
theorem dX9_lays_66 : decode cX9_lays 66 = .ok (.aload_n 0, 1) := by decide +kernel
theorem dX9_lays_67 : decode cX9_lays 67 = .ok (.iload 4, 2) := by decide +kernel
theorem dX9_lays_69 : decode cX9_lays 69 = .ok (.iload 5, 2) := by decide +kernel
theorem dX9_lays_71 : decode cX9_lays 71 = .ok (.iload_n 1, 1) := by decide +kernel
theorem dX9_lays_72 : decode cX9_lays 72 = .ok (.invokevirtual 97, 3) := by decide +kernel
theorem dX9_lays_75 : decode cX9_lays 75 = .ok (.iload_n 3, 1) := by decide +kernel
theorem dX9_lays_76 : decode cX9_lays 76 = .ok (.aload_n 0, 1) := by decide +kernel
theorem dX9_lays_77 : decode cX9_lays 77 = .ok (.iload 4, 2) := by decide +kernel
theorem dX9_lays_79 : decode cX9_lays 79 = .ok (.iload 5, 2) := by decide +kernel
theorem dX9_lays_81 : decode cX9_lays 81 = .ok (.iload_n 1, 1) := by decide +kernel
theorem dX9_lays_82 : decode cX9_lays 82 = .ok (.invokevirtual 100, 3) := by decide +kernel
theorem dX9_lays_85 : decode cX9_lays 85 = .ok (.iadd, 1) := by decide +kernel
theorem dX9_lays_86 : decode cX9_lays 86 = .ok (.istore_n 3, 1) := by decide +kernel
theorem dX9_lays_87 : decode cX9_lays 87 = .ok (.iload 5, 2) := by decide +kernel
theorem dX9_lays_89 : decode cX9_lays 89 = .ok (.istore 4, 2) := by decide +kernel
theorem dX9_lays_91 : decode cX9_lays 91 = .ok (.goto (-61), 3) := by decide +kernel
theorem dX9_lays_94 : decode cX9_lays 94 = .ok (.iload_n 3, 1) := by decide +kernel
theorem dX9_lays_95 : decode cX9_lays 95 = .ok (.ireturn, 1) := by decide +kernel
theorem dX9_now_0 : decode cX9_now 0 = .ok (.aload_n 0, 1) := by decide +kernel
theorem dX9_now_1 : decode cX9_now 1 = .ok (.aload_n 0, 1) := by decide +kernel
theorem dX9_now_2 : decode cX9_now 2 = .ok (.getfield 7, 3) := by decide +kernel
theorem dX9_now_5 : decode cX9_now 5 = .ok (.bipush 81, 2) := by decide +kernel
theorem dX9_now_7 : decode cX9_now 7 = .ok (.iaload, 1) := by decide +kernel
theorem dX9_now_8 : decode cX9_now 8 = .ok (.aload_n 0, 1) := by decide +kernel
theorem dX9_now_9 : decode cX9_now 9 = .ok (.getfield 7, 3) := by decide +kernel
theorem dX9_now_12 : decode cX9_now 12 = .ok (.bipush 87, 2) := by decide +kernel
theorem dX9_now_14 : decode cX9_now 14 = .ok (.iaload, 1) := by decide +kernel
theorem dX9_now_15 : decode cX9_now 15 = .ok (.iconst 1, 1) := by decide +kernel
theorem dX9_now_16 : decode cX9_now 16 = .ok (.if_icmp .ne 7, 3) := by decide +kernel
theorem dX9_now_19 : decode cX9_now 19 = .ok (.iconst 1, 1) := by decide +kernel
theorem dX9_now_20 : decode cX9_now 20 = .ok (.goto 4, 3) := by decide +kernel
theorem dX9_now_23 : decode cX9_now 23 = .ok (.iconst 0, 1) := by decide +kernel
theorem dX9_now_24 : decode cX9_now 24 = .ok (.invokevirtual 103, 3) := by decide +kernel
theorem dX9_now_27 : decode cX9_now 27 = .ok (.ireturn, 1) := by decide +kernel
theorem dX9_lineEnd_0 : decode cX9_lineEnd 0 = .ok (.iload_n 1, 1) := by decide +kernel
theorem dX9_lineEnd_1 : decode cX9_lineEnd 1 = .ok (.istore_n 2, 1) := by decide +kernel
theorem dX9_lineEnd_2 : decode cX9_lineEnd 2 = .ok (.aload_n 0, 1) := by decide +kernel
theorem dX9_lineEnd_3 : decode cX9_lineEnd 3 = .ok (.getfield 17, 3) := by decide +kernel
theorem dX9_lineEnd_6 : decode cX9_lineEnd 6 = .ok (.iload_n 2, 1) := by decide +kernel
theorem dX9_lineEnd_7 : decode cX9_lineEnd 7 = .ok (.baload, 1) := by decide +kernel
theorem dX9_lineEnd_8 : decode cX9_lineEnd 8 = .ok (.ifCond .ne 9, 3) := by decide +kernel
theorem dX9_lineEnd_11 : decode cX9_lineEnd 11 = .ok (.iinc 2 1, 3) := by decide +kernel
theorem dX9_lineEnd_14 : decode cX9_lineEnd 14 = .ok (.goto (-12), 3) := by decide +kernel
theorem dX9_lineEnd_17 : decode cX9_lineEnd 17 = .ok (.iload_n 2, 1) := by decide +kernel
theorem dX9_lineEnd_18 : decode cX9_lineEnd 18 = .ok (.iconst 1, 1) := by decide +kernel
theorem dX9_lineEnd_19 : decode cX9_lineEnd 19 = .ok (.iadd, 1) := by decide +kernel
theorem dX9_lineEnd_20 : decode cX9_lineEnd 20 = .ok (.ireturn, 1) := by decide +kernel
theorem dX9_stair_0 : decode cX9_stair 0 = .ok (.aload_n 0, 1) := by decide +kernel
theorem dX9_stair_1 : decode cX9_stair 1 = .ok (.iload_n 2, 1) := by decide +kernel
theorem dX9_stair_2 : decode cX9_stair 2 = .ok (.invokevirtual 107, 3) := by decide +kernel
theorem dX9_stair_5 : decode cX9_stair 5 = .ok (.istore 4, 2) := by decide +kernel
theorem dX9_stair_7 : decode cX9_stair 7 = .ok (.iload 4, 2) := by decide +kernel
theorem dX9_stair_9 : decode cX9_stair 9 = .ok (.iload_n 3, 1) := by decide +kernel
theorem dX9_stair_10 : decode cX9_stair 10 = .ok (.if_icmp .ne 5, 3) := by decide +kernel
theorem dX9_stair_13 : decode cX9_stair 13 = .ok (.iconst 0, 1) := by decide +kernel
theorem dX9_stair_14 : decode cX9_stair 14 = .ok (.ireturn, 1) := by decide +kernel
theorem dX9_stair_15 : decode cX9_stair 15 = .ok (.aload_n 0, 1) := by decide +kernel
theorem dX9_stair_16 : decode cX9_stair 16 = .ok (.iload 4, 2) := by decide +kernel
theorem dX9_stair_18 : decode cX9_stair 18 = .ok (.invokevirtual 107, 3) := by decide +kernel
theorem dX9_stair_21 : decode cX9_stair 21 = .ok (.istore 5, 2) := by decide +kernel
theorem dX9_stair_23 : decode cX9_stair 23 = .ok (.iload 5, 2) := by decide +kernel
theorem dX9_stair_25 : decode cX9_stair 25 = .ok (.iload_n 3, 1) := by decide +kernel
theorem dX9_stair_26 : decode cX9_stair 26 = .ok (.if_icmp .ne 5, 3) := by decide +kernel
theorem dX9_stair_29 : decode cX9_stair 29 = .ok (.iconst 0, 1) := by decide +kernel
theorem dX9_stair_30 : decode cX9_stair 30 = .ok (.ireturn, 1) := by decide +kernel
theorem dX9_stair_31 : decode cX9_stair 31 = .ok (.aload_n 0, 1) := by decide +kernel
theorem dX9_stair_32 : decode cX9_stair 32 = .ok (.aload_n 0, 1) := by decide +kernel
theorem dX9_stair_33 : decode cX9_stair 33 = .ok (.iload_n 1, 1) := by decide +kernel
theorem dX9_stair_34 : decode cX9_stair 34 = .ok (.iload_n 2, 1) := by decide +kernel
theorem dX9_stair_35 : decode cX9_stair 35 = .ok (.invokevirtual 70, 3) := by decide +kernel
theorem dX9_stair_38 : decode cX9_stair 38 = .ok (.aload_n 0, 1) := by decide +kernel
theorem dX9_stair_39 : decode cX9_stair 39 = .ok (.iload_n 2, 1) := by decide +kernel
theorem dX9_stair_40 : decode cX9_stair 40 = .ok (.iload 4, 2) := by decide +kernel
theorem dX9_stair_42 : decode cX9_stair 42 = .ok (.invokevirtual 70, 3) := by decide +kernel
theorem dX9_stair_45 : decode cX9_stair 45 = .ok (.invokevirtual 76, 3) := by decide +kernel
theorem dX9_stair_48 : decode cX9_stair 48 = .ok (.istore 6, 2) := by decide +kernel
theorem dX9_stair_50 : decode cX9_stair 50 = .ok (.aload_n 0, 1) := by decide +kernel
theorem dX9_stair_51 : decode cX9_stair 51 = .ok (.aload_n 0, 1) := by decide +kernel
theorem dX9_stair_52 : decode cX9_stair 52 = .ok (.iload_n 2, 1) := by decide +kernel
theorem dX9_stair_53 : decode cX9_stair 53 = .ok (.iload 4, 2) := by decide +kernel
theorem dX9_stair_55 : decode cX9_stair 55 = .ok (.invokevirtual 70, 3) := by decide +kernel
theorem dX9_stair_58 : decode cX9_stair 58 = .ok (.aload_n 0, 1) := by decide +kernel
theorem dX9_stair_59 : decode cX9_stair 59 = .ok (.iload 4, 2) := by decide +kernel
theorem dX9_stair_61 : decode cX9_stair 61 = .ok (.iload 5, 2) := by decide +kernel
theorem dX9_stair_63 : decode cX9_stair 63 = .ok (.invokevirtual 70, 3) := by decide +kernel
theorem dX9_stair_66 : decode cX9_stair 66 = .ok (.invokevirtual 76, 3) := by decide +kernel
theorem dX9_stair_69 : decode cX9_stair 69 = .ok (.istore 7, 2) := by decide +kernel
theorem dX9_stair_71 : decode cX9_stair 71 = .ok (.iload 6, 2) := by decide +kernel
theorem dX9_stair_73 : decode cX9_stair 73 = .ok (.iload 7, 2) := by decide +kernel
theorem dX9_stair_75 : decode cX9_stair 75 = .ok (.if_icmp .ne 10, 3) := by decide +kernel
theorem dX9_stair_78 : decode cX9_stair 78 = .ok (.iload 6, 2) := by decide +kernel
theorem dX9_stair_80 : decode cX9_stair 80 = .ok (.iconst 1, 1) := by decide +kernel
theorem dX9_stair_81 : decode cX9_stair 81 = .ok (.isub, 1) := by decide +kernel
theorem dX9_stair_82 : decode cX9_stair 82 = .ok (.goto 4, 3) := by decide +kernel
theorem dX9_stair_85 : decode cX9_stair 85 = .ok (.iconst 0, 1) := by decide +kernel
theorem dX9_stair_86 : decode cX9_stair 86 = .ok (.ireturn, 1) := by decide +kernel
theorem dX9_costOf_0 : decode cX9_costOf 0 = .ok (.iconst 0, 1) := by decide +kernel
theorem dX9_costOf_1 : decode cX9_costOf 1 = .ok (.istore 4, 2) := by decide +kernel
theorem dX9_costOf_3 : decode cX9_costOf 3 = .ok (.iconst (-1), 1) := by decide +kernel
theorem dX9_costOf_4 : decode cX9_costOf 4 = .ok (.istore 5, 2) := by decide +kernel
theorem dX9_costOf_6 : decode cX9_costOf 6 = .ok (.iload_n 1, 1) := by decide +kernel
theorem dX9_costOf_7 : decode cX9_costOf 7 = .ok (.istore 6, 2) := by decide +kernel
theorem dX9_costOf_9 : decode cX9_costOf 9 = .ok (.iload 6, 2) := by decide +kernel
theorem dX9_costOf_11 : decode cX9_costOf 11 = .ok (.iload_n 2, 1) := by decide +kernel
theorem dX9_costOf_12 : decode cX9_costOf 12 = .ok (.if_icmp .ge 130, 3) := by decide +kernel
theorem dX9_costOf_15 : decode cX9_costOf 15 = .ok (.aload_n 0, 1) := by decide +kernel
theorem dX9_costOf_16 : decode cX9_costOf 16 = .ok (.iload 6, 2) := by decide +kernel
theorem dX9_costOf_18 : decode cX9_costOf 18 = .ok (.invokevirtual 107, 3) := by decide +kernel
theorem dX9_costOf_21 : decode cX9_costOf 21 = .ok (.istore 7, 2) := by decide +kernel
theorem dX9_costOf_23 : decode cX9_costOf 23 = .ok (.iload_n 3, 1) := by decide +kernel
theorem dX9_costOf_24 : decode cX9_costOf 24 = .ok (.aload_n 0, 1) := by decide +kernel
theorem dX9_costOf_25 : decode cX9_costOf 25 = .ok (.iload 6, 2) := by decide +kernel
theorem dX9_costOf_27 : decode cX9_costOf 27 = .ok (.iload 7, 2) := by decide +kernel
theorem dX9_costOf_29 : decode cX9_costOf 29 = .ok (.invokevirtual 70, 3) := by decide +kernel
theorem dX9_costOf_32 : decode cX9_costOf 32 = .ok (.isub, 1) := by decide +kernel
theorem dX9_costOf_33 : decode cX9_costOf 33 = .ok (.istore 8, 2) := by decide +kernel
theorem dX9_costOf_35 : decode cX9_costOf 35 = .ok (.iload 5, 2) := by decide +kernel
theorem dX9_costOf_37 : decode cX9_costOf 37 = .ok (.iconst (-1), 1) := by decide +kernel
theorem dX9_costOf_38 : decode cX9_costOf 38 = .ok (.if_icmp .eq 21, 3) := by decide +kernel
theorem dX9_costOf_41 : decode cX9_costOf 41 = .ok (.iconst 4, 1) := by decide +kernel
theorem dX9_costOf_42 : decode cX9_costOf 42 = .ok (.aload_n 0, 1) := by decide +kernel
theorem dX9_costOf_43 : decode cX9_costOf 43 = .ok (.iload 6, 2) := by decide +kernel
theorem dX9_costOf_45 : decode cX9_costOf 45 = .ok (.iload 7, 2) := by decide +kernel
theorem dX9_costOf_47 : decode cX9_costOf 47 = .ok (.invokevirtual 70, 3) := by decide +kernel
theorem dX9_costOf_50 : decode cX9_costOf 50 = .ok (.imul, 1) := by decide +kernel
theorem dX9_costOf_51 : decode cX9_costOf 51 = .ok (.iload_n 3, 1) := by decide +kernel
theorem dX9_costOf_52 : decode cX9_costOf 52 = .ok (.if_icmp .ge 7, 3) := by decide +kernel
theorem dX9_costOf_55 : decode cX9_costOf 55 = .ok (.iconst 1, 1) := by decide +kernel
theorem dX9_costOf_56 : decode cX9_costOf 56 = .ok (.goto 4, 3) := by decide +kernel
theorem dX9_costOf_59 : decode cX9_costOf 59 = .ok (.iconst 0, 1) := by decide +kernel
theorem dX9_costOf_60 : decode cX9_costOf 60 = .ok (.istore 9, 2) := by decide +kernel
theorem dX9_costOf_62 : decode cX9_costOf 62 = .ok (.iload 4, 2) := by decide +kernel
theorem dX9_costOf_64 : decode cX9_costOf 64 = .ok (.iload 7, 2) := by decide +kernel
theorem dX9_costOf_66 : decode cX9_costOf 66 = .ok (.iload_n 2, 1) := by decide +kernel
theorem dX9_costOf_67 : decode cX9_costOf 67 = .ok (.if_icmp .ge 11, 3) := by decide +kernel
theorem dX9_costOf_70 : decode cX9_costOf 70 = .ok (.iload 8, 2) := by decide +kernel
theorem dX9_costOf_72 : decode cX9_costOf 72 = .ok (.iload 8, 2) := by decide +kernel
theorem dX9_costOf_74 : decode cX9_costOf 74 = .ok (.imul, 1) := by decide +kernel
theorem dX9_costOf_75 : decode cX9_costOf 75 = .ok (.goto 19, 3) := by decide +kernel
theorem dX9_costOf_78 : decode cX9_costOf 78 = .ok (.iload 9, 2) := by decide +kernel
theorem dX9_costOf_80 : decode cX9_costOf 80 = .ok (.ifCond .eq 13, 3) := by decide +kernel
theorem dX9_costOf_83 : decode cX9_costOf 83 = .ok (.aload_n 0, 1) := by decide +kernel
theorem dX9_costOf_84 : decode cX9_costOf 84 = .ok (.getfield 7, 3) := by decide +kernel
theorem dX9_costOf_87 : decode cX9_costOf 87 = .ok (.bipush 85, 2) := by decide +kernel
theorem dX9_costOf_89 : decode cX9_costOf 89 = .ok (.iaload, 1) := by decide +kernel
theorem dX9_costOf_90 : decode cX9_costOf 90 = .ok (.goto 4, 3) := by decide +kernel
theorem dX9_costOf_93 : decode cX9_costOf 93 = .ok (.iconst 0, 1) := by decide +kernel
theorem dX9_costOf_94 : decode cX9_costOf 94 = .ok (.iadd, 1) := by decide +kernel
theorem dX9_costOf_95 : decode cX9_costOf 95 = .ok (.istore 4, 2) := by decide +kernel
theorem dX9_costOf_97 : decode cX9_costOf 97 = .ok (.iload 4, 2) := by decide +kernel
theorem dX9_costOf_99 : decode cX9_costOf 99 = .ok (.iload 5, 2) := by decide +kernel
theorem dX9_costOf_101 : decode cX9_costOf 101 = .ok (.iconst (-1), 1) := by decide +kernel
theorem dX9_costOf_102 : decode cX9_costOf 102 = .ok (.if_icmp .eq 25, 3) := by decide +kernel
theorem dX9_costOf_105 : decode cX9_costOf 105 = .ok (.aload_n 0, 1) := by decide +kernel
theorem dX9_costOf_106 : decode cX9_costOf 106 = .ok (.iload 5, 2) := by decide +kernel
theorem dX9_costOf_108 : decode cX9_costOf 108 = .ok (.iload 6, 2) := by decide +kernel
theorem dX9_costOf_110 : decode cX9_costOf 110 = .ok (.iload_n 2, 1) := by decide +kernel
theorem dX9_costOf_111 : decode cX9_costOf 111 = .ok (.invokevirtual 110, 3) := by decide +kernel
theorem dX9_costOf_114 : decode cX9_costOf 114 = .ok (.ifCond .eq 13, 3) := by decide +kernel
theorem dX9_costOf_117 : decode cX9_costOf 117 = .ok (.aload_n 0, 1) := by decide +kernel
theorem dX9_costOf_118 : decode cX9_costOf 118 = .ok (.getfield 7, 3) := by decide +kernel
theorem dX9_costOf_121 : decode cX9_costOf 121 = .ok (.bipush 84, 2) := by decide +kernel
theorem dX9_costOf_123 : decode cX9_costOf 123 = .ok (.iaload, 1) := by decide +kernel
theorem dX9_costOf_124 : decode cX9_costOf 124 = .ok (.goto 4, 3) := by decide +kernel
theorem dX9_costOf_127 : decode cX9_costOf 127 = .ok (.iconst 0, 1) := by decide +kernel
theorem dX9_costOf_128 : decode cX9_costOf 128 = .ok (.iadd, 1) := by decide +kernel
theorem dX9_costOf_129 : decode cX9_costOf 129 = .ok (.istore 4, 2) := by decide +kernel
theorem dX9_costOf_131 : decode cX9_costOf 131 = .ok (.iload 6, 2) := by decide +kernel
theorem dX9_costOf_133 : decode cX9_costOf 133 = .ok (.istore 5, 2) := by decide +kernel
theorem dX9_costOf_135 : decode cX9_costOf 135 = .ok (.iload 7, 2) := by decide +kernel
theorem dX9_costOf_137 : decode cX9_costOf 137 = .ok (.istore 6, 2) := by decide +kernel
theorem dX9_costOf_139 : decode cX9_costOf 139 = .ok (.goto (-130), 3) := by decide +kernel
theorem dX9_costOf_142 : decode cX9_costOf 142 = .ok (.iload 4, 2) := by decide +kernel
theorem dX9_costOf_144 : decode cX9_costOf 144 = .ok (.ireturn, 1) := by decide +kernel
theorem dX9_manyLines_0 : decode cX9_manyLines 0 = .ok (.iconst 0, 1) := by decide +kernel
theorem dX9_manyLines_1 : decode cX9_manyLines 1 = .ok (.istore_n 1, 1) := by decide +kernel
theorem dX9_manyLines_2 : decode cX9_manyLines 2 = .ok (.iconst 0, 1) := by decide +kernel
theorem dX9_manyLines_3 : decode cX9_manyLines 3 = .ok (.istore_n 2, 1) := by decide +kernel
theorem dX9_manyLines_4 : decode cX9_manyLines 4 = .ok (.iload_n 2, 1) := by decide +kernel
theorem dX9_manyLines_5 : decode cX9_manyLines 5 = .ok (.aload_n 0, 1) := by decide +kernel
theorem dX9_manyLines_6 : decode cX9_manyLines 6 = .ok (.getfield 7, 3) := by decide +kernel
theorem dX9_manyLines_9 : decode cX9_manyLines 9 = .ok (.bipush 80, 2) := by decide +kernel
theorem dX9_manyLines_11 : decode cX9_manyLines 11 = .ok (.iaload, 1) := by decide +kernel
theorem dX9_manyLines_12 : decode cX9_manyLines 12 = .ok (.if_icmp .ge 26, 3) := by decide +kernel
theorem dX9_manyLines_15 : decode cX9_manyLines 15 = .ok (.iload_n 1, 1) := by decide +kernel
theorem dX9_manyLines_16 : decode cX9_manyLines 16 = .ok (.aload_n 0, 1) := by decide +kernel
theorem dX9_manyLines_17 : decode cX9_manyLines 17 = .ok (.getfield 17, 3) := by decide +kernel
theorem dX9_manyLines_20 : decode cX9_manyLines 20 = .ok (.iload_n 2, 1) := by decide +kernel
theorem dX9_manyLines_21 : decode cX9_manyLines 21 = .ok (.baload, 1) := by decide +kernel
theorem dX9_manyLines_22 : decode cX9_manyLines 22 = .ok (.ifCond .eq 7, 3) := by decide +kernel
theorem dX9_manyLines_25 : decode cX9_manyLines 25 = .ok (.iconst 1, 1) := by decide +kernel
theorem dX9_manyLines_26 : decode cX9_manyLines 26 = .ok (.goto 4, 3) := by decide +kernel
theorem dX9_manyLines_29 : decode cX9_manyLines 29 = .ok (.iconst 0, 1) := by decide +kernel
theorem dX9_manyLines_30 : decode cX9_manyLines 30 = .ok (.iadd, 1) := by decide +kernel
theorem dX9_manyLines_31 : decode cX9_manyLines 31 = .ok (.istore_n 1, 1) := by decide +kernel
theorem dX9_manyLines_32 : decode cX9_manyLines 32 = .ok (.iinc 2 1, 3) := by decide +kernel
theorem dX9_manyLines_35 : decode cX9_manyLines 35 = .ok (.goto (-31), 3) := by decide +kernel
theorem dX9_manyLines_38 : decode cX9_manyLines 38 = .ok (.iload_n 1, 1) := by decide +kernel
theorem dX9_manyLines_39 : decode cX9_manyLines 39 = .ok (.ireturn, 1) := by decide +kernel
theorem dX9_first_0 : decode cX9_first 0 = .ok (.iconst 0, 1) := by decide +kernel
theorem dX9_first_1 : decode cX9_first 1 = .ok (.istore_n 2, 1) := by decide +kernel
theorem dX9_first_2 : decode cX9_first 2 = .ok (.iconst 0, 1) := by decide +kernel
theorem dX9_first_3 : decode cX9_first 3 = .ok (.istore_n 3, 1) := by decide +kernel
theorem dX9_first_4 : decode cX9_first 4 = .ok (.iload_n 3, 1) := by decide +kernel
theorem dX9_first_5 : decode cX9_first 5 = .ok (.iload_n 1, 1) := by decide +kernel
theorem dX9_first_6 : decode cX9_first 6 = .ok (.if_icmp .ge 15, 3) := by decide +kernel
theorem dX9_first_9 : decode cX9_first 9 = .ok (.aload_n 0, 1) := by decide +kernel
theorem dX9_first_10 : decode cX9_first 10 = .ok (.iload_n 2, 1) := by decide +kernel
theorem dX9_first_11 : decode cX9_first 11 = .ok (.invokevirtual 107, 3) := by decide +kernel
theorem dX9_first_14 : decode cX9_first 14 = .ok (.istore_n 2, 1) := by decide +kernel
theorem dX9_first_15 : decode cX9_first 15 = .ok (.iinc 3 1, 3) := by decide +kernel
theorem dX9_first_18 : decode cX9_first 18 = .ok (.goto (-14), 3) := by decide +kernel
theorem dX9_first_21 : decode cX9_first 21 = .ok (.iload_n 2, 1) := by decide +kernel
theorem dX9_first_22 : decode cX9_first 22 = .ok (.ireturn, 1) := by decide +kernel
theorem dX9_lineAt_0 : decode cX9_lineAt 0 = .ok (.iconst 0, 1) := by decide +kernel
theorem dX9_lineAt_1 : decode cX9_lineAt 1 = .ok (.istore_n 2, 1) := by decide +kernel
theorem dX9_lineAt_2 : decode cX9_lineAt 2 = .ok (.iconst 0, 1) := by decide +kernel
theorem dX9_lineAt_3 : decode cX9_lineAt 3 = .ok (.istore_n 3, 1) := by decide +kernel
theorem dX9_lineAt_4 : decode cX9_lineAt 4 = .ok (.iload_n 3, 1) := by decide +kernel
theorem dX9_lineAt_5 : decode cX9_lineAt 5 = .ok (.iload_n 1, 1) := by decide +kernel
theorem dX9_lineAt_6 : decode cX9_lineAt 6 = .ok (.if_icmp .ge 26, 3) := by decide +kernel
theorem dX9_lineAt_9 : decode cX9_lineAt 9 = .ok (.iload_n 2, 1) := by decide +kernel
theorem dX9_lineAt_10 : decode cX9_lineAt 10 = .ok (.aload_n 0, 1) := by decide +kernel
theorem dX9_lineAt_11 : decode cX9_lineAt 11 = .ok (.getfield 17, 3) := by decide +kernel
theorem dX9_lineAt_14 : decode cX9_lineAt 14 = .ok (.iload_n 3, 1) := by decide +kernel
theorem dX9_lineAt_15 : decode cX9_lineAt 15 = .ok (.baload, 1) := by decide +kernel
theorem dX9_lineAt_16 : decode cX9_lineAt 16 = .ok (.ifCond .eq 7, 3) := by decide +kernel
theorem dX9_lineAt_19 : decode cX9_lineAt 19 = .ok (.iconst 1, 1) := by decide +kernel
theorem dX9_lineAt_20 : decode cX9_lineAt 20 = .ok (.goto 4, 3) := by decide +kernel
theorem dX9_lineAt_23 : decode cX9_lineAt 23 = .ok (.iconst 0, 1) := by decide +kernel
theorem dX9_lineAt_24 : decode cX9_lineAt 24 = .ok (.iadd, 1) := by decide +kernel
theorem dX9_lineAt_25 : decode cX9_lineAt 25 = .ok (.istore_n 2, 1) := by decide +kernel
theorem dX9_lineAt_26 : decode cX9_lineAt 26 = .ok (.iinc 3 1, 3) := by decide +kernel
theorem dX9_lineAt_29 : decode cX9_lineAt 29 = .ok (.goto (-25), 3) := by decide +kernel
theorem dX9_lineAt_32 : decode cX9_lineAt 32 = .ok (.iload_n 2, 1) := by decide +kernel
theorem dX9_lineAt_33 : decode cX9_lineAt 33 = .ok (.ireturn, 1) := by decide +kernel
theorem dX9_isLine_0 : decode cX9_isLine 0 = .ok (.aload_n 0, 1) := by decide +kernel
theorem dX9_isLine_1 : decode cX9_isLine 1 = .ok (.invokevirtual 113, 3) := by decide +kernel
theorem dX9_isLine_4 : decode cX9_isLine 4 = .ok (.istore_n 2, 1) := by decide +kernel
theorem dX9_isLine_5 : decode cX9_isLine 5 = .ok (.iload_n 1, 1) := by decide +kernel
theorem dX9_isLine_6 : decode cX9_isLine 6 = .ok (.iconst 0, 1) := by decide +kernel
theorem dX9_isLine_7 : decode cX9_isLine 7 = .ok (.aload_n 0, 1) := by decide +kernel
theorem dX9_isLine_8 : decode cX9_isLine 8 = .ok (.invokevirtual 117, 3) := by decide +kernel
theorem dX9_isLine_11 : decode cX9_isLine 11 = .ok (.iconst 1, 1) := by decide +kernel
theorem dX9_isLine_12 : decode cX9_isLine 12 = .ok (.isub, 1) := by decide +kernel
theorem dX9_isLine_13 : decode cX9_isLine 13 = .ok (.invokestatic 47, 3) := by decide +kernel
theorem dX9_isLine_16 : decode cX9_isLine 16 = .ok (.ireturn, 1) := by decide +kernel
theorem dX9_lines_0 : decode cX9_lines 0 = .ok (.aload_n 0, 1) := by decide +kernel
theorem dX9_lines_1 : decode cX9_lines 1 = .ok (.iconst 0, 1) := by decide +kernel
theorem dX9_lines_2 : decode cX9_lines 2 = .ok (.putfield 36, 3) := by decide +kernel
theorem dX9_lines_5 : decode cX9_lines 5 = .ok (.aload_n 0, 1) := by decide +kernel
theorem dX9_lines_6 : decode cX9_lines 6 = .ok (.invokevirtual 113, 3) := by decide +kernel
theorem dX9_lines_9 : decode cX9_lines 9 = .ok (.istore_n 1, 1) := by decide +kernel
theorem dX9_lines_10 : decode cX9_lines 10 = .ok (.aload_n 0, 1) := by decide +kernel
theorem dX9_lines_11 : decode cX9_lines 11 = .ok (.invokevirtual 117, 3) := by decide +kernel
theorem dX9_lines_14 : decode cX9_lines 14 = .ok (.ireturn, 1) := by decide +kernel
theorem dX9_lineOf_0 : decode cX9_lineOf 0 = .ok (.aload_n 0, 1) := by decide +kernel
theorem dX9_lineOf_1 : decode cX9_lineOf 1 = .ok (.invokevirtual 113, 3) := by decide +kernel
theorem dX9_lineOf_4 : decode cX9_lineOf 4 = .ok (.istore_n 2, 1) := by decide +kernel
theorem dX9_lineOf_5 : decode cX9_lineOf 5 = .ok (.aload_n 0, 1) := by decide +kernel
theorem dX9_lineOf_6 : decode cX9_lineOf 6 = .ok (.aload_n 0, 1) := by decide +kernel
theorem dX9_lineOf_7 : decode cX9_lineOf 7 = .ok (.iload_n 1, 1) := by decide +kernel
theorem dX9_lineOf_8 : decode cX9_lineOf 8 = .ok (.invokevirtual 62, 3) := by decide +kernel
theorem dX9_lineOf_11 : decode cX9_lineOf 11 = .ok (.iconst 1, 1) := by decide +kernel
theorem dX9_lineOf_12 : decode cX9_lineOf 12 = .ok (.iconst 1, 1) := by decide +kernel
theorem dX9_lineOf_13 : decode cX9_lineOf 13 = .ok (.invokevirtual 51, 3) := by decide +kernel
theorem dX9_lineOf_16 : decode cX9_lineOf 16 = .ok (.ifCond .eq 11, 3) := by decide +kernel
theorem dX9_lineOf_19 : decode cX9_lineOf 19 = .ok (.aload_n 0, 1) := by decide +kernel
theorem dX9_lineOf_20 : decode cX9_lineOf 20 = .ok (.iload_n 1, 1) := by decide +kernel
theorem dX9_lineOf_21 : decode cX9_lineOf 21 = .ok (.invokevirtual 120, 3) := by decide +kernel
theorem dX9_lineOf_24 : decode cX9_lineOf 24 = .ok (.goto 4, 3) := by decide +kernel
theorem dX9_lineOf_27 : decode cX9_lineOf 27 = .ok (.iconst 0, 1) := by decide +kernel
theorem dX9_lineOf_28 : decode cX9_lineOf 28 = .ok (.ireturn, 1) := by decide +kernel
theorem dX9_firstWord_0 : decode cX9_firstWord 0 = .ok (.aload_n 0, 1) := by decide +kernel
theorem dX9_firstWord_1 : decode cX9_firstWord 1 = .ok (.aload_n 0, 1) := by decide +kernel
theorem dX9_firstWord_2 : decode cX9_firstWord 2 = .ok (.iload_n 1, 1) := by decide +kernel
theorem dX9_firstWord_3 : decode cX9_firstWord 3 = .ok (.invokevirtual 123, 3) := by decide +kernel
theorem dX9_firstWord_6 : decode cX9_firstWord 6 = .ok (.iconst 1, 1) := by decide +kernel
theorem dX9_firstWord_7 : decode cX9_firstWord 7 = .ok (.iconst 1, 1) := by decide +kernel
theorem dX9_firstWord_8 : decode cX9_firstWord 8 = .ok (.invokevirtual 51, 3) := by decide +kernel
theorem dX9_firstWord_11 : decode cX9_firstWord 11 = .ok (.ifCond .eq 11, 3) := by decide +kernel
theorem dX9_firstWord_14 : decode cX9_firstWord 14 = .ok (.aload_n 0, 1) := by decide +kernel
theorem dX9_firstWord_15 : decode cX9_firstWord 15 = .ok (.iload_n 1, 1) := by decide +kernel
theorem dX9_firstWord_16 : decode cX9_firstWord 16 = .ok (.invokevirtual 126, 3) := by decide +kernel
theorem dX9_firstWord_19 : decode cX9_firstWord 19 = .ok (.goto 4, 3) := by decide +kernel
theorem dX9_firstWord_22 : decode cX9_firstWord 22 = .ok (.iconst 0, 1) := by decide +kernel
theorem dX9_firstWord_23 : decode cX9_firstWord 23 = .ok (.ireturn, 1) := by decide +kernel
theorem dX9_lineWidth_0 : decode cX9_lineWidth 0 = .ok (.aload_n 0, 1) := by decide +kernel
theorem dX9_lineWidth_1 : decode cX9_lineWidth 1 = .ok (.aload_n 0, 1) := by decide +kernel
theorem dX9_lineWidth_2 : decode cX9_lineWidth 2 = .ok (.iload_n 1, 1) := by decide +kernel
theorem dX9_lineWidth_3 : decode cX9_lineWidth 3 = .ok (.invokevirtual 123, 3) := by decide +kernel
theorem dX9_lineWidth_6 : decode cX9_lineWidth 6 = .ok (.iconst 1, 1) := by decide +kernel
theorem dX9_lineWidth_7 : decode cX9_lineWidth 7 = .ok (.iconst 1, 1) := by decide +kernel
theorem dX9_lineWidth_8 : decode cX9_lineWidth 8 = .ok (.invokevirtual 51, 3) := by decide +kernel
theorem dX9_lineWidth_11 : decode cX9_lineWidth 11 = .ok (.ifCond .eq 22, 3) := by decide +kernel
theorem dX9_lineWidth_14 : decode cX9_lineWidth 14 = .ok (.aload_n 0, 1) := by decide +kernel
theorem dX9_lineWidth_15 : decode cX9_lineWidth 15 = .ok (.aload_n 0, 1) := by decide +kernel
theorem dX9_lineWidth_16 : decode cX9_lineWidth 16 = .ok (.iload_n 1, 1) := by decide +kernel
theorem dX9_lineWidth_17 : decode cX9_lineWidth 17 = .ok (.invokevirtual 126, 3) := by decide +kernel
theorem dX9_lineWidth_20 : decode cX9_lineWidth 20 = .ok (.aload_n 0, 1) := by decide +kernel
theorem dX9_lineWidth_21 : decode cX9_lineWidth 21 = .ok (.iload_n 1, 1) := by decide +kernel
theorem dX9_lineWidth_22 : decode cX9_lineWidth 22 = .ok (.iconst 1, 1) := by decide +kernel
theorem dX9_lineWidth_23 : decode cX9_lineWidth 23 = .ok (.iadd, 1) := by decide +kernel
theorem dX9_lineWidth_24 : decode cX9_lineWidth 24 = .ok (.invokevirtual 126, 3) := by decide +kernel
theorem dX9_lineWidth_27 : decode cX9_lineWidth 27 = .ok (.invokevirtual 70, 3) := by decide +kernel
theorem dX9_lineWidth_30 : decode cX9_lineWidth 30 = .ok (.goto 4, 3) := by decide +kernel
theorem dX9_lineWidth_33 : decode cX9_lineWidth 33 = .ok (.iconst 0, 1) := by decide +kernel
theorem dX9_lineWidth_34 : decode cX9_lineWidth 34 = .ok (.ireturn, 1) := by decide +kernel
theorem dX9_beginsParagraph_0 : decode cX9_beginsParagraph 0 = .ok (.iload_n 1, 1) := by decide +kernel
theorem dX9_beginsParagraph_1 : decode cX9_beginsParagraph 1 = .ok (.ifCond .eq 18, 3) := by decide +kernel
theorem dX9_beginsParagraph_4 : decode cX9_beginsParagraph 4 = .ok (.aload_n 0, 1) := by decide +kernel
theorem dX9_beginsParagraph_5 : decode cX9_beginsParagraph 5 = .ok (.getfield 7, 3) := by decide +kernel
theorem dX9_beginsParagraph_8 : decode cX9_beginsParagraph 8 = .ok (.bipush 40, 2) := by decide +kernel
theorem dX9_beginsParagraph_10 : decode cX9_beginsParagraph 10 = .ok (.iload_n 1, 1) := by decide +kernel
theorem dX9_beginsParagraph_11 : decode cX9_beginsParagraph 11 = .ok (.iadd, 1) := by decide +kernel
theorem dX9_beginsParagraph_12 : decode cX9_beginsParagraph 12 = .ok (.iconst 1, 1) := by decide +kernel
theorem dX9_beginsParagraph_13 : decode cX9_beginsParagraph 13 = .ok (.isub, 1) := by decide +kernel
theorem dX9_beginsParagraph_14 : decode cX9_beginsParagraph 14 = .ok (.iaload, 1) := by decide +kernel
theorem dX9_beginsParagraph_15 : decode cX9_beginsParagraph 15 = .ok (.iconst 2, 1) := by decide +kernel
theorem dX9_beginsParagraph_16 : decode cX9_beginsParagraph 16 = .ok (.if_icmp .ne 7, 3) := by decide +kernel
theorem dX9_beginsParagraph_19 : decode cX9_beginsParagraph 19 = .ok (.iconst 1, 1) := by decide +kernel
theorem dX9_beginsParagraph_20 : decode cX9_beginsParagraph 20 = .ok (.goto 4, 3) := by decide +kernel
theorem dX9_beginsParagraph_23 : decode cX9_beginsParagraph 23 = .ok (.iconst 0, 1) := by decide +kernel
theorem dX9_beginsParagraph_24 : decode cX9_beginsParagraph 24 = .ok (.ireturn, 1) := by decide +kernel
theorem dX9_isFirst_0 : decode cX9_isFirst 0 = .ok (.aload_n 0, 1) := by decide +kernel
theorem dX9_isFirst_1 : decode cX9_isFirst 1 = .ok (.iload_n 1, 1) := by decide +kernel
theorem dX9_isFirst_2 : decode cX9_isFirst 2 = .ok (.invokevirtual 126, 3) := by decide +kernel
theorem dX9_isFirst_5 : decode cX9_isFirst 5 = .ok (.istore_n 2, 1) := by decide +kernel
theorem dX9_isFirst_6 : decode cX9_isFirst 6 = .ok (.aload_n 0, 1) := by decide +kernel
theorem dX9_isFirst_7 : decode cX9_isFirst 7 = .ok (.iload_n 2, 1) := by decide +kernel
theorem dX9_isFirst_8 : decode cX9_isFirst 8 = .ok (.invokevirtual 129, 3) := by decide +kernel
theorem dX9_isFirst_11 : decode cX9_isFirst 11 = .ok (.ifCond .eq 20, 3) := by decide +kernel
theorem dX9_isFirst_14 : decode cX9_isFirst 14 = .ok (.aload_n 0, 1) := by decide +kernel
theorem dX9_isFirst_15 : decode cX9_isFirst 15 = .ok (.iload_n 2, 1) := by decide +kernel
theorem dX9_isFirst_16 : decode cX9_isFirst 16 = .ok (.invokevirtual 107, 3) := by decide +kernel
theorem dX9_isFirst_19 : decode cX9_isFirst 19 = .ok (.aload_n 0, 1) := by decide +kernel
theorem dX9_isFirst_20 : decode cX9_isFirst 20 = .ok (.iload_n 2, 1) := by decide +kernel
theorem dX9_isFirst_21 : decode cX9_isFirst 21 = .ok (.invokevirtual 90, 3) := by decide +kernel
theorem dX9_isFirst_24 : decode cX9_isFirst 24 = .ok (.if_icmp .ge 7, 3) := by decide +kernel
theorem dX9_isFirst_27 : decode cX9_isFirst 27 = .ok (.iconst 1, 1) := by decide +kernel
theorem dX9_isFirst_28 : decode cX9_isFirst 28 = .ok (.goto 4, 3) := by decide +kernel
theorem dX9_isFirst_31 : decode cX9_isFirst 31 = .ok (.iconst 0, 1) := by decide +kernel
theorem dX9_isFirst_32 : decode cX9_isFirst 32 = .ok (.ireturn, 1) := by decide +kernel
theorem dX9_isLast_0 : decode cX9_isLast 0 = .ok (.aload_n 0, 1) := by decide +kernel
theorem dX9_isLast_1 : decode cX9_isLast 1 = .ok (.iload_n 1, 1) := by decide +kernel
theorem dX9_isLast_2 : decode cX9_isLast 2 = .ok (.invokevirtual 126, 3) := by decide +kernel
theorem dX9_isLast_5 : decode cX9_isLast 5 = .ok (.istore_n 2, 1) := by decide +kernel
theorem dX9_isLast_6 : decode cX9_isLast 6 = .ok (.aload_n 0, 1) := by decide +kernel
theorem dX9_isLast_7 : decode cX9_isLast 7 = .ok (.iload_n 2, 1) := by decide +kernel
theorem dX9_isLast_8 : decode cX9_isLast 8 = .ok (.invokevirtual 129, 3) := by decide +kernel
theorem dX9_isLast_11 : decode cX9_isLast 11 = .ok (.ifCond .ne 20, 3) := by decide +kernel
theorem dX9_isLast_14 : decode cX9_isLast 14 = .ok (.aload_n 0, 1) := by decide +kernel
theorem dX9_isLast_15 : decode cX9_isLast 15 = .ok (.iload_n 2, 1) := by decide +kernel
theorem dX9_isLast_16 : decode cX9_isLast 16 = .ok (.invokevirtual 107, 3) := by decide +kernel
theorem dX9_isLast_19 : decode cX9_isLast 19 = .ok (.aload_n 0, 1) := by decide +kernel
theorem dX9_isLast_20 : decode cX9_isLast 20 = .ok (.iload_n 2, 1) := by decide +kernel
theorem dX9_isLast_21 : decode cX9_isLast 21 = .ok (.invokevirtual 90, 3) := by decide +kernel
theorem dX9_isLast_24 : decode cX9_isLast 24 = .ok (.if_icmp .ne 7, 3) := by decide +kernel
theorem dX9_isLast_27 : decode cX9_isLast 27 = .ok (.iconst 1, 1) := by decide +kernel
theorem dX9_isLast_28 : decode cX9_isLast 28 = .ok (.goto 4, 3) := by decide +kernel
theorem dX9_isLast_31 : decode cX9_isLast 31 = .ok (.iconst 0, 1) := by decide +kernel
theorem dX9_isLast_32 : decode cX9_isLast 32 = .ok (.ireturn, 1) := by decide +kernel
theorem dX9_stairOver_0 : decode cX9_stairOver 0 = .ok (.aload_n 0, 1) := by decide +kernel
theorem dX9_stairOver_1 : decode cX9_stairOver 1 = .ok (.iload_n 1, 1) := by decide +kernel
theorem dX9_stairOver_2 : decode cX9_stairOver 2 = .ok (.invokevirtual 126, 3) := by decide +kernel
theorem dX9_stairOver_5 : decode cX9_stairOver 5 = .ok (.istore_n 2, 1) := by decide +kernel
theorem dX9_stairOver_6 : decode cX9_stairOver 6 = .ok (.aload_n 0, 1) := by decide +kernel
theorem dX9_stairOver_7 : decode cX9_stairOver 7 = .ok (.iload_n 2, 1) := by decide +kernel
theorem dX9_stairOver_8 : decode cX9_stairOver 8 = .ok (.invokevirtual 129, 3) := by decide +kernel
theorem dX9_stairOver_11 : decode cX9_stairOver 11 = .ok (.ifCond .eq 7, 3) := by decide +kernel
theorem dX9_stairOver_14 : decode cX9_stairOver 14 = .ok (.iconst 0, 1) := by decide +kernel
theorem dX9_stairOver_15 : decode cX9_stairOver 15 = .ok (.goto 20, 3) := by decide +kernel
theorem dX9_stairOver_18 : decode cX9_stairOver 18 = .ok (.aload_n 0, 1) := by decide +kernel
theorem dX9_stairOver_19 : decode cX9_stairOver 19 = .ok (.aload_n 0, 1) := by decide +kernel
theorem dX9_stairOver_20 : decode cX9_stairOver 20 = .ok (.iload_n 1, 1) := by decide +kernel
theorem dX9_stairOver_21 : decode cX9_stairOver 21 = .ok (.iconst 1, 1) := by decide +kernel
theorem dX9_stairOver_22 : decode cX9_stairOver 22 = .ok (.isub, 1) := by decide +kernel
theorem dX9_stairOver_23 : decode cX9_stairOver 23 = .ok (.invokevirtual 126, 3) := by decide +kernel
theorem dX9_stairOver_26 : decode cX9_stairOver 26 = .ok (.iload_n 2, 1) := by decide +kernel
theorem dX9_stairOver_27 : decode cX9_stairOver 27 = .ok (.aload_n 0, 1) := by decide +kernel
theorem dX9_stairOver_28 : decode cX9_stairOver 28 = .ok (.iload_n 2, 1) := by decide +kernel
theorem dX9_stairOver_29 : decode cX9_stairOver 29 = .ok (.invokevirtual 90, 3) := by decide +kernel
theorem dX9_stairOver_32 : decode cX9_stairOver 32 = .ok (.invokevirtual 110, 3) := by decide +kernel
theorem dX9_stairOver_35 : decode cX9_stairOver 35 = .ok (.ireturn, 1) := by decide +kernel
theorem dX9_stairAt_0 : decode cX9_stairAt 0 = .ok (.aload_n 0, 1) := by decide +kernel
theorem dX9_stairAt_1 : decode cX9_stairAt 1 = .ok (.aload_n 0, 1) := by decide +kernel
theorem dX9_stairAt_2 : decode cX9_stairAt 2 = .ok (.iload_n 1, 1) := by decide +kernel
theorem dX9_stairAt_3 : decode cX9_stairAt 3 = .ok (.invokevirtual 123, 3) := by decide +kernel
theorem dX9_stairAt_6 : decode cX9_stairAt 6 = .ok (.iconst 1, 1) := by decide +kernel
theorem dX9_stairAt_7 : decode cX9_stairAt 7 = .ok (.iconst 1, 1) := by decide +kernel
theorem dX9_stairAt_8 : decode cX9_stairAt 8 = .ok (.invokevirtual 51, 3) := by decide +kernel
theorem dX9_stairAt_11 : decode cX9_stairAt 11 = .ok (.ifCond .eq 11, 3) := by decide +kernel
theorem dX9_stairAt_14 : decode cX9_stairAt 14 = .ok (.aload_n 0, 1) := by decide +kernel
theorem dX9_stairAt_15 : decode cX9_stairAt 15 = .ok (.iload_n 1, 1) := by decide +kernel
theorem dX9_stairAt_16 : decode cX9_stairAt 16 = .ok (.invokevirtual 132, 3) := by decide +kernel
theorem dX9_stairAt_19 : decode cX9_stairAt 19 = .ok (.goto 4, 3) := by decide +kernel
theorem dX9_stairAt_22 : decode cX9_stairAt 22 = .ok (.iconst 0, 1) := by decide +kernel
theorem dX9_stairAt_23 : decode cX9_stairAt 23 = .ok (.ireturn, 1) := by decide +kernel
theorem dX9_reasonOf_0 : decode cX9_reasonOf 0 = .ok (.aload_n 0, 1) := by decide +kernel
theorem dX9_reasonOf_1 : decode cX9_reasonOf 1 = .ok (.getfield 17, 3) := by decide +kernel
theorem dX9_reasonOf_4 : decode cX9_reasonOf 4 = .ok (.iload_n 1, 1) := by decide +kernel
theorem dX9_reasonOf_5 : decode cX9_reasonOf 5 = .ok (.baload, 1) := by decide +kernel
theorem dX9_reasonOf_6 : decode cX9_reasonOf 6 = .ok (.ifCond .ne 5, 3) := by decide +kernel
theorem dX9_reasonOf_9 : decode cX9_reasonOf 9 = .ok (.iconst 0, 1) := by decide +kernel
theorem dX9_reasonOf_10 : decode cX9_reasonOf 10 = .ok (.ireturn, 1) := by decide +kernel
theorem dX9_reasonOf_11 : decode cX9_reasonOf 11 = .ok (.iload_n 1, 1) := by decide +kernel
theorem dX9_reasonOf_12 : decode cX9_reasonOf 12 = .ok (.aload_n 0, 1) := by decide +kernel
theorem dX9_reasonOf_13 : decode cX9_reasonOf 13 = .ok (.getfield 7, 3) := by decide +kernel
theorem dX9_reasonOf_16 : decode cX9_reasonOf 16 = .ok (.bipush 80, 2) := by decide +kernel
theorem dX9_reasonOf_18 : decode cX9_reasonOf 18 = .ok (.iaload, 1) := by decide +kernel
theorem dX9_reasonOf_19 : decode cX9_reasonOf 19 = .ok (.iconst 1, 1) := by decide +kernel
theorem dX9_reasonOf_20 : decode cX9_reasonOf 20 = .ok (.isub, 1) := by decide +kernel
theorem dX9_reasonOf_21 : decode cX9_reasonOf 21 = .ok (.if_icmp .eq 16, 3) := by decide +kernel
theorem dX9_reasonOf_24 : decode cX9_reasonOf 24 = .ok (.aload_n 0, 1) := by decide +kernel
theorem dX9_reasonOf_25 : decode cX9_reasonOf 25 = .ok (.getfield 7, 3) := by decide +kernel
theorem dX9_reasonOf_28 : decode cX9_reasonOf 28 = .ok (.bipush 40, 2) := by decide +kernel
theorem dX9_reasonOf_30 : decode cX9_reasonOf 30 = .ok (.iload_n 1, 1) := by decide +kernel
theorem dX9_reasonOf_31 : decode cX9_reasonOf 31 = .ok (.iadd, 1) := by decide +kernel
theorem dX9_reasonOf_32 : decode cX9_reasonOf 32 = .ok (.iaload, 1) := by decide +kernel
theorem dX9_reasonOf_33 : decode cX9_reasonOf 33 = .ok (.iconst 2, 1) := by decide +kernel
theorem dX9_reasonOf_34 : decode cX9_reasonOf 34 = .ok (.if_icmp .ne 5, 3) := by decide +kernel
theorem dX9_reasonOf_37 : decode cX9_reasonOf 37 = .ok (.iconst 1, 1) := by decide +kernel
theorem dX9_reasonOf_38 : decode cX9_reasonOf 38 = .ok (.ireturn, 1) := by decide +kernel
theorem dX9_reasonOf_39 : decode cX9_reasonOf 39 = .ok (.aload_n 0, 1) := by decide +kernel
theorem dX9_reasonOf_40 : decode cX9_reasonOf 40 = .ok (.getfield 7, 3) := by decide +kernel
theorem dX9_reasonOf_43 : decode cX9_reasonOf 43 = .ok (.bipush 40, 2) := by decide +kernel
theorem dX9_reasonOf_45 : decode cX9_reasonOf 45 = .ok (.iload_n 1, 1) := by decide +kernel
theorem dX9_reasonOf_46 : decode cX9_reasonOf 46 = .ok (.iadd, 1) := by decide +kernel
theorem dX9_reasonOf_47 : decode cX9_reasonOf 47 = .ok (.iaload, 1) := by decide +kernel
theorem dX9_reasonOf_48 : decode cX9_reasonOf 48 = .ok (.iconst 1, 1) := by decide +kernel
theorem dX9_reasonOf_49 : decode cX9_reasonOf 49 = .ok (.if_icmp .ne 7, 3) := by decide +kernel
theorem dX9_reasonOf_52 : decode cX9_reasonOf 52 = .ok (.iconst 2, 1) := by decide +kernel
theorem dX9_reasonOf_53 : decode cX9_reasonOf 53 = .ok (.goto 34, 3) := by decide +kernel
theorem dX9_reasonOf_56 : decode cX9_reasonOf 56 = .ok (.aload_n 0, 1) := by decide +kernel
theorem dX9_reasonOf_57 : decode cX9_reasonOf 57 = .ok (.aload_n 0, 1) := by decide +kernel
theorem dX9_reasonOf_58 : decode cX9_reasonOf 58 = .ok (.aload_n 0, 1) := by decide +kernel
theorem dX9_reasonOf_59 : decode cX9_reasonOf 59 = .ok (.iload_n 1, 1) := by decide +kernel
theorem dX9_reasonOf_60 : decode cX9_reasonOf 60 = .ok (.invokevirtual 120, 3) := by decide +kernel
theorem dX9_reasonOf_63 : decode cX9_reasonOf 63 = .ok (.invokevirtual 126, 3) := by decide +kernel
theorem dX9_reasonOf_66 : decode cX9_reasonOf 66 = .ok (.iload_n 1, 1) := by decide +kernel
theorem dX9_reasonOf_67 : decode cX9_reasonOf 67 = .ok (.iconst 2, 1) := by decide +kernel
theorem dX9_reasonOf_68 : decode cX9_reasonOf 68 = .ok (.iadd, 1) := by decide +kernel
theorem dX9_reasonOf_69 : decode cX9_reasonOf 69 = .ok (.invokevirtual 70, 3) := by decide +kernel
theorem dX9_reasonOf_72 : decode cX9_reasonOf 72 = .ok (.aload_n 0, 1) := by decide +kernel
theorem dX9_reasonOf_73 : decode cX9_reasonOf 73 = .ok (.getfield 7, 3) := by decide +kernel
theorem dX9_reasonOf_76 : decode cX9_reasonOf 76 = .ok (.bipush 81, 2) := by decide +kernel
theorem dX9_reasonOf_78 : decode cX9_reasonOf 78 = .ok (.iaload, 1) := by decide +kernel
theorem dX9_reasonOf_79 : decode cX9_reasonOf 79 = .ok (.if_icmp .le 7, 3) := by decide +kernel
theorem dX9_reasonOf_82 : decode cX9_reasonOf 82 = .ok (.iconst 3, 1) := by decide +kernel
theorem dX9_reasonOf_83 : decode cX9_reasonOf 83 = .ok (.goto 4, 3) := by decide +kernel
theorem dX9_reasonOf_86 : decode cX9_reasonOf 86 = .ok (.iconst 4, 1) := by decide +kernel
theorem dX9_reasonOf_87 : decode cX9_reasonOf 87 = .ok (.ireturn, 1) := by decide +kernel
theorem dX9_reason_0 : decode cX9_reason 0 = .ok (.aload_n 0, 1) := by decide +kernel
theorem dX9_reason_1 : decode cX9_reason 1 = .ok (.invokevirtual 113, 3) := by decide +kernel
theorem dX9_reason_4 : decode cX9_reason 4 = .ok (.istore_n 2, 1) := by decide +kernel
theorem dX9_reason_5 : decode cX9_reason 5 = .ok (.aload_n 0, 1) := by decide +kernel
theorem dX9_reason_6 : decode cX9_reason 6 = .ok (.aload_n 0, 1) := by decide +kernel
theorem dX9_reason_7 : decode cX9_reason 7 = .ok (.iload_n 1, 1) := by decide +kernel
theorem dX9_reason_8 : decode cX9_reason 8 = .ok (.invokevirtual 62, 3) := by decide +kernel
theorem dX9_reason_11 : decode cX9_reason 11 = .ok (.iconst 1, 1) := by decide +kernel
theorem dX9_reason_12 : decode cX9_reason 12 = .ok (.iconst 1, 1) := by decide +kernel
theorem dX9_reason_13 : decode cX9_reason 13 = .ok (.invokevirtual 51, 3) := by decide +kernel
theorem dX9_reason_16 : decode cX9_reason 16 = .ok (.ifCond .eq 11, 3) := by decide +kernel
theorem dX9_reason_19 : decode cX9_reason 19 = .ok (.aload_n 0, 1) := by decide +kernel
theorem dX9_reason_20 : decode cX9_reason 20 = .ok (.iload_n 1, 1) := by decide +kernel
theorem dX9_reason_21 : decode cX9_reason 21 = .ok (.invokevirtual 135, 3) := by decide +kernel
theorem dX9_reason_24 : decode cX9_reason 24 = .ok (.goto 4, 3) := by decide +kernel
theorem dX9_reason_27 : decode cX9_reason 27 = .ok (.iconst 0, 1) := by decide +kernel
theorem dX9_reason_28 : decode cX9_reason 28 = .ok (.ireturn, 1) := by decide +kernel
theorem dX9_manyParagraphs_0 : decode cX9_manyParagraphs 0 = .ok (.iconst 0, 1) := by decide +kernel
theorem dX9_manyParagraphs_1 : decode cX9_manyParagraphs 1 = .ok (.istore_n 1, 1) := by decide +kernel
theorem dX9_manyParagraphs_2 : decode cX9_manyParagraphs 2 = .ok (.iconst 0, 1) := by decide +kernel
theorem dX9_manyParagraphs_3 : decode cX9_manyParagraphs 3 = .ok (.istore_n 2, 1) := by decide +kernel
theorem dX9_manyParagraphs_4 : decode cX9_manyParagraphs 4 = .ok (.iload_n 2, 1) := by decide +kernel
theorem dX9_manyParagraphs_5 : decode cX9_manyParagraphs 5 = .ok (.aload_n 0, 1) := by decide +kernel
theorem dX9_manyParagraphs_6 : decode cX9_manyParagraphs 6 = .ok (.getfield 7, 3) := by decide +kernel
theorem dX9_manyParagraphs_9 : decode cX9_manyParagraphs 9 = .ok (.bipush 80, 2) := by decide +kernel
theorem dX9_manyParagraphs_11 : decode cX9_manyParagraphs 11 = .ok (.iaload, 1) := by decide +kernel
theorem dX9_manyParagraphs_12 : decode cX9_manyParagraphs 12 = .ok (.if_icmp .ge 15, 3) := by decide +kernel
theorem dX9_manyParagraphs_15 : decode cX9_manyParagraphs 15 = .ok (.iinc 1 1, 3) := by decide +kernel
theorem dX9_manyParagraphs_18 : decode cX9_manyParagraphs 18 = .ok (.aload_n 0, 1) := by decide +kernel
theorem dX9_manyParagraphs_19 : decode cX9_manyParagraphs 19 = .ok (.iload_n 2, 1) := by decide +kernel
theorem dX9_manyParagraphs_20 : decode cX9_manyParagraphs 20 = .ok (.invokevirtual 90, 3) := by decide +kernel
theorem dX9_manyParagraphs_23 : decode cX9_manyParagraphs 23 = .ok (.istore_n 2, 1) := by decide +kernel
theorem dX9_manyParagraphs_24 : decode cX9_manyParagraphs 24 = .ok (.goto (-20), 3) := by decide +kernel
theorem dX9_manyParagraphs_27 : decode cX9_manyParagraphs 27 = .ok (.iload_n 1, 1) := by decide +kernel
theorem dX9_manyParagraphs_28 : decode cX9_manyParagraphs 28 = .ok (.ireturn, 1) := by decide +kernel
theorem dX9_paragraphs_0 : decode cX9_paragraphs 0 = .ok (.aload_n 0, 1) := by decide +kernel
theorem dX9_paragraphs_1 : decode cX9_paragraphs 1 = .ok (.iconst 0, 1) := by decide +kernel
theorem dX9_paragraphs_2 : decode cX9_paragraphs 2 = .ok (.putfield 36, 3) := by decide +kernel
theorem dX9_paragraphs_5 : decode cX9_paragraphs 5 = .ok (.aload_n 0, 1) := by decide +kernel
theorem dX9_paragraphs_6 : decode cX9_paragraphs 6 = .ok (.invokevirtual 138, 3) := by decide +kernel
theorem dX9_paragraphs_9 : decode cX9_paragraphs 9 = .ok (.ireturn, 1) := by decide +kernel
theorem dX9_manyStairs_0 : decode cX9_manyStairs 0 = .ok (.iconst 0, 1) := by decide +kernel
theorem dX9_manyStairs_1 : decode cX9_manyStairs 1 = .ok (.istore_n 1, 1) := by decide +kernel
theorem dX9_manyStairs_2 : decode cX9_manyStairs 2 = .ok (.iconst 0, 1) := by decide +kernel
theorem dX9_manyStairs_3 : decode cX9_manyStairs 3 = .ok (.istore_n 2, 1) := by decide +kernel
theorem dX9_manyStairs_4 : decode cX9_manyStairs 4 = .ok (.iload_n 2, 1) := by decide +kernel
theorem dX9_manyStairs_5 : decode cX9_manyStairs 5 = .ok (.aload_n 0, 1) := by decide +kernel
theorem dX9_manyStairs_6 : decode cX9_manyStairs 6 = .ok (.invokevirtual 117, 3) := by decide +kernel
theorem dX9_manyStairs_9 : decode cX9_manyStairs 9 = .ok (.if_icmp .ge 25, 3) := by decide +kernel
theorem dX9_manyStairs_12 : decode cX9_manyStairs 12 = .ok (.iload_n 1, 1) := by decide +kernel
theorem dX9_manyStairs_13 : decode cX9_manyStairs 13 = .ok (.aload_n 0, 1) := by decide +kernel
theorem dX9_manyStairs_14 : decode cX9_manyStairs 14 = .ok (.iload_n 2, 1) := by decide +kernel
theorem dX9_manyStairs_15 : decode cX9_manyStairs 15 = .ok (.invokevirtual 132, 3) := by decide +kernel
theorem dX9_manyStairs_18 : decode cX9_manyStairs 18 = .ok (.ifCond .ne 7, 3) := by decide +kernel
theorem dX9_manyStairs_21 : decode cX9_manyStairs 21 = .ok (.iconst 0, 1) := by decide +kernel
theorem dX9_manyStairs_22 : decode cX9_manyStairs 22 = .ok (.goto 4, 3) := by decide +kernel
theorem dX9_manyStairs_25 : decode cX9_manyStairs 25 = .ok (.iconst 1, 1) := by decide +kernel
theorem dX9_manyStairs_26 : decode cX9_manyStairs 26 = .ok (.iadd, 1) := by decide +kernel
theorem dX9_manyStairs_27 : decode cX9_manyStairs 27 = .ok (.istore_n 1, 1) := by decide +kernel
theorem dX9_manyStairs_28 : decode cX9_manyStairs 28 = .ok (.iinc 2 1, 3) := by decide +kernel
theorem dX9_manyStairs_31 : decode cX9_manyStairs 31 = .ok (.goto (-27), 3) := by decide +kernel
theorem dX9_manyStairs_34 : decode cX9_manyStairs 34 = .ok (.iload_n 1, 1) := by decide +kernel
theorem dX9_manyStairs_35 : decode cX9_manyStairs 35 = .ok (.ireturn, 1) := by decide +kernel
theorem dX9_stairs_0 : decode cX9_stairs 0 = .ok (.aload_n 0, 1) := by decide +kernel
theorem dX9_stairs_1 : decode cX9_stairs 1 = .ok (.iconst 0, 1) := by decide +kernel
theorem dX9_stairs_2 : decode cX9_stairs 2 = .ok (.putfield 36, 3) := by decide +kernel
theorem dX9_stairs_5 : decode cX9_stairs 5 = .ok (.aload_n 0, 1) := by decide +kernel
theorem dX9_stairs_6 : decode cX9_stairs 6 = .ok (.invokevirtual 113, 3) := by decide +kernel
theorem dX9_stairs_9 : decode cX9_stairs 9 = .ok (.istore_n 1, 1) := by decide +kernel
theorem dX9_stairs_10 : decode cX9_stairs 10 = .ok (.aload_n 0, 1) := by decide +kernel
theorem dX9_stairs_11 : decode cX9_stairs 11 = .ok (.invokevirtual 141, 3) := by decide +kernel
theorem dX9_stairs_14 : decode cX9_stairs 14 = .ok (.ireturn, 1) := by decide +kernel
theorem dX9_cost_0 : decode cX9_cost 0 = .ok (.aload_n 0, 1) := by decide +kernel
theorem dX9_cost_1 : decode cX9_cost 1 = .ok (.iconst 0, 1) := by decide +kernel
theorem dX9_cost_2 : decode cX9_cost 2 = .ok (.putfield 36, 3) := by decide +kernel
theorem dX9_cost_5 : decode cX9_cost 5 = .ok (.aload_n 0, 1) := by decide +kernel
theorem dX9_cost_6 : decode cX9_cost 6 = .ok (.invokevirtual 113, 3) := by decide +kernel
theorem dX9_cost_9 : decode cX9_cost 9 = .ok (.ireturn, 1) := by decide +kernel
theorem dX9_turns_0 : decode cX9_turns 0 = .ok (.aload_n 0, 1) := by decide +kernel
theorem dX9_turns_1 : decode cX9_turns 1 = .ok (.invokevirtual 117, 3) := by decide +kernel
theorem dX9_turns_4 : decode cX9_turns 4 = .ok (.istore_n 1, 1) := by decide +kernel
theorem dX9_turns_5 : decode cX9_turns 5 = .ok (.iconst 0, 1) := by decide +kernel
theorem dX9_turns_6 : decode cX9_turns 6 = .ok (.istore_n 2, 1) := by decide +kernel
theorem dX9_turns_7 : decode cX9_turns 7 = .ok (.iconst 0, 1) := by decide +kernel
theorem dX9_turns_8 : decode cX9_turns 8 = .ok (.istore_n 3, 1) := by decide +kernel
theorem dX9_turns_9 : decode cX9_turns 9 = .ok (.iload_n 3, 1) := by decide +kernel
theorem dX9_turns_10 : decode cX9_turns 10 = .ok (.iload_n 1, 1) := by decide +kernel
theorem dX9_turns_11 : decode cX9_turns 11 = .ok (.if_icmp .ge 81, 3) := by decide +kernel
theorem dX9_turns_14 : decode cX9_turns 14 = .ok (.iload_n 3, 1) := by decide +kernel
theorem dX9_turns_15 : decode cX9_turns 15 = .ok (.aload_n 0, 1) := by decide +kernel
theorem dX9_turns_16 : decode cX9_turns 16 = .ok (.getfield 7, 3) := by decide +kernel
theorem dX9_turns_19 : decode cX9_turns 19 = .ok (.bipush 86, 2) := by decide +kernel
theorem dX9_turns_21 : decode cX9_turns 21 = .ok (.iaload, 1) := by decide +kernel
theorem dX9_turns_22 : decode cX9_turns 22 = .ok (.iadd, 1) := by decide +kernel
theorem dX9_turns_23 : decode cX9_turns 23 = .ok (.istore 4, 2) := by decide +kernel
theorem dX9_turns_25 : decode cX9_turns 25 = .ok (.iload 4, 2) := by decide +kernel
theorem dX9_turns_27 : decode cX9_turns 27 = .ok (.iload_n 1, 1) := by decide +kernel
theorem dX9_turns_28 : decode cX9_turns 28 = .ok (.if_icmp .ge 36, 3) := by decide +kernel
theorem dX9_turns_31 : decode cX9_turns 31 = .ok (.iload 4, 2) := by decide +kernel
theorem dX9_turns_33 : decode cX9_turns 33 = .ok (.aload_n 0, 1) := by decide +kernel
theorem dX9_turns_34 : decode cX9_turns 34 = .ok (.iload 4, 2) := by decide +kernel
theorem dX9_turns_36 : decode cX9_turns 36 = .ok (.iconst 1, 1) := by decide +kernel
theorem dX9_turns_37 : decode cX9_turns 37 = .ok (.isub, 1) := by decide +kernel
theorem dX9_turns_38 : decode cX9_turns 38 = .ok (.invokevirtual 144, 3) := by decide +kernel
theorem dX9_turns_41 : decode cX9_turns 41 = .ok (.ifCond .ne 12, 3) := by decide +kernel
theorem dX9_turns_44 : decode cX9_turns 44 = .ok (.aload_n 0, 1) := by decide +kernel
theorem dX9_turns_45 : decode cX9_turns 45 = .ok (.iload 4, 2) := by decide +kernel
theorem dX9_turns_47 : decode cX9_turns 47 = .ok (.invokevirtual 147, 3) := by decide +kernel
theorem dX9_turns_50 : decode cX9_turns 50 = .ok (.ifCond .eq 7, 3) := by decide +kernel
theorem dX9_turns_53 : decode cX9_turns 53 = .ok (.iconst 1, 1) := by decide +kernel
theorem dX9_turns_54 : decode cX9_turns 54 = .ok (.goto 4, 3) := by decide +kernel
theorem dX9_turns_57 : decode cX9_turns 57 = .ok (.iconst 0, 1) := by decide +kernel
theorem dX9_turns_58 : decode cX9_turns 58 = .ok (.isub, 1) := by decide +kernel
theorem dX9_turns_59 : decode cX9_turns 59 = .ok (.istore 4, 2) := by decide +kernel
theorem dX9_turns_61 : decode cX9_turns 61 = .ok (.goto 6, 3) := by decide +kernel
theorem dX9_turns_64 : decode cX9_turns 64 = .ok (.iload_n 1, 1) := by decide +kernel
theorem dX9_turns_65 : decode cX9_turns 65 = .ok (.istore 4, 2) := by decide +kernel
theorem dX9_turns_67 : decode cX9_turns 67 = .ok (.iload_n 3, 1) := by decide +kernel
theorem dX9_turns_68 : decode cX9_turns 68 = .ok (.iload 4, 2) := by decide +kernel
theorem dX9_turns_70 : decode cX9_turns 70 = .ok (.if_icmp .ge 16, 3) := by decide +kernel
theorem dX9_turns_73 : decode cX9_turns 73 = .ok (.aload_n 0, 1) := by decide +kernel
theorem dX9_turns_74 : decode cX9_turns 74 = .ok (.getfield 33, 3) := by decide +kernel
theorem dX9_turns_77 : decode cX9_turns 77 = .ok (.iload_n 3, 1) := by decide +kernel
theorem dX9_turns_78 : decode cX9_turns 78 = .ok (.iload_n 2, 1) := by decide +kernel
theorem dX9_turns_79 : decode cX9_turns 79 = .ok (.iastore, 1) := by decide +kernel
theorem dX9_turns_80 : decode cX9_turns 80 = .ok (.iinc 3 1, 3) := by decide +kernel
theorem dX9_turns_83 : decode cX9_turns 83 = .ok (.goto (-16), 3) := by decide +kernel
theorem dX9_turns_86 : decode cX9_turns 86 = .ok (.iinc 2 1, 3) := by decide +kernel
theorem dX9_turns_89 : decode cX9_turns 89 = .ok (.goto (-80), 3) := by decide +kernel
theorem dX9_turns_92 : decode cX9_turns 92 = .ok (.iload_n 2, 1) := by decide +kernel
theorem dX9_turns_93 : decode cX9_turns 93 = .ok (.ireturn, 1) := by decide +kernel
theorem dX9_pages_0 : decode cX9_pages 0 = .ok (.aload_n 0, 1) := by decide +kernel
theorem dX9_pages_1 : decode cX9_pages 1 = .ok (.iconst 0, 1) := by decide +kernel
theorem dX9_pages_2 : decode cX9_pages 2 = .ok (.putfield 36, 3) := by decide +kernel
theorem dX9_pages_5 : decode cX9_pages 5 = .ok (.aload_n 0, 1) := by decide +kernel
theorem dX9_pages_6 : decode cX9_pages 6 = .ok (.invokevirtual 113, 3) := by decide +kernel
theorem dX9_pages_9 : decode cX9_pages 9 = .ok (.istore_n 1, 1) := by decide +kernel
theorem dX9_pages_10 : decode cX9_pages 10 = .ok (.aload_n 0, 1) := by decide +kernel
theorem dX9_pages_11 : decode cX9_pages 11 = .ok (.invokevirtual 150, 3) := by decide +kernel
theorem dX9_pages_14 : decode cX9_pages 14 = .ok (.ireturn, 1) := by decide +kernel
theorem dX9_pageOf_0 : decode cX9_pageOf 0 = .ok (.aload_n 0, 1) := by decide +kernel
theorem dX9_pageOf_1 : decode cX9_pageOf 1 = .ok (.iload_n 1, 1) := by decide +kernel
theorem dX9_pageOf_2 : decode cX9_pageOf 2 = .ok (.invokevirtual 123, 3) := by decide +kernel
theorem dX9_pageOf_5 : decode cX9_pageOf 5 = .ok (.istore_n 2, 1) := by decide +kernel
theorem dX9_pageOf_6 : decode cX9_pageOf 6 = .ok (.aload_n 0, 1) := by decide +kernel
theorem dX9_pageOf_7 : decode cX9_pageOf 7 = .ok (.invokevirtual 150, 3) := by decide +kernel
theorem dX9_pageOf_10 : decode cX9_pageOf 10 = .ok (.istore_n 3, 1) := by decide +kernel
theorem dX9_pageOf_11 : decode cX9_pageOf 11 = .ok (.aload_n 0, 1) := by decide +kernel
theorem dX9_pageOf_12 : decode cX9_pageOf 12 = .ok (.iload_n 2, 1) := by decide +kernel
theorem dX9_pageOf_13 : decode cX9_pageOf 13 = .ok (.iconst 1, 1) := by decide +kernel
theorem dX9_pageOf_14 : decode cX9_pageOf 14 = .ok (.iconst 1, 1) := by decide +kernel
theorem dX9_pageOf_15 : decode cX9_pageOf 15 = .ok (.invokevirtual 51, 3) := by decide +kernel
theorem dX9_pageOf_18 : decode cX9_pageOf 18 = .ok (.ifCond .eq 12, 3) := by decide +kernel
theorem dX9_pageOf_21 : decode cX9_pageOf 21 = .ok (.aload_n 0, 1) := by decide +kernel
theorem dX9_pageOf_22 : decode cX9_pageOf 22 = .ok (.getfield 33, 3) := by decide +kernel
theorem dX9_pageOf_25 : decode cX9_pageOf 25 = .ok (.iload_n 1, 1) := by decide +kernel
theorem dX9_pageOf_26 : decode cX9_pageOf 26 = .ok (.iaload, 1) := by decide +kernel
theorem dX9_pageOf_27 : decode cX9_pageOf 27 = .ok (.goto 4, 3) := by decide +kernel
theorem dX9_pageOf_30 : decode cX9_pageOf 30 = .ok (.iconst 0, 1) := by decide +kernel
theorem dX9_pageOf_31 : decode cX9_pageOf 31 = .ok (.ireturn, 1) := by decide +kernel
theorem dX9_linesOn_0 : decode cX9_linesOn 0 = .ok (.aload_n 0, 1) := by decide +kernel
theorem dX9_linesOn_1 : decode cX9_linesOn 1 = .ok (.invokevirtual 113, 3) := by decide +kernel
theorem dX9_linesOn_4 : decode cX9_linesOn 4 = .ok (.istore_n 2, 1) := by decide +kernel
theorem dX9_linesOn_5 : decode cX9_linesOn 5 = .ok (.aload_n 0, 1) := by decide +kernel
theorem dX9_linesOn_6 : decode cX9_linesOn 6 = .ok (.iload_n 1, 1) := by decide +kernel
theorem dX9_linesOn_7 : decode cX9_linesOn 7 = .ok (.iconst 0, 1) := by decide +kernel
theorem dX9_linesOn_8 : decode cX9_linesOn 8 = .ok (.aload_n 0, 1) := by decide +kernel
theorem dX9_linesOn_9 : decode cX9_linesOn 9 = .ok (.invokevirtual 150, 3) := by decide +kernel
theorem dX9_linesOn_12 : decode cX9_linesOn 12 = .ok (.iconst 1, 1) := by decide +kernel
theorem dX9_linesOn_13 : decode cX9_linesOn 13 = .ok (.isub, 1) := by decide +kernel
theorem dX9_linesOn_14 : decode cX9_linesOn 14 = .ok (.invokestatic 47, 3) := by decide +kernel
theorem dX9_linesOn_17 : decode cX9_linesOn 17 = .ok (.iconst 1, 1) := by decide +kernel
theorem dX9_linesOn_18 : decode cX9_linesOn 18 = .ok (.iconst 1, 1) := by decide +kernel
theorem dX9_linesOn_19 : decode cX9_linesOn 19 = .ok (.invokevirtual 51, 3) := by decide +kernel
theorem dX9_linesOn_22 : decode cX9_linesOn 22 = .ok (.ifCond .ne 5, 3) := by decide +kernel
theorem dX9_linesOn_25 : decode cX9_linesOn 25 = .ok (.iconst 0, 1) := by decide +kernel
theorem dX9_linesOn_26 : decode cX9_linesOn 26 = .ok (.ireturn, 1) := by decide +kernel
theorem dX9_linesOn_27 : decode cX9_linesOn 27 = .ok (.iconst 0, 1) := by decide +kernel
theorem dX9_linesOn_28 : decode cX9_linesOn 28 = .ok (.istore_n 3, 1) := by decide +kernel
theorem dX9_linesOn_29 : decode cX9_linesOn 29 = .ok (.iconst 0, 1) := by decide +kernel
theorem dX9_linesOn_30 : decode cX9_linesOn 30 = .ok (.istore 4, 2) := by decide +kernel
theorem dX9_linesOn_32 : decode cX9_linesOn 32 = .ok (.iload 4, 2) := by decide +kernel
theorem dX9_linesOn_34 : decode cX9_linesOn 34 = .ok (.aload_n 0, 1) := by decide +kernel
theorem dX9_linesOn_35 : decode cX9_linesOn 35 = .ok (.invokevirtual 117, 3) := by decide +kernel
theorem dX9_linesOn_38 : decode cX9_linesOn 38 = .ok (.if_icmp .ge 28, 3) := by decide +kernel
theorem dX9_linesOn_41 : decode cX9_linesOn 41 = .ok (.iload_n 3, 1) := by decide +kernel
theorem dX9_linesOn_42 : decode cX9_linesOn 42 = .ok (.aload_n 0, 1) := by decide +kernel
theorem dX9_linesOn_43 : decode cX9_linesOn 43 = .ok (.getfield 33, 3) := by decide +kernel
theorem dX9_linesOn_46 : decode cX9_linesOn 46 = .ok (.iload 4, 2) := by decide +kernel
theorem dX9_linesOn_48 : decode cX9_linesOn 48 = .ok (.iaload, 1) := by decide +kernel
theorem dX9_linesOn_49 : decode cX9_linesOn 49 = .ok (.iload_n 1, 1) := by decide +kernel
theorem dX9_linesOn_50 : decode cX9_linesOn 50 = .ok (.if_icmp .ne 7, 3) := by decide +kernel
theorem dX9_linesOn_53 : decode cX9_linesOn 53 = .ok (.iconst 1, 1) := by decide +kernel
theorem dX9_linesOn_54 : decode cX9_linesOn 54 = .ok (.goto 4, 3) := by decide +kernel
theorem dX9_linesOn_57 : decode cX9_linesOn 57 = .ok (.iconst 0, 1) := by decide +kernel
theorem dX9_linesOn_58 : decode cX9_linesOn 58 = .ok (.iadd, 1) := by decide +kernel
theorem dX9_linesOn_59 : decode cX9_linesOn 59 = .ok (.istore_n 3, 1) := by decide +kernel
theorem dX9_linesOn_60 : decode cX9_linesOn 60 = .ok (.iinc 4 1, 3) := by decide +kernel
theorem dX9_linesOn_63 : decode cX9_linesOn 63 = .ok (.goto (-31), 3) := by decide +kernel
theorem dX9_linesOn_66 : decode cX9_linesOn 66 = .ok (.iload_n 3, 1) := by decide +kernel
theorem dX9_linesOn_67 : decode cX9_linesOn 67 = .ok (.ireturn, 1) := by decide +kernel
theorem dX9_badTurns_0 : decode cX9_badTurns 0 = .ok (.iconst 0, 1) := by decide +kernel
theorem dX9_badTurns_1 : decode cX9_badTurns 1 = .ok (.istore_n 2, 1) := by decide +kernel
theorem dX9_badTurns_2 : decode cX9_badTurns 2 = .ok (.iconst 1, 1) := by decide +kernel
theorem dX9_badTurns_3 : decode cX9_badTurns 3 = .ok (.istore_n 3, 1) := by decide +kernel
theorem dX9_badTurns_4 : decode cX9_badTurns 4 = .ok (.iload_n 3, 1) := by decide +kernel
theorem dX9_badTurns_5 : decode cX9_badTurns 5 = .ok (.aload_n 0, 1) := by decide +kernel
theorem dX9_badTurns_6 : decode cX9_badTurns 6 = .ok (.invokevirtual 117, 3) := by decide +kernel
theorem dX9_badTurns_9 : decode cX9_badTurns 9 = .ok (.if_icmp .ge 71, 3) := by decide +kernel
theorem dX9_badTurns_12 : decode cX9_badTurns 12 = .ok (.aload_n 0, 1) := by decide +kernel
theorem dX9_badTurns_13 : decode cX9_badTurns 13 = .ok (.getfield 33, 3) := by decide +kernel
theorem dX9_badTurns_16 : decode cX9_badTurns 16 = .ok (.iload_n 3, 1) := by decide +kernel
theorem dX9_badTurns_17 : decode cX9_badTurns 17 = .ok (.iaload, 1) := by decide +kernel
theorem dX9_badTurns_18 : decode cX9_badTurns 18 = .ok (.aload_n 0, 1) := by decide +kernel
theorem dX9_badTurns_19 : decode cX9_badTurns 19 = .ok (.getfield 33, 3) := by decide +kernel
theorem dX9_badTurns_22 : decode cX9_badTurns 22 = .ok (.iload_n 3, 1) := by decide +kernel
theorem dX9_badTurns_23 : decode cX9_badTurns 23 = .ok (.iconst 1, 1) := by decide +kernel
theorem dX9_badTurns_24 : decode cX9_badTurns 24 = .ok (.isub, 1) := by decide +kernel
theorem dX9_badTurns_25 : decode cX9_badTurns 25 = .ok (.iaload, 1) := by decide +kernel
theorem dX9_badTurns_26 : decode cX9_badTurns 26 = .ok (.if_icmp .eq 7, 3) := by decide +kernel
theorem dX9_badTurns_29 : decode cX9_badTurns 29 = .ok (.iconst 1, 1) := by decide +kernel
theorem dX9_badTurns_30 : decode cX9_badTurns 30 = .ok (.goto 4, 3) := by decide +kernel
theorem dX9_badTurns_33 : decode cX9_badTurns 33 = .ok (.iconst 0, 1) := by decide +kernel
theorem dX9_badTurns_34 : decode cX9_badTurns 34 = .ok (.istore 4, 2) := by decide +kernel
theorem dX9_badTurns_36 : decode cX9_badTurns 36 = .ok (.iload_n 2, 1) := by decide +kernel
theorem dX9_badTurns_37 : decode cX9_badTurns 37 = .ok (.iload 4, 2) := by decide +kernel
theorem dX9_badTurns_39 : decode cX9_badTurns 39 = .ok (.ifCond .eq 32, 3) := by decide +kernel
theorem dX9_badTurns_42 : decode cX9_badTurns 42 = .ok (.iload_n 1, 1) := by decide +kernel
theorem dX9_badTurns_43 : decode cX9_badTurns 43 = .ok (.ifCond .eq 14, 3) := by decide +kernel
theorem dX9_badTurns_46 : decode cX9_badTurns 46 = .ok (.aload_n 0, 1) := by decide +kernel
theorem dX9_badTurns_47 : decode cX9_badTurns 47 = .ok (.iload_n 3, 1) := by decide +kernel
theorem dX9_badTurns_48 : decode cX9_badTurns 48 = .ok (.invokevirtual 147, 3) := by decide +kernel
theorem dX9_badTurns_51 : decode cX9_badTurns 51 = .ok (.ifCond .eq 20, 3) := by decide +kernel
theorem dX9_badTurns_54 : decode cX9_badTurns 54 = .ok (.goto 13, 3) := by decide +kernel
theorem dX9_badTurns_57 : decode cX9_badTurns 57 = .ok (.aload_n 0, 1) := by decide +kernel
theorem dX9_badTurns_58 : decode cX9_badTurns 58 = .ok (.iload_n 3, 1) := by decide +kernel
theorem dX9_badTurns_59 : decode cX9_badTurns 59 = .ok (.iconst 1, 1) := by decide +kernel
theorem dX9_badTurns_60 : decode cX9_badTurns 60 = .ok (.isub, 1) := by decide +kernel
theorem dX9_badTurns_61 : decode cX9_badTurns 61 = .ok (.invokevirtual 144, 3) := by decide +kernel
theorem dX9_badTurns_64 : decode cX9_badTurns 64 = .ok (.ifCond .eq 7, 3) := by decide +kernel
theorem dX9_badTurns_67 : decode cX9_badTurns 67 = .ok (.iconst 1, 1) := by decide +kernel
theorem dX9_badTurns_68 : decode cX9_badTurns 68 = .ok (.goto 4, 3) := by decide +kernel
theorem dX9_badTurns_71 : decode cX9_badTurns 71 = .ok (.iconst 0, 1) := by decide +kernel
theorem dX9_badTurns_72 : decode cX9_badTurns 72 = .ok (.iadd, 1) := by decide +kernel
theorem dX9_badTurns_73 : decode cX9_badTurns 73 = .ok (.istore_n 2, 1) := by decide +kernel
theorem dX9_badTurns_74 : decode cX9_badTurns 74 = .ok (.iinc 3 1, 3) := by decide +kernel
theorem dX9_badTurns_77 : decode cX9_badTurns 77 = .ok (.goto (-73), 3) := by decide +kernel
theorem dX9_badTurns_80 : decode cX9_badTurns 80 = .ok (.iload_n 2, 1) := by decide +kernel
theorem dX9_badTurns_81 : decode cX9_badTurns 81 = .ok (.ireturn, 1) := by decide +kernel
theorem dX9_widows_0 : decode cX9_widows 0 = .ok (.aload_n 0, 1) := by decide +kernel
theorem dX9_widows_1 : decode cX9_widows 1 = .ok (.invokevirtual 153, 3) := by decide +kernel
theorem dX9_widows_4 : decode cX9_widows 4 = .ok (.istore_n 1, 1) := by decide +kernel
theorem dX9_widows_5 : decode cX9_widows 5 = .ok (.aload_n 0, 1) := by decide +kernel
theorem dX9_widows_6 : decode cX9_widows 6 = .ok (.iconst 1, 1) := by decide +kernel
theorem dX9_widows_7 : decode cX9_widows 7 = .ok (.invokevirtual 156, 3) := by decide +kernel
theorem dX9_widows_10 : decode cX9_widows 10 = .ok (.ireturn, 1) := by decide +kernel
theorem dX9_orphans_0 : decode cX9_orphans 0 = .ok (.aload_n 0, 1) := by decide +kernel
theorem dX9_orphans_1 : decode cX9_orphans 1 = .ok (.invokevirtual 153, 3) := by decide +kernel
theorem dX9_orphans_4 : decode cX9_orphans 4 = .ok (.istore_n 1, 1) := by decide +kernel
theorem dX9_orphans_5 : decode cX9_orphans 5 = .ok (.aload_n 0, 1) := by decide +kernel
theorem dX9_orphans_6 : decode cX9_orphans 6 = .ok (.iconst 0, 1) := by decide +kernel
theorem dX9_orphans_7 : decode cX9_orphans 7 = .ok (.invokevirtual 156, 3) := by decide +kernel
theorem dX9_orphans_10 : decode cX9_orphans 10 = .ok (.ireturn, 1) := by decide +kernel
theorem dX9_costFor_0 : decode cX9_costFor 0 = .ok (.aload_n 0, 1) := by decide +kernel
theorem dX9_costFor_1 : decode cX9_costFor 1 = .ok (.iload_n 1, 1) := by decide +kernel
theorem dX9_costFor_2 : decode cX9_costFor 2 = .ok (.bipush 30, 2) := by decide +kernel
theorem dX9_costFor_4 : decode cX9_costFor 4 = .ok (.bipush 100, 2) := by decide +kernel
theorem dX9_costFor_6 : decode cX9_costFor 6 = .ok (.invokestatic 47, 3) := by decide +kernel
theorem dX9_costFor_9 : decode cX9_costFor 9 = .ok (.iconst 1, 1) := by decide +kernel
theorem dX9_costFor_10 : decode cX9_costFor 10 = .ok (.iconst 1, 1) := by decide +kernel
theorem dX9_costFor_11 : decode cX9_costFor 11 = .ok (.invokevirtual 51, 3) := by decide +kernel
theorem dX9_costFor_14 : decode cX9_costFor 14 = .ok (.ifCond .eq 12, 3) := by decide +kernel
theorem dX9_costFor_17 : decode cX9_costFor 17 = .ok (.aload_n 0, 1) := by decide +kernel
theorem dX9_costFor_18 : decode cX9_costFor 18 = .ok (.iload_n 1, 1) := by decide +kernel
theorem dX9_costFor_19 : decode cX9_costFor 19 = .ok (.iload_n 2, 1) := by decide +kernel
theorem dX9_costFor_20 : decode cX9_costFor 20 = .ok (.invokevirtual 103, 3) := by decide +kernel
theorem dX9_costFor_23 : decode cX9_costFor 23 = .ok (.goto 4, 3) := by decide +kernel
theorem dX9_costFor_26 : decode cX9_costFor 26 = .ok (.iconst 0, 1) := by decide +kernel
theorem dX9_costFor_27 : decode cX9_costFor 27 = .ok (.ireturn, 1) := by decide +kernel
theorem dX9_bestColumn_0 : decode cX9_bestColumn 0 = .ok (.aload_n 0, 1) := by decide +kernel
theorem dX9_bestColumn_1 : decode cX9_bestColumn 1 = .ok (.iload_n 1, 1) := by decide +kernel
theorem dX9_bestColumn_2 : decode cX9_bestColumn 2 = .ok (.bipush 30, 2) := by decide +kernel
theorem dX9_bestColumn_4 : decode cX9_bestColumn 4 = .ok (.bipush 100, 2) := by decide +kernel
theorem dX9_bestColumn_6 : decode cX9_bestColumn 6 = .ok (.invokestatic 47, 3) := by decide +kernel
theorem dX9_bestColumn_9 : decode cX9_bestColumn 9 = .ok (.ifCond .eq 17, 3) := by decide +kernel
theorem dX9_bestColumn_12 : decode cX9_bestColumn 12 = .ok (.iload_n 2, 1) := by decide +kernel
theorem dX9_bestColumn_13 : decode cX9_bestColumn 13 = .ok (.iload_n 1, 1) := by decide +kernel
theorem dX9_bestColumn_14 : decode cX9_bestColumn 14 = .ok (.bipush 100, 2) := by decide +kernel
theorem dX9_bestColumn_16 : decode cX9_bestColumn 16 = .ok (.invokestatic 47, 3) := by decide +kernel
theorem dX9_bestColumn_19 : decode cX9_bestColumn 19 = .ok (.ifCond .eq 7, 3) := by decide +kernel
theorem dX9_bestColumn_22 : decode cX9_bestColumn 22 = .ok (.iconst 1, 1) := by decide +kernel
theorem dX9_bestColumn_23 : decode cX9_bestColumn 23 = .ok (.goto 4, 3) := by decide +kernel
theorem dX9_bestColumn_26 : decode cX9_bestColumn 26 = .ok (.iconst 0, 1) := by decide +kernel
theorem dX9_bestColumn_27 : decode cX9_bestColumn 27 = .ok (.iconst 1, 1) := by decide +kernel
theorem dX9_bestColumn_28 : decode cX9_bestColumn 28 = .ok (.iconst 1, 1) := by decide +kernel
theorem dX9_bestColumn_29 : decode cX9_bestColumn 29 = .ok (.invokevirtual 51, 3) := by decide +kernel
theorem dX9_bestColumn_32 : decode cX9_bestColumn 32 = .ok (.ifCond .ne 5, 3) := by decide +kernel
theorem dX9_bestColumn_35 : decode cX9_bestColumn 35 = .ok (.iconst 0, 1) := by decide +kernel
theorem dX9_bestColumn_36 : decode cX9_bestColumn 36 = .ok (.ireturn, 1) := by decide +kernel
theorem dX9_bestColumn_37 : decode cX9_bestColumn 37 = .ok (.iconst (-1), 1) := by decide +kernel
theorem dX9_bestColumn_38 : decode cX9_bestColumn 38 = .ok (.istore_n 3, 1) := by decide +kernel
theorem dX9_bestColumn_39 : decode cX9_bestColumn 39 = .ok (.iconst 0, 1) := by decide +kernel
theorem dX9_bestColumn_40 : decode cX9_bestColumn 40 = .ok (.istore 4, 2) := by decide +kernel
theorem dX9_bestColumn_42 : decode cX9_bestColumn 42 = .ok (.iload_n 1, 1) := by decide +kernel
theorem dX9_bestColumn_43 : decode cX9_bestColumn 43 = .ok (.istore 5, 2) := by decide +kernel
theorem dX9_bestColumn_45 : decode cX9_bestColumn 45 = .ok (.iload 5, 2) := by decide +kernel
theorem dX9_bestColumn_47 : decode cX9_bestColumn 47 = .ok (.iload_n 2, 1) := by decide +kernel
theorem dX9_bestColumn_48 : decode cX9_bestColumn 48 = .ok (.if_icmp .gt 63, 3) := by decide +kernel
theorem dX9_bestColumn_51 : decode cX9_bestColumn 51 = .ok (.aload_n 0, 1) := by decide +kernel
theorem dX9_bestColumn_52 : decode cX9_bestColumn 52 = .ok (.iload 5, 2) := by decide +kernel
theorem dX9_bestColumn_54 : decode cX9_bestColumn 54 = .ok (.iconst 1, 1) := by decide +kernel
theorem dX9_bestColumn_55 : decode cX9_bestColumn 55 = .ok (.invokevirtual 103, 3) := by decide +kernel
theorem dX9_bestColumn_58 : decode cX9_bestColumn 58 = .ok (.istore 6, 2) := by decide +kernel
theorem dX9_bestColumn_60 : decode cX9_bestColumn 60 = .ok (.iload_n 3, 1) := by decide +kernel
theorem dX9_bestColumn_61 : decode cX9_bestColumn 61 = .ok (.iconst (-1), 1) := by decide +kernel
theorem dX9_bestColumn_62 : decode cX9_bestColumn 62 = .ok (.if_icmp .eq 10, 3) := by decide +kernel
theorem dX9_bestColumn_65 : decode cX9_bestColumn 65 = .ok (.iload 6, 2) := by decide +kernel
theorem dX9_bestColumn_67 : decode cX9_bestColumn 67 = .ok (.iload 4, 2) := by decide +kernel
theorem dX9_bestColumn_69 : decode cX9_bestColumn 69 = .ok (.if_icmp .ge 7, 3) := by decide +kernel
theorem dX9_bestColumn_72 : decode cX9_bestColumn 72 = .ok (.iconst 1, 1) := by decide +kernel
theorem dX9_bestColumn_73 : decode cX9_bestColumn 73 = .ok (.goto 4, 3) := by decide +kernel
theorem dX9_bestColumn_76 : decode cX9_bestColumn 76 = .ok (.iconst 0, 1) := by decide +kernel
theorem dX9_bestColumn_77 : decode cX9_bestColumn 77 = .ok (.istore 7, 2) := by decide +kernel
theorem dX9_bestColumn_79 : decode cX9_bestColumn 79 = .ok (.iload 7, 2) := by decide +kernel
theorem dX9_bestColumn_81 : decode cX9_bestColumn 81 = .ok (.ifCond .eq 8, 3) := by decide +kernel
theorem dX9_bestColumn_84 : decode cX9_bestColumn 84 = .ok (.iload 5, 2) := by decide +kernel
theorem dX9_bestColumn_86 : decode cX9_bestColumn 86 = .ok (.goto 4, 3) := by decide +kernel
theorem dX9_bestColumn_89 : decode cX9_bestColumn 89 = .ok (.iload_n 3, 1) := by decide +kernel
theorem dX9_bestColumn_90 : decode cX9_bestColumn 90 = .ok (.istore_n 3, 1) := by decide +kernel
theorem dX9_bestColumn_91 : decode cX9_bestColumn 91 = .ok (.iload 7, 2) := by decide +kernel
theorem dX9_bestColumn_93 : decode cX9_bestColumn 93 = .ok (.ifCond .eq 8, 3) := by decide +kernel
theorem dX9_bestColumn_96 : decode cX9_bestColumn 96 = .ok (.iload 6, 2) := by decide +kernel
theorem dX9_bestColumn_98 : decode cX9_bestColumn 98 = .ok (.goto 5, 3) := by decide +kernel
theorem dX9_bestColumn_101 : decode cX9_bestColumn 101 = .ok (.iload 4, 2) := by decide +kernel
theorem dX9_bestColumn_103 : decode cX9_bestColumn 103 = .ok (.istore 4, 2) := by decide +kernel
theorem dX9_bestColumn_105 : decode cX9_bestColumn 105 = .ok (.iinc 5 1, 3) := by decide +kernel
theorem dX9_bestColumn_108 : decode cX9_bestColumn 108 = .ok (.goto (-63), 3) := by decide +kernel
theorem dX9_bestColumn_111 : decode cX9_bestColumn 111 = .ok (.iload_n 3, 1) := by decide +kernel
theorem dX9_bestColumn_112 : decode cX9_bestColumn 112 = .ok (.ireturn, 1) := by decide +kernel
theorem dX9_saving_0 : decode cX9_saving 0 = .ok (.aload_n 0, 1) := by decide +kernel
theorem dX9_saving_1 : decode cX9_saving 1 = .ok (.iconst 0, 1) := by decide +kernel
theorem dX9_saving_2 : decode cX9_saving 2 = .ok (.putfield 36, 3) := by decide +kernel
theorem dX9_saving_5 : decode cX9_saving 5 = .ok (.aload_n 0, 1) := by decide +kernel
theorem dX9_saving_6 : decode cX9_saving 6 = .ok (.aload_n 0, 1) := by decide +kernel
theorem dX9_saving_7 : decode cX9_saving 7 = .ok (.getfield 7, 3) := by decide +kernel
theorem dX9_saving_10 : decode cX9_saving 10 = .ok (.bipush 81, 2) := by decide +kernel
theorem dX9_saving_12 : decode cX9_saving 12 = .ok (.iaload, 1) := by decide +kernel
theorem dX9_saving_13 : decode cX9_saving 13 = .ok (.iconst 0, 1) := by decide +kernel
theorem dX9_saving_14 : decode cX9_saving 14 = .ok (.invokevirtual 103, 3) := by decide +kernel
theorem dX9_saving_17 : decode cX9_saving 17 = .ok (.istore_n 1, 1) := by decide +kernel
theorem dX9_saving_18 : decode cX9_saving 18 = .ok (.iload_n 1, 1) := by decide +kernel
theorem dX9_saving_19 : decode cX9_saving 19 = .ok (.aload_n 0, 1) := by decide +kernel
theorem dX9_saving_20 : decode cX9_saving 20 = .ok (.aload_n 0, 1) := by decide +kernel
theorem dX9_saving_21 : decode cX9_saving 21 = .ok (.getfield 7, 3) := by decide +kernel
theorem dX9_saving_24 : decode cX9_saving 24 = .ok (.bipush 81, 2) := by decide +kernel
theorem dX9_saving_26 : decode cX9_saving 26 = .ok (.iaload, 1) := by decide +kernel
theorem dX9_saving_27 : decode cX9_saving 27 = .ok (.iconst 1, 1) := by decide +kernel
theorem dX9_saving_28 : decode cX9_saving 28 = .ok (.invokevirtual 103, 3) := by decide +kernel
theorem dX9_saving_31 : decode cX9_saving 31 = .ok (.isub, 1) := by decide +kernel
theorem dX9_saving_32 : decode cX9_saving 32 = .ok (.ireturn, 1) := by decide +kernel
theorem dX9_costIfMarked_0 : decode cX9_costIfMarked 0 = .ok (.aload_n 0, 1) := by decide +kernel
theorem dX9_costIfMarked_1 : decode cX9_costIfMarked 1 = .ok (.aload_n 0, 1) := by decide +kernel
theorem dX9_costIfMarked_2 : decode cX9_costIfMarked 2 = .ok (.iload_n 1, 1) := by decide +kernel
theorem dX9_costIfMarked_3 : decode cX9_costIfMarked 3 = .ok (.invokevirtual 62, 3) := by decide +kernel
theorem dX9_costIfMarked_6 : decode cX9_costIfMarked 6 = .ok (.iload_n 2, 1) := by decide +kernel
theorem dX9_costIfMarked_7 : decode cX9_costIfMarked 7 = .ok (.iconst 0, 1) := by decide +kernel
theorem dX9_costIfMarked_8 : decode cX9_costIfMarked 8 = .ok (.iconst 2, 1) := by decide +kernel
theorem dX9_costIfMarked_9 : decode cX9_costIfMarked 9 = .ok (.invokestatic 47, 3) := by decide +kernel
theorem dX9_costIfMarked_12 : decode cX9_costIfMarked 12 = .ok (.iconst 1, 1) := by decide +kernel
theorem dX9_costIfMarked_13 : decode cX9_costIfMarked 13 = .ok (.invokevirtual 51, 3) := by decide +kernel
theorem dX9_costIfMarked_16 : decode cX9_costIfMarked 16 = .ok (.ifCond .ne 5, 3) := by decide +kernel
theorem dX9_costIfMarked_19 : decode cX9_costIfMarked 19 = .ok (.iconst 0, 1) := by decide +kernel
theorem dX9_costIfMarked_20 : decode cX9_costIfMarked 20 = .ok (.ireturn, 1) := by decide +kernel
theorem dX9_costIfMarked_21 : decode cX9_costIfMarked 21 = .ok (.aload_n 0, 1) := by decide +kernel
theorem dX9_costIfMarked_22 : decode cX9_costIfMarked 22 = .ok (.getfield 7, 3) := by decide +kernel
theorem dX9_costIfMarked_25 : decode cX9_costIfMarked 25 = .ok (.bipush 40, 2) := by decide +kernel
theorem dX9_costIfMarked_27 : decode cX9_costIfMarked 27 = .ok (.iload_n 1, 1) := by decide +kernel
theorem dX9_costIfMarked_28 : decode cX9_costIfMarked 28 = .ok (.iadd, 1) := by decide +kernel
theorem dX9_costIfMarked_29 : decode cX9_costIfMarked 29 = .ok (.iaload, 1) := by decide +kernel
theorem dX9_costIfMarked_30 : decode cX9_costIfMarked 30 = .ok (.istore_n 3, 1) := by decide +kernel
theorem dX9_costIfMarked_31 : decode cX9_costIfMarked 31 = .ok (.aload_n 0, 1) := by decide +kernel
theorem dX9_costIfMarked_32 : decode cX9_costIfMarked 32 = .ok (.getfield 7, 3) := by decide +kernel
theorem dX9_costIfMarked_35 : decode cX9_costIfMarked 35 = .ok (.bipush 40, 2) := by decide +kernel
theorem dX9_costIfMarked_37 : decode cX9_costIfMarked 37 = .ok (.iload_n 1, 1) := by decide +kernel
theorem dX9_costIfMarked_38 : decode cX9_costIfMarked 38 = .ok (.iadd, 1) := by decide +kernel
theorem dX9_costIfMarked_39 : decode cX9_costIfMarked 39 = .ok (.iload_n 2, 1) := by decide +kernel
theorem dX9_costIfMarked_40 : decode cX9_costIfMarked 40 = .ok (.iastore, 1) := by decide +kernel
theorem dX9_costIfMarked_41 : decode cX9_costIfMarked 41 = .ok (.aload_n 0, 1) := by decide +kernel
theorem dX9_costIfMarked_42 : decode cX9_costIfMarked 42 = .ok (.invokevirtual 113, 3) := by decide +kernel
theorem dX9_costIfMarked_45 : decode cX9_costIfMarked 45 = .ok (.istore 4, 2) := by decide +kernel
theorem dX9_costIfMarked_47 : decode cX9_costIfMarked 47 = .ok (.aload_n 0, 1) := by decide +kernel
theorem dX9_costIfMarked_48 : decode cX9_costIfMarked 48 = .ok (.getfield 7, 3) := by decide +kernel
theorem dX9_costIfMarked_51 : decode cX9_costIfMarked 51 = .ok (.bipush 40, 2) := by decide +kernel
theorem dX9_costIfMarked_53 : decode cX9_costIfMarked 53 = .ok (.iload_n 1, 1) := by decide +kernel
theorem dX9_costIfMarked_54 : decode cX9_costIfMarked 54 = .ok (.iadd, 1) := by decide +kernel
theorem dX9_costIfMarked_55 : decode cX9_costIfMarked 55 = .ok (.iload_n 3, 1) := by decide +kernel
theorem dX9_costIfMarked_56 : decode cX9_costIfMarked 56 = .ok (.iastore, 1) := by decide +kernel
theorem dX9_costIfMarked_57 : decode cX9_costIfMarked 57 = .ok (.iload 4, 2) := by decide +kernel
theorem dX9_costIfMarked_59 : decode cX9_costIfMarked 59 = .ok (.ireturn, 1) := by decide +kernel
theorem dX9_append_0 : decode cX9_append 0 = .ok (.aload_n 0, 1) := by decide +kernel
theorem dX9_append_1 : decode cX9_append 1 = .ok (.iload_n 1, 1) := by decide +kernel
theorem dX9_append_2 : decode cX9_append 2 = .ok (.bipush 33, 2) := by decide +kernel
theorem dX9_append_4 : decode cX9_append 4 = .ok (.bipush 126, 2) := by decide +kernel
theorem dX9_append_6 : decode cX9_append 6 = .ok (.invokestatic 47, 3) := by decide +kernel
theorem dX9_append_9 : decode cX9_append 9 = .ok (.aload_n 0, 1) := by decide +kernel
theorem dX9_append_10 : decode cX9_append 10 = .ok (.getfield 160, 3) := by decide +kernel
theorem dX9_append_13 : decode cX9_append 13 = .ok (.bipush 60, 2) := by decide +kernel
theorem dX9_append_15 : decode cX9_append 15 = .ok (.if_icmp .ge 7, 3) := by decide +kernel
theorem dX9_append_18 : decode cX9_append 18 = .ok (.iconst 1, 1) := by decide +kernel
theorem dX9_append_19 : decode cX9_append 19 = .ok (.goto 4, 3) := by decide +kernel
theorem dX9_append_22 : decode cX9_append 22 = .ok (.iconst 0, 1) := by decide +kernel
theorem dX9_append_23 : decode cX9_append 23 = .ok (.iconst 1, 1) := by decide +kernel
theorem dX9_append_24 : decode cX9_append 24 = .ok (.invokevirtual 51, 3) := by decide +kernel
theorem dX9_append_27 : decode cX9_append 27 = .ok (.ifCond .ne 5, 3) := by decide +kernel
theorem dX9_append_30 : decode cX9_append 30 = .ok (.iconst 0, 1) := by decide +kernel
theorem dX9_append_31 : decode cX9_append 31 = .ok (.ireturn, 1) := by decide +kernel
theorem dX9_append_32 : decode cX9_append 32 = .ok (.aload_n 0, 1) := by decide +kernel
theorem dX9_append_33 : decode cX9_append 33 = .ok (.getfield 13, 3) := by decide +kernel
theorem dX9_append_36 : decode cX9_append 36 = .ok (.aload_n 0, 1) := by decide +kernel
theorem dX9_append_37 : decode cX9_append 37 = .ok (.getfield 160, 3) := by decide +kernel
theorem dX9_append_40 : decode cX9_append 40 = .ok (.iload_n 1, 1) := by decide +kernel
theorem dX9_append_41 : decode cX9_append 41 = .ok (.i2c, 1) := by decide +kernel
theorem dX9_append_42 : decode cX9_append 42 = .ok (.castore, 1) := by decide +kernel
theorem dX9_append_43 : decode cX9_append 43 = .ok (.aload_n 0, 1) := by decide +kernel
theorem dX9_append_44 : decode cX9_append 44 = .ok (.dup, 1) := by decide +kernel
theorem dX9_append_45 : decode cX9_append 45 = .ok (.getfield 160, 3) := by decide +kernel
theorem dX9_append_48 : decode cX9_append 48 = .ok (.iconst 1, 1) := by decide +kernel
theorem dX9_append_49 : decode cX9_append 49 = .ok (.iadd, 1) := by decide +kernel
theorem dX9_append_50 : decode cX9_append 50 = .ok (.putfield 160, 3) := by decide +kernel
theorem dX9_append_53 : decode cX9_append 53 = .ok (.aload_n 0, 1) := by decide +kernel
theorem dX9_append_54 : decode cX9_append 54 = .ok (.getfield 160, 3) := by decide +kernel
theorem dX9_append_57 : decode cX9_append 57 = .ok (.ireturn, 1) := by decide +kernel
theorem dX9_clearText_0 : decode cX9_clearText 0 = .ok (.aload_n 0, 1) := by decide +kernel
theorem dX9_clearText_1 : decode cX9_clearText 1 = .ok (.iconst 0, 1) := by decide +kernel
theorem dX9_clearText_2 : decode cX9_clearText 2 = .ok (.putfield 36, 3) := by decide +kernel
theorem dX9_clearText_5 : decode cX9_clearText 5 = .ok (.aload_n 0, 1) := by decide +kernel
theorem dX9_clearText_6 : decode cX9_clearText 6 = .ok (.getfield 160, 3) := by decide +kernel
theorem dX9_clearText_9 : decode cX9_clearText 9 = .ok (.istore_n 1, 1) := by decide +kernel
theorem dX9_clearText_10 : decode cX9_clearText 10 = .ok (.aload_n 0, 1) := by decide +kernel
theorem dX9_clearText_11 : decode cX9_clearText 11 = .ok (.iconst 0, 1) := by decide +kernel
theorem dX9_clearText_12 : decode cX9_clearText 12 = .ok (.putfield 160, 3) := by decide +kernel
theorem dX9_clearText_15 : decode cX9_clearText 15 = .ok (.iload_n 1, 1) := by decide +kernel
theorem dX9_clearText_16 : decode cX9_clearText 16 = .ok (.ireturn, 1) := by decide +kernel
theorem dX9_isHere_0 : decode cX9_isHere 0 = .ok (.aload_n 0, 1) := by decide +kernel
theorem dX9_isHere_1 : decode cX9_isHere 1 = .ok (.getfield 163, 3) := by decide +kernel
theorem dX9_isHere_4 : decode cX9_isHere 4 = .ok (.aload_n 0, 1) := by decide +kernel
theorem dX9_isHere_5 : decode cX9_isHere 5 = .ok (.getfield 160, 3) := by decide +kernel
theorem dX9_isHere_8 : decode cX9_isHere 8 = .ok (.if_icmp .ge 24, 3) := by decide +kernel
theorem dX9_isHere_11 : decode cX9_isHere 11 = .ok (.aload_n 0, 1) := by decide +kernel
theorem dX9_isHere_12 : decode cX9_isHere 12 = .ok (.getfield 13, 3) := by decide +kernel
theorem dX9_isHere_15 : decode cX9_isHere 15 = .ok (.aload_n 0, 1) := by decide +kernel
theorem dX9_isHere_16 : decode cX9_isHere 16 = .ok (.getfield 163, 3) := by decide +kernel
theorem dX9_isHere_19 : decode cX9_isHere 19 = .ok (.caload, 1) := by decide +kernel
theorem dX9_isHere_20 : decode cX9_isHere 20 = .ok (.iload_n 1, 1) := by decide +kernel
theorem dX9_isHere_21 : decode cX9_isHere 21 = .ok (.iload_n 2, 1) := by decide +kernel
theorem dX9_isHere_22 : decode cX9_isHere 22 = .ok (.invokestatic 47, 3) := by decide +kernel
theorem dX9_isHere_25 : decode cX9_isHere 25 = .ok (.ifCond .eq 7, 3) := by decide +kernel
theorem dX9_isHere_28 : decode cX9_isHere 28 = .ok (.iconst 1, 1) := by decide +kernel
theorem dX9_isHere_29 : decode cX9_isHere 29 = .ok (.goto 4, 3) := by decide +kernel
theorem dX9_isHere_32 : decode cX9_isHere 32 = .ok (.iconst 0, 1) := by decide +kernel
theorem dX9_isHere_33 : decode cX9_isHere 33 = .ok (.ireturn, 1) := by decide +kernel
theorem dX9_readsWord_0 : decode cX9_readsWord 0 = .ok (.aload_n 0, 1) := by decide +kernel
theorem dX9_readsWord_1 : decode cX9_readsWord 1 = .ok (.iconst 0, 1) := by decide +kernel
theorem dX9_readsWord_2 : decode cX9_readsWord 2 = .ok (.putfield 166, 3) := by decide +kernel
theorem dX9_readsWord_5 : decode cX9_readsWord 5 = .ok (.aload_n 0, 1) := by decide +kernel
theorem dX9_readsWord_6 : decode cX9_readsWord 6 = .ok (.bipush 49, 2) := by decide +kernel
theorem dX9_readsWord_8 : decode cX9_readsWord 8 = .ok (.bipush 57, 2) := by decide +kernel
theorem dX9_readsWord_10 : decode cX9_readsWord 10 = .ok (.invokevirtual 169, 3) := by decide +kernel
theorem dX9_readsWord_13 : decode cX9_readsWord 13 = .ok (.ifCond .ne 5, 3) := by decide +kernel
theorem dX9_readsWord_16 : decode cX9_readsWord 16 = .ok (.iconst 0, 1) := by decide +kernel
theorem dX9_readsWord_17 : decode cX9_readsWord 17 = .ok (.ireturn, 1) := by decide +kernel
theorem dX9_readsWord_18 : decode cX9_readsWord 18 = .ok (.aload_n 0, 1) := by decide +kernel
theorem dX9_readsWord_19 : decode cX9_readsWord 19 = .ok (.aload_n 0, 1) := by decide +kernel
theorem dX9_readsWord_20 : decode cX9_readsWord 20 = .ok (.getfield 13, 3) := by decide +kernel
theorem dX9_readsWord_23 : decode cX9_readsWord 23 = .ok (.aload_n 0, 1) := by decide +kernel
theorem dX9_readsWord_24 : decode cX9_readsWord 24 = .ok (.getfield 163, 3) := by decide +kernel
theorem dX9_readsWord_27 : decode cX9_readsWord 27 = .ok (.caload, 1) := by decide +kernel
theorem dX9_readsWord_28 : decode cX9_readsWord 28 = .ok (.bipush 48, 2) := by decide +kernel
theorem dX9_readsWord_30 : decode cX9_readsWord 30 = .ok (.isub, 1) := by decide +kernel
theorem dX9_readsWord_31 : decode cX9_readsWord 31 = .ok (.putfield 173, 3) := by decide +kernel
theorem dX9_readsWord_34 : decode cX9_readsWord 34 = .ok (.aload_n 0, 1) := by decide +kernel
theorem dX9_readsWord_35 : decode cX9_readsWord 35 = .ok (.dup, 1) := by decide +kernel
theorem dX9_readsWord_36 : decode cX9_readsWord 36 = .ok (.getfield 163, 3) := by decide +kernel
theorem dX9_readsWord_39 : decode cX9_readsWord 39 = .ok (.iconst 1, 1) := by decide +kernel
theorem dX9_readsWord_40 : decode cX9_readsWord 40 = .ok (.iadd, 1) := by decide +kernel
theorem dX9_readsWord_41 : decode cX9_readsWord 41 = .ok (.putfield 163, 3) := by decide +kernel
theorem dX9_readsWord_44 : decode cX9_readsWord 44 = .ok (.aload_n 0, 1) := by decide +kernel
theorem dX9_readsWord_45 : decode cX9_readsWord 45 = .ok (.bipush 48, 2) := by decide +kernel
theorem dX9_readsWord_47 : decode cX9_readsWord 47 = .ok (.bipush 57, 2) := by decide +kernel
theorem dX9_readsWord_49 : decode cX9_readsWord 49 = .ok (.invokevirtual 169, 3) := by decide +kernel
theorem dX9_readsWord_52 : decode cX9_readsWord 52 = .ok (.ifCond .eq 62, 3) := by decide +kernel
theorem dX9_readsWord_55 : decode cX9_readsWord 55 = .ok (.bipush 10, 2) := by decide +kernel
theorem dX9_readsWord_57 : decode cX9_readsWord 57 = .ok (.aload_n 0, 1) := by decide +kernel
theorem dX9_readsWord_58 : decode cX9_readsWord 58 = .ok (.getfield 173, 3) := by decide +kernel
theorem dX9_readsWord_61 : decode cX9_readsWord 61 = .ok (.imul, 1) := by decide +kernel
theorem dX9_readsWord_62 : decode cX9_readsWord 62 = .ok (.aload_n 0, 1) := by decide +kernel
theorem dX9_readsWord_63 : decode cX9_readsWord 63 = .ok (.getfield 13, 3) := by decide +kernel
theorem dX9_readsWord_66 : decode cX9_readsWord 66 = .ok (.aload_n 0, 1) := by decide +kernel
theorem dX9_readsWord_67 : decode cX9_readsWord 67 = .ok (.getfield 163, 3) := by decide +kernel
theorem dX9_readsWord_70 : decode cX9_readsWord 70 = .ok (.caload, 1) := by decide +kernel
theorem dX9_readsWord_71 : decode cX9_readsWord 71 = .ok (.iadd, 1) := by decide +kernel
theorem dX9_readsWord_72 : decode cX9_readsWord 72 = .ok (.bipush 48, 2) := by decide +kernel
theorem dX9_readsWord_74 : decode cX9_readsWord 74 = .ok (.isub, 1) := by decide +kernel
theorem dX9_readsWord_75 : decode cX9_readsWord 75 = .ok (.bipush 30, 2) := by decide +kernel
theorem dX9_readsWord_77 : decode cX9_readsWord 77 = .ok (.if_icmp .gt 37, 3) := by decide +kernel
theorem dX9_readsWord_80 : decode cX9_readsWord 80 = .ok (.aload_n 0, 1) := by decide +kernel
theorem dX9_readsWord_81 : decode cX9_readsWord 81 = .ok (.bipush 10, 2) := by decide +kernel
theorem dX9_readsWord_83 : decode cX9_readsWord 83 = .ok (.aload_n 0, 1) := by decide +kernel
theorem dX9_readsWord_84 : decode cX9_readsWord 84 = .ok (.getfield 173, 3) := by decide +kernel
theorem dX9_readsWord_87 : decode cX9_readsWord 87 = .ok (.imul, 1) := by decide +kernel
theorem dX9_readsWord_88 : decode cX9_readsWord 88 = .ok (.aload_n 0, 1) := by decide +kernel
theorem dX9_readsWord_89 : decode cX9_readsWord 89 = .ok (.getfield 13, 3) := by decide +kernel
theorem dX9_readsWord_92 : decode cX9_readsWord 92 = .ok (.aload_n 0, 1) := by decide +kernel
theorem dX9_readsWord_93 : decode cX9_readsWord 93 = .ok (.getfield 163, 3) := by decide +kernel
theorem dX9_readsWord_96 : decode cX9_readsWord 96 = .ok (.caload, 1) := by decide +kernel
theorem dX9_readsWord_97 : decode cX9_readsWord 97 = .ok (.iadd, 1) := by decide +kernel
theorem dX9_readsWord_98 : decode cX9_readsWord 98 = .ok (.bipush 48, 2) := by decide +kernel
theorem dX9_readsWord_100 : decode cX9_readsWord 100 = .ok (.isub, 1) := by decide +kernel
theorem dX9_readsWord_101 : decode cX9_readsWord 101 = .ok (.putfield 173, 3) := by decide +kernel
theorem dX9_readsWord_104 : decode cX9_readsWord 104 = .ok (.aload_n 0, 1) := by decide +kernel
theorem dX9_readsWord_105 : decode cX9_readsWord 105 = .ok (.dup, 1) := by decide +kernel
theorem dX9_readsWord_106 : decode cX9_readsWord 106 = .ok (.getfield 163, 3) := by decide +kernel
theorem dX9_readsWord_109 : decode cX9_readsWord 109 = .ok (.iconst 1, 1) := by decide +kernel
theorem dX9_readsWord_110 : decode cX9_readsWord 110 = .ok (.iadd, 1) := by decide +kernel
theorem dX9_readsWord_111 : decode cX9_readsWord 111 = .ok (.putfield 163, 3) := by decide +kernel
theorem dX9_readsWord_114 : decode cX9_readsWord 114 = .ok (.aload_n 0, 1) := by decide +kernel
theorem dX9_readsWord_115 : decode cX9_readsWord 115 = .ok (.bipush 33, 2) := by decide +kernel
theorem dX9_readsWord_117 : decode cX9_readsWord 117 = .ok (.bipush 33, 2) := by decide +kernel
theorem dX9_readsWord_119 : decode cX9_readsWord 119 = .ok (.invokevirtual 169, 3) := by decide +kernel
theorem dX9_readsWord_122 : decode cX9_readsWord 122 = .ok (.ifCond .ne 14, 3) := by decide +kernel
theorem dX9_readsWord_125 : decode cX9_readsWord 125 = .ok (.aload_n 0, 1) := by decide +kernel
theorem dX9_readsWord_126 : decode cX9_readsWord 126 = .ok (.bipush 47, 2) := by decide +kernel
theorem dX9_readsWord_128 : decode cX9_readsWord 128 = .ok (.bipush 47, 2) := by decide +kernel
theorem dX9_readsWord_130 : decode cX9_readsWord 130 = .ok (.invokevirtual 169, 3) := by decide +kernel
theorem dX9_readsWord_133 : decode cX9_readsWord 133 = .ok (.ifCond .eq 36, 3) := by decide +kernel
theorem dX9_readsWord_136 : decode cX9_readsWord 136 = .ok (.aload_n 0, 1) := by decide +kernel
theorem dX9_readsWord_137 : decode cX9_readsWord 137 = .ok (.aload_n 0, 1) := by decide +kernel
theorem dX9_readsWord_138 : decode cX9_readsWord 138 = .ok (.getfield 13, 3) := by decide +kernel
theorem dX9_readsWord_141 : decode cX9_readsWord 141 = .ok (.aload_n 0, 1) := by decide +kernel
theorem dX9_readsWord_142 : decode cX9_readsWord 142 = .ok (.getfield 163, 3) := by decide +kernel
theorem dX9_readsWord_145 : decode cX9_readsWord 145 = .ok (.caload, 1) := by decide +kernel
theorem dX9_readsWord_146 : decode cX9_readsWord 146 = .ok (.bipush 33, 2) := by decide +kernel
theorem dX9_readsWord_148 : decode cX9_readsWord 148 = .ok (.if_icmp .ne 7, 3) := by decide +kernel
theorem dX9_readsWord_151 : decode cX9_readsWord 151 = .ok (.iconst 1, 1) := by decide +kernel
theorem dX9_readsWord_152 : decode cX9_readsWord 152 = .ok (.goto 4, 3) := by decide +kernel
theorem dX9_readsWord_155 : decode cX9_readsWord 155 = .ok (.iconst 2, 1) := by decide +kernel
theorem dX9_readsWord_156 : decode cX9_readsWord 156 = .ok (.putfield 166, 3) := by decide +kernel
theorem dX9_readsWord_159 : decode cX9_readsWord 159 = .ok (.aload_n 0, 1) := by decide +kernel
theorem dX9_readsWord_160 : decode cX9_readsWord 160 = .ok (.dup, 1) := by decide +kernel
theorem dX9_readsWord_161 : decode cX9_readsWord 161 = .ok (.getfield 163, 3) := by decide +kernel
theorem dX9_readsWord_164 : decode cX9_readsWord 164 = .ok (.iconst 1, 1) := by decide +kernel
theorem dX9_readsWord_165 : decode cX9_readsWord 165 = .ok (.iadd, 1) := by decide +kernel
theorem dX9_readsWord_166 : decode cX9_readsWord 166 = .ok (.putfield 163, 3) := by decide +kernel
theorem dX9_readsWord_169 : decode cX9_readsWord 169 = .ok (.iconst 1, 1) := by decide +kernel
theorem dX9_readsWord_170 : decode cX9_readsWord 170 = .ok (.ireturn, 1) := by decide +kernel
theorem dX9_reads_0 : decode cX9_reads 0 = .ok (.aload_n 0, 1) := by decide +kernel
theorem dX9_reads_1 : decode cX9_reads 1 = .ok (.iconst 0, 1) := by decide +kernel
theorem dX9_reads_2 : decode cX9_reads 2 = .ok (.putfield 163, 3) := by decide +kernel
theorem dX9_reads_5 : decode cX9_reads 5 = .ok (.iconst 0, 1) := by decide +kernel
theorem dX9_reads_6 : decode cX9_reads 6 = .ok (.istore_n 1, 1) := by decide +kernel
theorem dX9_reads_7 : decode cX9_reads 7 = .ok (.aload_n 0, 1) := by decide +kernel
theorem dX9_reads_8 : decode cX9_reads 8 = .ok (.invokevirtual 176, 3) := by decide +kernel
theorem dX9_reads_11 : decode cX9_reads 11 = .ok (.ifCond .eq 48, 3) := by decide +kernel
theorem dX9_reads_14 : decode cX9_reads 14 = .ok (.iinc 1 1, 3) := by decide +kernel
theorem dX9_reads_17 : decode cX9_reads 17 = .ok (.aload_n 0, 1) := by decide +kernel
theorem dX9_reads_18 : decode cX9_reads 18 = .ok (.getfield 163, 3) := by decide +kernel
theorem dX9_reads_21 : decode cX9_reads 21 = .ok (.aload_n 0, 1) := by decide +kernel
theorem dX9_reads_22 : decode cX9_reads 22 = .ok (.getfield 160, 3) := by decide +kernel
theorem dX9_reads_25 : decode cX9_reads 25 = .ok (.if_icmp .ne 5, 3) := by decide +kernel
theorem dX9_reads_28 : decode cX9_reads 28 = .ok (.iload_n 1, 1) := by decide +kernel
theorem dX9_reads_29 : decode cX9_reads 29 = .ok (.ireturn, 1) := by decide +kernel
theorem dX9_reads_30 : decode cX9_reads 30 = .ok (.aload_n 0, 1) := by decide +kernel
theorem dX9_reads_31 : decode cX9_reads 31 = .ok (.getfield 13, 3) := by decide +kernel
theorem dX9_reads_34 : decode cX9_reads 34 = .ok (.aload_n 0, 1) := by decide +kernel
theorem dX9_reads_35 : decode cX9_reads 35 = .ok (.getfield 163, 3) := by decide +kernel
theorem dX9_reads_38 : decode cX9_reads 38 = .ok (.caload, 1) := by decide +kernel
theorem dX9_reads_39 : decode cX9_reads 39 = .ok (.bipush 44, 2) := by decide +kernel
theorem dX9_reads_41 : decode cX9_reads 41 = .ok (.if_icmp .eq 5, 3) := by decide +kernel
theorem dX9_reads_44 : decode cX9_reads 44 = .ok (.iconst (-1), 1) := by decide +kernel
theorem dX9_reads_45 : decode cX9_reads 45 = .ok (.ireturn, 1) := by decide +kernel
theorem dX9_reads_46 : decode cX9_reads 46 = .ok (.aload_n 0, 1) := by decide +kernel
theorem dX9_reads_47 : decode cX9_reads 47 = .ok (.dup, 1) := by decide +kernel
theorem dX9_reads_48 : decode cX9_reads 48 = .ok (.getfield 163, 3) := by decide +kernel
theorem dX9_reads_51 : decode cX9_reads 51 = .ok (.iconst 1, 1) := by decide +kernel
theorem dX9_reads_52 : decode cX9_reads 52 = .ok (.iadd, 1) := by decide +kernel
theorem dX9_reads_53 : decode cX9_reads 53 = .ok (.putfield 163, 3) := by decide +kernel
theorem dX9_reads_56 : decode cX9_reads 56 = .ok (.goto (-49), 3) := by decide +kernel
theorem dX9_reads_59 : decode cX9_reads 59 = .ok (.iconst (-1), 1) := by decide +kernel
theorem dX9_reads_60 : decode cX9_reads 60 = .ok (.ireturn, 1) := by decide +kernel
theorem dX9_firstError_0 : decode cX9_firstError 0 = .ok (.aload_n 0, 1) := by decide +kernel
theorem dX9_firstError_1 : decode cX9_firstError 1 = .ok (.iconst 0, 1) := by decide +kernel
theorem dX9_firstError_2 : decode cX9_firstError 2 = .ok (.putfield 36, 3) := by decide +kernel
theorem dX9_firstError_5 : decode cX9_firstError 5 = .ok (.aload_n 0, 1) := by decide +kernel
theorem dX9_firstError_6 : decode cX9_firstError 6 = .ok (.invokevirtual 180, 3) := by decide +kernel
theorem dX9_firstError_9 : decode cX9_firstError 9 = .ok (.istore_n 1, 1) := by decide +kernel
theorem dX9_firstError_10 : decode cX9_firstError 10 = .ok (.aload_n 0, 1) := by decide +kernel
theorem dX9_firstError_11 : decode cX9_firstError 11 = .ok (.getfield 163, 3) := by decide +kernel
theorem dX9_firstError_14 : decode cX9_firstError 14 = .ok (.ireturn, 1) := by decide +kernel
theorem dX9_load_0 : decode cX9_load 0 = .ok (.aload_n 0, 1) := by decide +kernel
theorem dX9_load_1 : decode cX9_load 1 = .ok (.invokevirtual 180, 3) := by decide +kernel
theorem dX9_load_4 : decode cX9_load 4 = .ok (.istore_n 1, 1) := by decide +kernel
theorem dX9_load_5 : decode cX9_load 5 = .ok (.aload_n 0, 1) := by decide +kernel
theorem dX9_load_6 : decode cX9_load 6 = .ok (.iload_n 1, 1) := by decide +kernel
theorem dX9_load_7 : decode cX9_load 7 = .ok (.iconst (-1), 1) := by decide +kernel
theorem dX9_load_8 : decode cX9_load 8 = .ok (.if_icmp .eq 7, 3) := by decide +kernel
theorem dX9_load_11 : decode cX9_load 11 = .ok (.iconst 1, 1) := by decide +kernel
theorem dX9_load_12 : decode cX9_load 12 = .ok (.goto 4, 3) := by decide +kernel
theorem dX9_load_15 : decode cX9_load 15 = .ok (.iconst 0, 1) := by decide +kernel
theorem dX9_load_16 : decode cX9_load 16 = .ok (.aload_n 0, 1) := by decide +kernel
theorem dX9_load_17 : decode cX9_load 17 = .ok (.getfield 7, 3) := by decide +kernel
theorem dX9_load_20 : decode cX9_load 20 = .ok (.bipush 80, 2) := by decide +kernel
theorem dX9_load_22 : decode cX9_load 22 = .ok (.iaload, 1) := by decide +kernel
theorem dX9_load_23 : decode cX9_load 23 = .ok (.iload_n 1, 1) := by decide +kernel
theorem dX9_load_24 : decode cX9_load 24 = .ok (.iadd, 1) := by decide +kernel
theorem dX9_load_25 : decode cX9_load 25 = .ok (.bipush 40, 2) := by decide +kernel
theorem dX9_load_27 : decode cX9_load 27 = .ok (.if_icmp .gt 7, 3) := by decide +kernel
theorem dX9_load_30 : decode cX9_load 30 = .ok (.iconst 1, 1) := by decide +kernel
theorem dX9_load_31 : decode cX9_load 31 = .ok (.goto 4, 3) := by decide +kernel
theorem dX9_load_34 : decode cX9_load 34 = .ok (.iconst 0, 1) := by decide +kernel
theorem dX9_load_35 : decode cX9_load 35 = .ok (.iconst 1, 1) := by decide +kernel
theorem dX9_load_36 : decode cX9_load 36 = .ok (.invokevirtual 51, 3) := by decide +kernel
theorem dX9_load_39 : decode cX9_load 39 = .ok (.ifCond .ne 5, 3) := by decide +kernel
theorem dX9_load_42 : decode cX9_load 42 = .ok (.iconst 0, 1) := by decide +kernel
theorem dX9_load_43 : decode cX9_load 43 = .ok (.ireturn, 1) := by decide +kernel
theorem dX9_load_44 : decode cX9_load 44 = .ok (.aload_n 0, 1) := by decide +kernel
theorem dX9_load_45 : decode cX9_load 45 = .ok (.invokevirtual 55, 3) := by decide +kernel
theorem dX9_load_48 : decode cX9_load 48 = .ok (.aload_n 0, 1) := by decide +kernel
theorem dX9_load_49 : decode cX9_load 49 = .ok (.iconst 0, 1) := by decide +kernel
theorem dX9_load_50 : decode cX9_load 50 = .ok (.putfield 163, 3) := by decide +kernel
theorem dX9_load_53 : decode cX9_load 53 = .ok (.aload_n 0, 1) := by decide +kernel
theorem dX9_load_54 : decode cX9_load 54 = .ok (.invokevirtual 176, 3) := by decide +kernel
theorem dX9_load_57 : decode cX9_load 57 = .ok (.ifCond .eq 35, 3) := by decide +kernel
theorem dX9_load_60 : decode cX9_load 60 = .ok (.aload_n 0, 1) := by decide +kernel
theorem dX9_load_61 : decode cX9_load 61 = .ok (.aload_n 0, 1) := by decide +kernel
theorem dX9_load_62 : decode cX9_load 62 = .ok (.getfield 7, 3) := by decide +kernel
theorem dX9_load_65 : decode cX9_load 65 = .ok (.bipush 80, 2) := by decide +kernel
theorem dX9_load_67 : decode cX9_load 67 = .ok (.iaload, 1) := by decide +kernel
theorem dX9_load_68 : decode cX9_load 68 = .ok (.aload_n 0, 1) := by decide +kernel
theorem dX9_load_69 : decode cX9_load 69 = .ok (.getfield 173, 3) := by decide +kernel
theorem dX9_load_72 : decode cX9_load 72 = .ok (.aload_n 0, 1) := by decide +kernel
theorem dX9_load_73 : decode cX9_load 73 = .ok (.getfield 166, 3) := by decide +kernel
theorem dX9_load_76 : decode cX9_load 76 = .ok (.invokevirtual 58, 3) := by decide +kernel
theorem dX9_load_79 : decode cX9_load 79 = .ok (.aload_n 0, 1) := by decide +kernel
theorem dX9_load_80 : decode cX9_load 80 = .ok (.dup, 1) := by decide +kernel
theorem dX9_load_81 : decode cX9_load 81 = .ok (.getfield 163, 3) := by decide +kernel
theorem dX9_load_84 : decode cX9_load 84 = .ok (.iconst 1, 1) := by decide +kernel
theorem dX9_load_85 : decode cX9_load 85 = .ok (.iadd, 1) := by decide +kernel
theorem dX9_load_86 : decode cX9_load 86 = .ok (.putfield 163, 3) := by decide +kernel
theorem dX9_load_89 : decode cX9_load 89 = .ok (.goto (-36), 3) := by decide +kernel
theorem dX9_load_92 : decode cX9_load 92 = .ok (.aload_n 0, 1) := by decide +kernel
theorem dX9_load_93 : decode cX9_load 93 = .ok (.iconst 0, 1) := by decide +kernel
theorem dX9_load_94 : decode cX9_load 94 = .ok (.putfield 160, 3) := by decide +kernel
theorem dX9_load_97 : decode cX9_load 97 = .ok (.aload_n 0, 1) := by decide +kernel
theorem dX9_load_98 : decode cX9_load 98 = .ok (.getfield 7, 3) := by decide +kernel
theorem dX9_load_101 : decode cX9_load 101 = .ok (.bipush 80, 2) := by decide +kernel
theorem dX9_load_103 : decode cX9_load 103 = .ok (.iaload, 1) := by decide +kernel
theorem dX9_load_104 : decode cX9_load 104 = .ok (.ireturn, 1) := by decide +kernel
theorem dX9_undo_0 : decode cX9_undo 0 = .ok (.aload_n 0, 1) := by decide +kernel
theorem dX9_undo_1 : decode cX9_undo 1 = .ok (.aload_n 0, 1) := by decide +kernel
theorem dX9_undo_2 : decode cX9_undo 2 = .ok (.getfield 40, 3) := by decide +kernel
theorem dX9_undo_5 : decode cX9_undo 5 = .ok (.ifCond .le 7, 3) := by decide +kernel
theorem dX9_undo_8 : decode cX9_undo 8 = .ok (.iconst 1, 1) := by decide +kernel
theorem dX9_undo_9 : decode cX9_undo 9 = .ok (.goto 4, 3) := by decide +kernel
theorem dX9_undo_12 : decode cX9_undo 12 = .ok (.iconst 0, 1) := by decide +kernel
theorem dX9_undo_13 : decode cX9_undo 13 = .ok (.iconst 1, 1) := by decide +kernel
theorem dX9_undo_14 : decode cX9_undo 14 = .ok (.iconst 1, 1) := by decide +kernel
theorem dX9_undo_15 : decode cX9_undo 15 = .ok (.invokevirtual 51, 3) := by decide +kernel
theorem dX9_undo_18 : decode cX9_undo 18 = .ok (.ifCond .ne 5, 3) := by decide +kernel
theorem dX9_undo_21 : decode cX9_undo 21 = .ok (.iconst 0, 1) := by decide +kernel
theorem dX9_undo_22 : decode cX9_undo 22 = .ok (.ireturn, 1) := by decide +kernel
theorem dX9_undo_23 : decode cX9_undo 23 = .ok (.aload_n 0, 1) := by decide +kernel
theorem dX9_undo_24 : decode cX9_undo 24 = .ok (.aload_n 0, 1) := by decide +kernel
theorem dX9_undo_25 : decode cX9_undo 25 = .ok (.getfield 40, 3) := by decide +kernel
theorem dX9_undo_28 : decode cX9_undo 28 = .ok (.iconst 0, 1) := by decide +kernel
theorem dX9_undo_29 : decode cX9_undo 29 = .ok (.invokevirtual 43, 3) := by decide +kernel
theorem dX9_undo_32 : decode cX9_undo 32 = .ok (.aload_n 0, 1) := by decide +kernel
theorem dX9_undo_33 : decode cX9_undo 33 = .ok (.dup, 1) := by decide +kernel
theorem dX9_undo_34 : decode cX9_undo 34 = .ok (.getfield 40, 3) := by decide +kernel
theorem dX9_undo_37 : decode cX9_undo 37 = .ok (.iconst 1, 1) := by decide +kernel
theorem dX9_undo_38 : decode cX9_undo 38 = .ok (.isub, 1) := by decide +kernel
theorem dX9_undo_39 : decode cX9_undo 39 = .ok (.putfield 40, 3) := by decide +kernel
theorem dX9_undo_42 : decode cX9_undo 42 = .ok (.aload_n 0, 1) := by decide +kernel
theorem dX9_undo_43 : decode cX9_undo 43 = .ok (.getfield 40, 3) := by decide +kernel
theorem dX9_undo_46 : decode cX9_undo 46 = .ok (.ireturn, 1) := by decide +kernel
theorem dX9_savedStates_0 : decode cX9_savedStates 0 = .ok (.aload_n 0, 1) := by decide +kernel
theorem dX9_savedStates_1 : decode cX9_savedStates 1 = .ok (.iconst 0, 1) := by decide +kernel
theorem dX9_savedStates_2 : decode cX9_savedStates 2 = .ok (.putfield 36, 3) := by decide +kernel
theorem dX9_savedStates_5 : decode cX9_savedStates 5 = .ok (.aload_n 0, 1) := by decide +kernel
theorem dX9_savedStates_6 : decode cX9_savedStates 6 = .ok (.getfield 40, 3) := by decide +kernel
theorem dX9_savedStates_9 : decode cX9_savedStates 9 = .ok (.ireturn, 1) := by decide +kernel
theorem dX9_digest_0 : decode cX9_digest 0 = .ok (.ldc2_w 183, 3) := by decide +kernel
theorem dX9_digest_3 : decode cX9_digest 3 = .ok (.lstore_n 1, 1) := by decide +kernel
theorem dX9_digest_4 : decode cX9_digest 4 = .ok (.aload_n 0, 1) := by decide +kernel
theorem dX9_digest_5 : decode cX9_digest 5 = .ok (.invokevirtual 185, 3) := by decide +kernel
theorem dX9_digest_8 : decode cX9_digest 8 = .ok (.istore_n 3, 1) := by decide +kernel
theorem dX9_digest_9 : decode cX9_digest 9 = .ok (.aload_n 0, 1) := by decide +kernel
theorem dX9_digest_10 : decode cX9_digest 10 = .ok (.invokevirtual 113, 3) := by decide +kernel
theorem dX9_digest_13 : decode cX9_digest 13 = .ok (.istore 4, 2) := by decide +kernel
theorem dX9_digest_15 : decode cX9_digest 15 = .ok (.aload_n 0, 1) := by decide +kernel
theorem dX9_digest_16 : decode cX9_digest 16 = .ok (.invokevirtual 150, 3) := by decide +kernel
theorem dX9_digest_19 : decode cX9_digest 19 = .ok (.istore 5, 2) := by decide +kernel
theorem dX9_digest_21 : decode cX9_digest 21 = .ok (.aload_n 0, 1) := by decide +kernel
theorem dX9_digest_22 : decode cX9_digest 22 = .ok (.invokevirtual 117, 3) := by decide +kernel
theorem dX9_digest_25 : decode cX9_digest 25 = .ok (.istore 6, 2) := by decide +kernel
theorem dX9_digest_27 : decode cX9_digest 27 = .ok (.ldc2_w 188, 3) := by decide +kernel
theorem dX9_digest_30 : decode cX9_digest 30 = .ok (.lload_n 1, 1) := by decide +kernel
theorem dX9_digest_31 : decode cX9_digest 31 = .ok (.lmul, 1) := by decide +kernel
theorem dX9_digest_32 : decode cX9_digest 32 = .ok (.aload_n 0, 1) := by decide +kernel
theorem dX9_digest_33 : decode cX9_digest 33 = .ok (.getfield 7, 3) := by decide +kernel
theorem dX9_digest_36 : decode cX9_digest 36 = .ok (.bipush 80, 2) := by decide +kernel
theorem dX9_digest_38 : decode cX9_digest 38 = .ok (.iaload, 1) := by decide +kernel
theorem dX9_digest_39 : decode cX9_digest 39 = .ok (.i2l, 1) := by decide +kernel
theorem dX9_digest_40 : decode cX9_digest 40 = .ok (.ladd, 1) := by decide +kernel
theorem dX9_digest_41 : decode cX9_digest 41 = .ok (.lstore_n 1, 1) := by decide +kernel
theorem dX9_digest_42 : decode cX9_digest 42 = .ok (.ldc2_w 188, 3) := by decide +kernel
theorem dX9_digest_45 : decode cX9_digest 45 = .ok (.lload_n 1, 1) := by decide +kernel
theorem dX9_digest_46 : decode cX9_digest 46 = .ok (.lmul, 1) := by decide +kernel
theorem dX9_digest_47 : decode cX9_digest 47 = .ok (.iload 6, 2) := by decide +kernel
theorem dX9_digest_49 : decode cX9_digest 49 = .ok (.i2l, 1) := by decide +kernel
theorem dX9_digest_50 : decode cX9_digest 50 = .ok (.ladd, 1) := by decide +kernel
theorem dX9_digest_51 : decode cX9_digest 51 = .ok (.lstore_n 1, 1) := by decide +kernel
theorem dX9_digest_52 : decode cX9_digest 52 = .ok (.ldc2_w 188, 3) := by decide +kernel
theorem dX9_digest_55 : decode cX9_digest 55 = .ok (.lload_n 1, 1) := by decide +kernel
theorem dX9_digest_56 : decode cX9_digest 56 = .ok (.lmul, 1) := by decide +kernel
theorem dX9_digest_57 : decode cX9_digest 57 = .ok (.aload_n 0, 1) := by decide +kernel
theorem dX9_digest_58 : decode cX9_digest 58 = .ok (.invokevirtual 138, 3) := by decide +kernel
theorem dX9_digest_61 : decode cX9_digest 61 = .ok (.i2l, 1) := by decide +kernel
theorem dX9_digest_62 : decode cX9_digest 62 = .ok (.ladd, 1) := by decide +kernel
theorem dX9_digest_63 : decode cX9_digest 63 = .ok (.lstore_n 1, 1) := by decide +kernel
theorem dX9_digest_64 : decode cX9_digest 64 = .ok (.ldc2_w 188, 3) := by decide +kernel
theorem dX9_digest_67 : decode cX9_digest 67 = .ok (.lload_n 1, 1) := by decide +kernel
theorem dX9_digest_68 : decode cX9_digest 68 = .ok (.lmul, 1) := by decide +kernel
theorem dX9_digest_69 : decode cX9_digest 69 = .ok (.aload_n 0, 1) := by decide +kernel
theorem dX9_digest_70 : decode cX9_digest 70 = .ok (.invokevirtual 141, 3) := by decide +kernel
theorem dX9_digest_73 : decode cX9_digest 73 = .ok (.i2l, 1) := by decide +kernel
theorem dX9_digest_74 : decode cX9_digest 74 = .ok (.ladd, 1) := by decide +kernel
theorem dX9_digest_75 : decode cX9_digest 75 = .ok (.lstore_n 1, 1) := by decide +kernel
theorem dX9_digest_76 : decode cX9_digest 76 = .ok (.ldc2_w 188, 3) := by decide +kernel
theorem dX9_digest_79 : decode cX9_digest 79 = .ok (.lload_n 1, 1) := by decide +kernel
theorem dX9_digest_80 : decode cX9_digest 80 = .ok (.lmul, 1) := by decide +kernel
theorem dX9_digest_81 : decode cX9_digest 81 = .ok (.iload 4, 2) := by decide +kernel
theorem dX9_digest_83 : decode cX9_digest 83 = .ok (.i2l, 1) := by decide +kernel
theorem dX9_digest_84 : decode cX9_digest 84 = .ok (.ladd, 1) := by decide +kernel
theorem dX9_digest_85 : decode cX9_digest 85 = .ok (.lstore_n 1, 1) := by decide +kernel
theorem dX9_digest_86 : decode cX9_digest 86 = .ok (.ldc2_w 188, 3) := by decide +kernel
theorem dX9_digest_89 : decode cX9_digest 89 = .ok (.lload_n 1, 1) := by decide +kernel
theorem dX9_digest_90 : decode cX9_digest 90 = .ok (.lmul, 1) := by decide +kernel
theorem dX9_digest_91 : decode cX9_digest 91 = .ok (.iload 5, 2) := by decide +kernel
theorem dX9_digest_93 : decode cX9_digest 93 = .ok (.i2l, 1) := by decide +kernel
theorem dX9_digest_94 : decode cX9_digest 94 = .ok (.ladd, 1) := by decide +kernel
theorem dX9_digest_95 : decode cX9_digest 95 = .ok (.lstore_n 1, 1) := by decide +kernel
theorem dX9_digest_96 : decode cX9_digest 96 = .ok (.ldc2_w 188, 3) := by decide +kernel
theorem dX9_digest_99 : decode cX9_digest 99 = .ok (.lload_n 1, 1) := by decide +kernel
theorem dX9_digest_100 : decode cX9_digest 100 = .ok (.lmul, 1) := by decide +kernel
theorem dX9_digest_101 : decode cX9_digest 101 = .ok (.aload_n 0, 1) := by decide +kernel
theorem dX9_digest_102 : decode cX9_digest 102 = .ok (.iconst 1, 1) := by decide +kernel
theorem dX9_digest_103 : decode cX9_digest 103 = .ok (.invokevirtual 156, 3) := by decide +kernel
theorem dX9_digest_106 : decode cX9_digest 106 = .ok (.i2l, 1) := by decide +kernel
theorem dX9_digest_107 : decode cX9_digest 107 = .ok (.ladd, 1) := by decide +kernel
theorem dX9_digest_108 : decode cX9_digest 108 = .ok (.lstore_n 1, 1) := by decide +kernel
theorem dX9_digest_109 : decode cX9_digest 109 = .ok (.ldc2_w 188, 3) := by decide +kernel
theorem dX9_digest_112 : decode cX9_digest 112 = .ok (.lload_n 1, 1) := by decide +kernel
theorem dX9_digest_113 : decode cX9_digest 113 = .ok (.lmul, 1) := by decide +kernel
theorem dX9_digest_114 : decode cX9_digest 114 = .ok (.aload_n 0, 1) := by decide +kernel
theorem dX9_digest_115 : decode cX9_digest 115 = .ok (.iconst 0, 1) := by decide +kernel
theorem dX9_digest_116 : decode cX9_digest 116 = .ok (.invokevirtual 156, 3) := by decide +kernel
theorem dX9_digest_119 : decode cX9_digest 119 = .ok (.i2l, 1) := by decide +kernel
theorem dX9_digest_120 : decode cX9_digest 120 = .ok (.ladd, 1) := by decide +kernel
theorem dX9_digest_121 : decode cX9_digest 121 = .ok (.lstore_n 1, 1) := by decide +kernel
theorem dX9_digest_122 : decode cX9_digest 122 = .ok (.ldc2_w 188, 3) := by decide +kernel
theorem dX9_digest_125 : decode cX9_digest 125 = .ok (.lload_n 1, 1) := by decide +kernel
theorem dX9_digest_126 : decode cX9_digest 126 = .ok (.lmul, 1) := by decide +kernel
theorem dX9_digest_127 : decode cX9_digest 127 = .ok (.iload_n 3, 1) := by decide +kernel
theorem dX9_digest_128 : decode cX9_digest 128 = .ok (.i2l, 1) := by decide +kernel
theorem dX9_digest_129 : decode cX9_digest 129 = .ok (.ladd, 1) := by decide +kernel
theorem dX9_digest_130 : decode cX9_digest 130 = .ok (.lstore_n 1, 1) := by decide +kernel
theorem dX9_digest_131 : decode cX9_digest 131 = .ok (.iconst 0, 1) := by decide +kernel
theorem dX9_digest_132 : decode cX9_digest 132 = .ok (.istore 7, 2) := by decide +kernel
theorem dX9_digest_134 : decode cX9_digest 134 = .ok (.iload 7, 2) := by decide +kernel
theorem dX9_digest_136 : decode cX9_digest 136 = .ok (.aload_n 0, 1) := by decide +kernel
theorem dX9_digest_137 : decode cX9_digest 137 = .ok (.getfield 7, 3) := by decide +kernel
theorem dX9_digest_140 : decode cX9_digest 140 = .ok (.bipush 80, 2) := by decide +kernel
theorem dX9_digest_142 : decode cX9_digest 142 = .ok (.iaload, 1) := by decide +kernel
theorem dX9_digest_143 : decode cX9_digest 143 = .ok (.if_icmp .ge 70, 3) := by decide +kernel
theorem dX9_digest_146 : decode cX9_digest 146 = .ok (.ldc2_w 188, 3) := by decide +kernel
theorem dX9_digest_149 : decode cX9_digest 149 = .ok (.lload_n 1, 1) := by decide +kernel
theorem dX9_digest_150 : decode cX9_digest 150 = .ok (.lmul, 1) := by decide +kernel
theorem dX9_digest_151 : decode cX9_digest 151 = .ok (.aload_n 0, 1) := by decide +kernel
theorem dX9_digest_152 : decode cX9_digest 152 = .ok (.getfield 7, 3) := by decide +kernel
theorem dX9_digest_155 : decode cX9_digest 155 = .ok (.iload 7, 2) := by decide +kernel
theorem dX9_digest_157 : decode cX9_digest 157 = .ok (.iaload, 1) := by decide +kernel
theorem dX9_digest_158 : decode cX9_digest 158 = .ok (.i2l, 1) := by decide +kernel
theorem dX9_digest_159 : decode cX9_digest 159 = .ok (.ladd, 1) := by decide +kernel
theorem dX9_digest_160 : decode cX9_digest 160 = .ok (.lstore_n 1, 1) := by decide +kernel
theorem dX9_digest_161 : decode cX9_digest 161 = .ok (.ldc2_w 188, 3) := by decide +kernel
theorem dX9_digest_164 : decode cX9_digest 164 = .ok (.lload_n 1, 1) := by decide +kernel
theorem dX9_digest_165 : decode cX9_digest 165 = .ok (.lmul, 1) := by decide +kernel
theorem dX9_digest_166 : decode cX9_digest 166 = .ok (.aload_n 0, 1) := by decide +kernel
theorem dX9_digest_167 : decode cX9_digest 167 = .ok (.getfield 7, 3) := by decide +kernel
theorem dX9_digest_170 : decode cX9_digest 170 = .ok (.bipush 40, 2) := by decide +kernel
theorem dX9_digest_172 : decode cX9_digest 172 = .ok (.iload 7, 2) := by decide +kernel
theorem dX9_digest_174 : decode cX9_digest 174 = .ok (.iadd, 1) := by decide +kernel
theorem dX9_digest_175 : decode cX9_digest 175 = .ok (.iaload, 1) := by decide +kernel
theorem dX9_digest_176 : decode cX9_digest 176 = .ok (.i2l, 1) := by decide +kernel
theorem dX9_digest_177 : decode cX9_digest 177 = .ok (.ladd, 1) := by decide +kernel
theorem dX9_digest_178 : decode cX9_digest 178 = .ok (.lstore_n 1, 1) := by decide +kernel
theorem dX9_digest_179 : decode cX9_digest 179 = .ok (.ldc2_w 188, 3) := by decide +kernel
theorem dX9_digest_182 : decode cX9_digest 182 = .ok (.lload_n 1, 1) := by decide +kernel
theorem dX9_digest_183 : decode cX9_digest 183 = .ok (.lmul, 1) := by decide +kernel
theorem dX9_digest_184 : decode cX9_digest 184 = .ok (.aload_n 0, 1) := by decide +kernel
theorem dX9_digest_185 : decode cX9_digest 185 = .ok (.iload 7, 2) := by decide +kernel
theorem dX9_digest_187 : decode cX9_digest 187 = .ok (.invokevirtual 120, 3) := by decide +kernel
theorem dX9_digest_190 : decode cX9_digest 190 = .ok (.i2l, 1) := by decide +kernel
theorem dX9_digest_191 : decode cX9_digest 191 = .ok (.ladd, 1) := by decide +kernel
theorem dX9_digest_192 : decode cX9_digest 192 = .ok (.lstore_n 1, 1) := by decide +kernel
theorem dX9_digest_193 : decode cX9_digest 193 = .ok (.ldc2_w 188, 3) := by decide +kernel
theorem dX9_digest_196 : decode cX9_digest 196 = .ok (.lload_n 1, 1) := by decide +kernel
theorem dX9_digest_197 : decode cX9_digest 197 = .ok (.lmul, 1) := by decide +kernel
theorem dX9_digest_198 : decode cX9_digest 198 = .ok (.aload_n 0, 1) := by decide +kernel
theorem dX9_digest_199 : decode cX9_digest 199 = .ok (.iload 7, 2) := by decide +kernel
theorem dX9_digest_201 : decode cX9_digest 201 = .ok (.invokevirtual 135, 3) := by decide +kernel
theorem dX9_digest_204 : decode cX9_digest 204 = .ok (.i2l, 1) := by decide +kernel
theorem dX9_digest_205 : decode cX9_digest 205 = .ok (.ladd, 1) := by decide +kernel
theorem dX9_digest_206 : decode cX9_digest 206 = .ok (.lstore_n 1, 1) := by decide +kernel
theorem dX9_digest_207 : decode cX9_digest 207 = .ok (.iinc 7 1, 3) := by decide +kernel
theorem dX9_digest_210 : decode cX9_digest 210 = .ok (.goto (-76), 3) := by decide +kernel
theorem dX9_digest_213 : decode cX9_digest 213 = .ok (.iconst 0, 1) := by decide +kernel
theorem dX9_digest_214 : decode cX9_digest 214 = .ok (.istore 7, 2) := by decide +kernel
theorem dX9_digest_216 : decode cX9_digest 216 = .ok (.iload 7, 2) := by decide +kernel
theorem dX9_digest_218 : decode cX9_digest 218 = .ok (.iload 6, 2) := by decide +kernel
theorem dX9_digest_220 : decode cX9_digest 220 = .ok (.if_icmp .ge 50, 3) := by decide +kernel
theorem dX9_digest_223 : decode cX9_digest 223 = .ok (.ldc2_w 188, 3) := by decide +kernel
theorem dX9_digest_226 : decode cX9_digest 226 = .ok (.lload_n 1, 1) := by decide +kernel
theorem dX9_digest_227 : decode cX9_digest 227 = .ok (.lmul, 1) := by decide +kernel
theorem dX9_digest_228 : decode cX9_digest 228 = .ok (.aload_n 0, 1) := by decide +kernel
theorem dX9_digest_229 : decode cX9_digest 229 = .ok (.aload_n 0, 1) := by decide +kernel
theorem dX9_digest_230 : decode cX9_digest 230 = .ok (.iload 7, 2) := by decide +kernel
theorem dX9_digest_232 : decode cX9_digest 232 = .ok (.invokevirtual 126, 3) := by decide +kernel
theorem dX9_digest_235 : decode cX9_digest 235 = .ok (.aload_n 0, 1) := by decide +kernel
theorem dX9_digest_236 : decode cX9_digest 236 = .ok (.iload 7, 2) := by decide +kernel
theorem dX9_digest_238 : decode cX9_digest 238 = .ok (.iconst 1, 1) := by decide +kernel
theorem dX9_digest_239 : decode cX9_digest 239 = .ok (.iadd, 1) := by decide +kernel
theorem dX9_digest_240 : decode cX9_digest 240 = .ok (.invokevirtual 126, 3) := by decide +kernel
theorem dX9_digest_243 : decode cX9_digest 243 = .ok (.invokevirtual 70, 3) := by decide +kernel
theorem dX9_digest_246 : decode cX9_digest 246 = .ok (.i2l, 1) := by decide +kernel
theorem dX9_digest_247 : decode cX9_digest 247 = .ok (.ladd, 1) := by decide +kernel
theorem dX9_digest_248 : decode cX9_digest 248 = .ok (.lstore_n 1, 1) := by decide +kernel
theorem dX9_digest_249 : decode cX9_digest 249 = .ok (.ldc2_w 188, 3) := by decide +kernel
theorem dX9_digest_252 : decode cX9_digest 252 = .ok (.lload_n 1, 1) := by decide +kernel
theorem dX9_digest_253 : decode cX9_digest 253 = .ok (.lmul, 1) := by decide +kernel
theorem dX9_digest_254 : decode cX9_digest 254 = .ok (.aload_n 0, 1) := by decide +kernel
theorem dX9_digest_255 : decode cX9_digest 255 = .ok (.getfield 33, 3) := by decide +kernel
theorem dX9_digest_258 : decode cX9_digest 258 = .ok (.iload 7, 2) := by decide +kernel
theorem dX9_digest_260 : decode cX9_digest 260 = .ok (.iaload, 1) := by decide +kernel
theorem dX9_digest_261 : decode cX9_digest 261 = .ok (.i2l, 1) := by decide +kernel
theorem dX9_digest_262 : decode cX9_digest 262 = .ok (.ladd, 1) := by decide +kernel
theorem dX9_digest_263 : decode cX9_digest 263 = .ok (.lstore_n 1, 1) := by decide +kernel
theorem dX9_digest_264 : decode cX9_digest 264 = .ok (.iinc 7 1, 3) := by decide +kernel
theorem dX9_digest_267 : decode cX9_digest 267 = .ok (.goto (-51), 3) := by decide +kernel
theorem dX9_digest_270 : decode cX9_digest 270 = .ok (.lload_n 1, 1) := by decide +kernel
theorem dX9_digest_271 : decode cX9_digest 271 = .ok (.lreturn, 1) := by decide +kernel
