set_option maxRecDepth 20000 in
theorem ggX0_init_X6_init : GoodIn wsX0_init wsX6_init := goodIn_r _ [14, 15, 2, 3, 16, 17, 18, 19, 20, 21, 22] (by decide +kernel) (by decide +kernel)
set_option maxRecDepth 20000 in
theorem gX0_init_X6_init : GoodIn wsX0_init (wsX6_init) := ggX0_init_X6_init
theorem dX0_init_0 : decode cX0_init 0 = .ok (.aload_n 0, 1) := by decide +kernel
theorem dX0_init_1 : decode cX0_init 1 = .ok (.invokespecial 3, 3) := by decide +kernel
theorem dX0_init_4 : decode cX0_init 4 = .ok (.aload_n 0, 1) := by decide +kernel
theorem dX0_init_5 : decode cX0_init 5 = .ok (.new 9, 3) := by decide +kernel
theorem dX0_init_8 : decode cX0_init 8 = .ok (.dup, 1) := by decide +kernel
theorem dX0_init_9 : decode cX0_init 9 = .ok (.bipush 60, 2) := by decide +kernel
theorem dX0_init_11 : decode cX0_init 11 = .ok (.invokespecial 11, 3) := by decide +kernel
theorem dX0_init_14 : decode cX0_init 14 = .ok (.putfield 14, 3) := by decide +kernel
theorem dX0_init_17 : decode cX0_init 17 = .ok (.aload_n 0, 1) := by decide +kernel
theorem dX0_init_18 : decode cX0_init 18 = .ok (.new 9, 3) := by decide +kernel
theorem dX0_init_21 : decode cX0_init 21 = .ok (.dup, 1) := by decide +kernel
theorem dX0_init_22 : decode cX0_init 22 = .ok (.bipush 60, 2) := by decide +kernel
theorem dX0_init_24 : decode cX0_init 24 = .ok (.invokespecial 11, 3) := by decide +kernel
theorem dX0_init_27 : decode cX0_init 27 = .ok (.putfield 20, 3) := by decide +kernel
theorem dX0_init_30 : decode cX0_init 30 = .ok (.aload_n 0, 1) := by decide +kernel
theorem dX0_init_31 : decode cX0_init 31 = .ok (.new 9, 3) := by decide +kernel
theorem dX0_init_34 : decode cX0_init 34 = .ok (.dup, 1) := by decide +kernel
theorem dX0_init_35 : decode cX0_init 35 = .ok (.bipush 60, 2) := by decide +kernel
theorem dX0_init_37 : decode cX0_init 37 = .ok (.invokespecial 11, 3) := by decide +kernel
theorem dX0_init_40 : decode cX0_init 40 = .ok (.putfield 23, 3) := by decide +kernel
theorem dX0_init_43 : decode cX0_init 43 = .ok (.aload_n 0, 1) := by decide +kernel
theorem dX0_init_44 : decode cX0_init 44 = .ok (.iconst 0, 1) := by decide +kernel
theorem dX0_init_45 : decode cX0_init 45 = .ok (.putfield 26, 3) := by decide +kernel
theorem dX0_init_48 : decode cX0_init 48 = .ok (.aload_n 0, 1) := by decide +kernel
theorem dX0_init_49 : decode cX0_init 49 = .ok (.iconst 0, 1) := by decide +kernel
theorem dX0_init_50 : decode cX0_init 50 = .ok (.putfield 30, 3) := by decide +kernel
theorem dX0_init_53 : decode cX0_init 53 = .ok (.return_, 1) := by decide +kernel
set_option maxRecDepth 20000 in
theorem ggX0_add_X6_put : GoodIn wsX0_add wsX6_put := goodIn_r _ [7, 8, 14] (by decide +kernel) (by decide +kernel)
set_option maxRecDepth 20000 in
theorem gX0_add_X6_put : GoodIn wsX0_add (wsV RX0 33 RX6 yX6_put wsX6_put) := goodIn_app (goodIn_of _ (by decide +kernel)) ggX0_add_X6_put
theorem dX0_add_0 : decode cX0_add 0 = .ok (.aload_n 0, 1) := by decide +kernel
theorem dX0_add_1 : decode cX0_add 1 = .ok (.getfield 26, 3) := by decide +kernel
theorem dX0_add_4 : decode cX0_add 4 = .ok (.bipush 60, 2) := by decide +kernel
theorem dX0_add_6 : decode cX0_add 6 = .ok (.if_icmp .ge 25, 3) := by decide +kernel
theorem dX0_add_9 : decode cX0_add 9 = .ok (.aload_n 0, 1) := by decide +kernel
theorem dX0_add_10 : decode cX0_add 10 = .ok (.getfield 14, 3) := by decide +kernel
theorem dX0_add_13 : decode cX0_add 13 = .ok (.aload_n 0, 1) := by decide +kernel
theorem dX0_add_14 : decode cX0_add 14 = .ok (.getfield 26, 3) := by decide +kernel
theorem dX0_add_17 : decode cX0_add 17 = .ok (.iload_n 1, 1) := by decide +kernel
theorem dX0_add_18 : decode cX0_add 18 = .ok (.invokevirtual 33, 3) := by decide +kernel
theorem dX0_add_21 : decode cX0_add 21 = .ok (.aload_n 0, 1) := by decide +kernel
theorem dX0_add_22 : decode cX0_add 22 = .ok (.dup, 1) := by decide +kernel
theorem dX0_add_23 : decode cX0_add 23 = .ok (.getfield 26, 3) := by decide +kernel
theorem dX0_add_26 : decode cX0_add 26 = .ok (.iconst 1, 1) := by decide +kernel
theorem dX0_add_27 : decode cX0_add 27 = .ok (.iadd, 1) := by decide +kernel
theorem dX0_add_28 : decode cX0_add 28 = .ok (.putfield 26, 3) := by decide +kernel
theorem dX0_add_31 : decode cX0_add 31 = .ok (.return_, 1) := by decide +kernel
set_option maxRecDepth 20000 in
theorem ggX0_scan_X0_beginWord : GoodIn wsX0_scan wsX0_beginWord := goodIn_r _ [7, 8, 9, 10, 11, 12, 13, 14, 15, 16, 37, 38, 39, 40, 41, 42] (by decide +kernel) (by decide +kernel)
set_option maxRecDepth 20000 in
theorem gX0_scan_X0_beginWord : GoodIn wsX0_scan (wsV RX0 37 RX0 yX0_beginWord wsX0_beginWord) := goodIn_app (goodIn_of _ (by decide +kernel)) ggX0_scan_X0_beginWord
set_option maxRecDepth 20000 in
theorem ggX0_scan_X6_at : GoodIn wsX0_scan wsX6_at := goodIn_r _ [20, 16, 42] (by decide +kernel) (by decide +kernel)
set_option maxRecDepth 20000 in
theorem gX0_scan_X6_at : GoodIn wsX0_scan (wsV RX0 40 RX6 yX6_at wsX6_at) := goodIn_app (goodIn_of _ (by decide +kernel)) ggX0_scan_X6_at
set_option maxRecDepth 20000 in
theorem ggX0_scan_X0_take : GoodIn wsX0_scan wsX0_take := goodIn_r _ [24, 8, 25, 26, 27, 6, 28, 9, 10, 17, 18, 19, 14, 20, 16, 11, 12, 13, 15, 29, 30, 31, 32, 3, 4, 5, 7, 33, 34, 35, 36, 37, 38, 39, 40, 41, 42] (by decide +kernel) (by decide +kernel)
set_option maxRecDepth 20000 in
theorem gX0_scan_X0_take : GoodIn wsX0_scan (wsV RX0 44 RX0 yX0_take wsX0_take) := goodIn_app (goodIn_of _ (by decide +kernel)) ggX0_scan_X0_take
theorem dX0_scan_0 : decode cX0_scan 0 = .ok (.aload_n 0, 1) := by decide +kernel
theorem dX0_scan_1 : decode cX0_scan 1 = .ok (.iconst 0, 1) := by decide +kernel
theorem dX0_scan_2 : decode cX0_scan 2 = .ok (.invokevirtual 37, 3) := by decide +kernel
theorem dX0_scan_5 : decode cX0_scan 5 = .ok (.iconst 0, 1) := by decide +kernel
theorem dX0_scan_6 : decode cX0_scan 6 = .ok (.istore_n 1, 1) := by decide +kernel
theorem dX0_scan_7 : decode cX0_scan 7 = .ok (.iload_n 1, 1) := by decide +kernel
theorem dX0_scan_8 : decode cX0_scan 8 = .ok (.aload_n 0, 1) := by decide +kernel
theorem dX0_scan_9 : decode cX0_scan 9 = .ok (.getfield 26, 3) := by decide +kernel
theorem dX0_scan_12 : decode cX0_scan 12 = .ok (.if_icmp .ge 26, 3) := by decide +kernel
theorem dX0_scan_15 : decode cX0_scan 15 = .ok (.aload_n 0, 1) := by decide +kernel
theorem dX0_scan_16 : decode cX0_scan 16 = .ok (.aload_n 0, 1) := by decide +kernel
theorem dX0_scan_17 : decode cX0_scan 17 = .ok (.getfield 14, 3) := by decide +kernel
theorem dX0_scan_20 : decode cX0_scan 20 = .ok (.iload_n 1, 1) := by decide +kernel
theorem dX0_scan_21 : decode cX0_scan 21 = .ok (.invokevirtual 40, 3) := by decide +kernel
theorem dX0_scan_24 : decode cX0_scan 24 = .ok (.invokevirtual 44, 3) := by decide +kernel
theorem dX0_scan_27 : decode cX0_scan 27 = .ok (.ifCond .ne 5, 3) := by decide +kernel
theorem dX0_scan_30 : decode cX0_scan 30 = .ok (.iload_n 1, 1) := by decide +kernel
theorem dX0_scan_31 : decode cX0_scan 31 = .ok (.ireturn, 1) := by decide +kernel
theorem dX0_scan_32 : decode cX0_scan 32 = .ok (.iinc 1 1, 3) := by decide +kernel
theorem dX0_scan_35 : decode cX0_scan 35 = .ok (.goto (-28), 3) := by decide +kernel
theorem dX0_scan_38 : decode cX0_scan 38 = .ok (.aload_n 0, 1) := by decide +kernel
theorem dX0_scan_39 : decode cX0_scan 39 = .ok (.getfield 26, 3) := by decide +kernel
theorem dX0_scan_42 : decode cX0_scan 42 = .ok (.ireturn, 1) := by decide +kernel
set_option maxRecDepth 20000 in
theorem ggX0_endsInWord_X6_at : GoodIn wsX0_endsInWord wsX6_at := goodIn_r _ [7, 8, 14] (by decide +kernel) (by decide +kernel)
set_option maxRecDepth 20000 in
theorem gX0_endsInWord_X6_at : GoodIn wsX0_endsInWord (wsV RX0 40 RX6 yX6_at wsX6_at) := goodIn_app (goodIn_of _ (by decide +kernel)) ggX0_endsInWord_X6_at
theorem dX0_endsInWord_0 : decode cX0_endsInWord 0 = .ok (.aload_n 0, 1) := by decide +kernel
theorem dX0_endsInWord_1 : decode cX0_endsInWord 1 = .ok (.getfield 20, 3) := by decide +kernel
theorem dX0_endsInWord_4 : decode cX0_endsInWord 4 = .ok (.aload_n 0, 1) := by decide +kernel
theorem dX0_endsInWord_5 : decode cX0_endsInWord 5 = .ok (.getfield 30, 3) := by decide +kernel
theorem dX0_endsInWord_8 : decode cX0_endsInWord 8 = .ok (.invokevirtual 40, 3) := by decide +kernel
theorem dX0_endsInWord_11 : decode cX0_endsInWord 11 = .ok (.ifCond .le 7, 3) := by decide +kernel
theorem dX0_endsInWord_14 : decode cX0_endsInWord 14 = .ok (.iconst 1, 1) := by decide +kernel
theorem dX0_endsInWord_15 : decode cX0_endsInWord 15 = .ok (.goto 4, 3) := by decide +kernel
theorem dX0_endsInWord_18 : decode cX0_endsInWord 18 = .ok (.iconst 0, 1) := by decide +kernel
theorem dX0_endsInWord_19 : decode cX0_endsInWord 19 = .ok (.ireturn, 1) := by decide +kernel
theorem dX0_countWords_0 : decode cX0_countWords 0 = .ok (.aload_n 0, 1) := by decide +kernel
theorem dX0_countWords_1 : decode cX0_countWords 1 = .ok (.getfield 30, 3) := by decide +kernel
theorem dX0_countWords_4 : decode cX0_countWords 4 = .ok (.iconst 1, 1) := by decide +kernel
theorem dX0_countWords_5 : decode cX0_countWords 5 = .ok (.iadd, 1) := by decide +kernel
theorem dX0_countWords_6 : decode cX0_countWords 6 = .ok (.ireturn, 1) := by decide +kernel
set_option maxRecDepth 20000 in
theorem ggX0_beginWord_X6_put : GoodIn wsX0_beginWord wsX6_put := goodIn_r _ [8, 9, 15] (by decide +kernel) (by decide +kernel)
set_option maxRecDepth 20000 in
theorem gX0_beginWord_X6_put : GoodIn wsX0_beginWord (wsV RX0 33 RX6 yX6_put wsX6_put) := goodIn_app (goodIn_of _ (by decide +kernel)) ggX0_beginWord_X6_put
theorem dX0_beginWord_0 : decode cX0_beginWord 0 = .ok (.aload_n 0, 1) := by decide +kernel
theorem dX0_beginWord_1 : decode cX0_beginWord 1 = .ok (.iload_n 1, 1) := by decide +kernel
theorem dX0_beginWord_2 : decode cX0_beginWord 2 = .ok (.putfield 30, 3) := by decide +kernel
theorem dX0_beginWord_5 : decode cX0_beginWord 5 = .ok (.aload_n 0, 1) := by decide +kernel
theorem dX0_beginWord_6 : decode cX0_beginWord 6 = .ok (.getfield 20, 3) := by decide +kernel
theorem dX0_beginWord_9 : decode cX0_beginWord 9 = .ok (.iload_n 1, 1) := by decide +kernel
theorem dX0_beginWord_10 : decode cX0_beginWord 10 = .ok (.iconst 0, 1) := by decide +kernel
theorem dX0_beginWord_11 : decode cX0_beginWord 11 = .ok (.invokevirtual 33, 3) := by decide +kernel
theorem dX0_beginWord_14 : decode cX0_beginWord 14 = .ok (.aload_n 0, 1) := by decide +kernel
theorem dX0_beginWord_15 : decode cX0_beginWord 15 = .ok (.getfield 23, 3) := by decide +kernel
theorem dX0_beginWord_18 : decode cX0_beginWord 18 = .ok (.iload_n 1, 1) := by decide +kernel
theorem dX0_beginWord_19 : decode cX0_beginWord 19 = .ok (.iconst 0, 1) := by decide +kernel
theorem dX0_beginWord_20 : decode cX0_beginWord 20 = .ok (.invokevirtual 33, 3) := by decide +kernel
theorem dX0_beginWord_23 : decode cX0_beginWord 23 = .ok (.return_, 1) := by decide +kernel
set_option maxRecDepth 20000 in
theorem ggX0_take_X0_takeDigit : GoodIn wsX0_take wsX0_takeDigit := goodIn_r _ [6, 7, 1, 8, 9, 10, 11, 12, 13, 14, 15, 16, 17, 18, 31, 32, 33, 34, 35, 36] (by decide +kernel) (by decide +kernel)
set_option maxRecDepth 20000 in
theorem gX0_take_X0_takeDigit : GoodIn wsX0_take (wsV RX0 48 RX0 yX0_takeDigit wsX0_takeDigit) := goodIn_app (goodIn_of _ (by decide +kernel)) ggX0_take_X0_takeDigit
set_option maxRecDepth 20000 in
theorem ggX0_take_X0_endsInWord : GoodIn wsX0_take wsX0_endsInWord := goodIn_r _ [22, 7, 1, 9, 10, 11, 12, 13, 14, 31, 32, 33, 34, 35, 36] (by decide +kernel) (by decide +kernel)
set_option maxRecDepth 20000 in
theorem gX0_take_X0_endsInWord : GoodIn wsX0_take (wsV RX0 51 RX0 yX0_endsInWord wsX0_endsInWord) := goodIn_app (goodIn_of _ (by decide +kernel)) ggX0_take_X0_endsInWord
set_option maxRecDepth 20000 in
theorem ggX0_take_X0_beginWord : GoodIn wsX0_take wsX0_beginWord := goodIn_r _ [26, 1, 7, 8, 15, 16, 17, 12, 18, 14, 31, 32, 33, 34, 35, 36] (by decide +kernel) (by decide +kernel)
set_option maxRecDepth 20000 in
theorem gX0_take_X0_beginWord : GoodIn wsX0_take (wsV RX0 37 RX0 yX0_beginWord wsX0_beginWord) := goodIn_app (goodIn_of _ (by decide +kernel)) ggX0_take_X0_beginWord
set_option maxRecDepth 20000 in
theorem ggX0_take_X0_takeMark : GoodIn wsX0_take wsX0_takeMark := goodIn_r _ [30, 8, 1, 9, 10, 11, 12, 13, 14, 15, 16, 17, 18, 31, 32, 33, 34, 35, 36] (by decide +kernel) (by decide +kernel)
set_option maxRecDepth 20000 in
theorem gX0_take_X0_takeMark : GoodIn wsX0_take (wsV RX0 55 RX0 yX0_takeMark wsX0_takeMark) := goodIn_app (goodIn_of _ (by decide +kernel)) ggX0_take_X0_takeMark
theorem dX0_take_0 : decode cX0_take 0 = .ok (.iload_n 1, 1) := by decide +kernel
theorem dX0_take_1 : decode cX0_take 1 = .ok (.bipush 48, 2) := by decide +kernel
theorem dX0_take_3 : decode cX0_take 3 = .ok (.if_icmp .lt 18, 3) := by decide +kernel
theorem dX0_take_6 : decode cX0_take 6 = .ok (.iload_n 1, 1) := by decide +kernel
theorem dX0_take_7 : decode cX0_take 7 = .ok (.bipush 57, 2) := by decide +kernel
theorem dX0_take_9 : decode cX0_take 9 = .ok (.if_icmp .gt 12, 3) := by decide +kernel
theorem dX0_take_12 : decode cX0_take 12 = .ok (.aload_n 0, 1) := by decide +kernel
theorem dX0_take_13 : decode cX0_take 13 = .ok (.iload_n 1, 1) := by decide +kernel
theorem dX0_take_14 : decode cX0_take 14 = .ok (.bipush 48, 2) := by decide +kernel
theorem dX0_take_16 : decode cX0_take 16 = .ok (.isub, 1) := by decide +kernel
theorem dX0_take_17 : decode cX0_take 17 = .ok (.invokevirtual 48, 3) := by decide +kernel
theorem dX0_take_20 : decode cX0_take 20 = .ok (.ireturn, 1) := by decide +kernel
theorem dX0_take_21 : decode cX0_take 21 = .ok (.aload_n 0, 1) := by decide +kernel
theorem dX0_take_22 : decode cX0_take 22 = .ok (.invokevirtual 51, 3) := by decide +kernel
theorem dX0_take_25 : decode cX0_take 25 = .ok (.ifCond .ne 5, 3) := by decide +kernel
theorem dX0_take_28 : decode cX0_take 28 = .ok (.iconst 0, 1) := by decide +kernel
theorem dX0_take_29 : decode cX0_take 29 = .ok (.ireturn, 1) := by decide +kernel
theorem dX0_take_30 : decode cX0_take 30 = .ok (.iload_n 1, 1) := by decide +kernel
theorem dX0_take_31 : decode cX0_take 31 = .ok (.bipush 44, 2) := by decide +kernel
theorem dX0_take_33 : decode cX0_take 33 = .ok (.if_icmp .ne 15, 3) := by decide +kernel
theorem dX0_take_36 : decode cX0_take 36 = .ok (.aload_n 0, 1) := by decide +kernel
theorem dX0_take_37 : decode cX0_take 37 = .ok (.aload_n 0, 1) := by decide +kernel
theorem dX0_take_38 : decode cX0_take 38 = .ok (.getfield 30, 3) := by decide +kernel
theorem dX0_take_41 : decode cX0_take 41 = .ok (.iconst 1, 1) := by decide +kernel
theorem dX0_take_42 : decode cX0_take 42 = .ok (.iadd, 1) := by decide +kernel
theorem dX0_take_43 : decode cX0_take 43 = .ok (.invokevirtual 37, 3) := by decide +kernel
theorem dX0_take_46 : decode cX0_take 46 = .ok (.iconst 1, 1) := by decide +kernel
theorem dX0_take_47 : decode cX0_take 47 = .ok (.ireturn, 1) := by decide +kernel
theorem dX0_take_48 : decode cX0_take 48 = .ok (.iload_n 1, 1) := by decide +kernel
theorem dX0_take_49 : decode cX0_take 49 = .ok (.bipush 33, 2) := by decide +kernel
theorem dX0_take_51 : decode cX0_take 51 = .ok (.if_icmp .ne 9, 3) := by decide +kernel
theorem dX0_take_54 : decode cX0_take 54 = .ok (.aload_n 0, 1) := by decide +kernel
theorem dX0_take_55 : decode cX0_take 55 = .ok (.iconst 1, 1) := by decide +kernel
theorem dX0_take_56 : decode cX0_take 56 = .ok (.invokevirtual 55, 3) := by decide +kernel
theorem dX0_take_59 : decode cX0_take 59 = .ok (.ireturn, 1) := by decide +kernel
theorem dX0_take_60 : decode cX0_take 60 = .ok (.iload_n 1, 1) := by decide +kernel
theorem dX0_take_61 : decode cX0_take 61 = .ok (.bipush 47, 2) := by decide +kernel
theorem dX0_take_63 : decode cX0_take 63 = .ok (.if_icmp .ne 15, 3) := by decide +kernel
theorem dX0_take_66 : decode cX0_take 66 = .ok (.aload_n 0, 1) := by decide +kernel
theorem dX0_take_67 : decode cX0_take 67 = .ok (.iconst 2, 1) := by decide +kernel
theorem dX0_take_68 : decode cX0_take 68 = .ok (.invokevirtual 55, 3) := by decide +kernel
theorem dX0_take_71 : decode cX0_take 71 = .ok (.ifCond .eq 7, 3) := by decide +kernel
theorem dX0_take_74 : decode cX0_take 74 = .ok (.iconst 1, 1) := by decide +kernel
theorem dX0_take_75 : decode cX0_take 75 = .ok (.goto 4, 3) := by decide +kernel
theorem dX0_take_78 : decode cX0_take 78 = .ok (.iconst 0, 1) := by decide +kernel
theorem dX0_take_79 : decode cX0_take 79 = .ok (.ireturn, 1) := by decide +kernel
set_option maxRecDepth 20000 in
theorem ggX0_takeDigit_X6_at : GoodIn wsX0_takeDigit wsX6_at := goodIn_r _ [8, 9, 19] (by decide +kernel) (by decide +kernel)
set_option maxRecDepth 20000 in
theorem gX0_takeDigit_X6_at : GoodIn wsX0_takeDigit (wsV RX0 40 RX6 yX6_at wsX6_at) := goodIn_app (goodIn_of _ (by decide +kernel)) ggX0_takeDigit_X6_at
set_option maxRecDepth 20000 in
theorem ggX0_takeDigit_X6_put : GoodIn wsX0_takeDigit wsX6_put := goodIn_r _ [13, 9, 19] (by decide +kernel) (by decide +kernel)
set_option maxRecDepth 20000 in
theorem gX0_takeDigit_X6_put : GoodIn wsX0_takeDigit (wsV RX0 33 RX6 yX6_put wsX6_put) := goodIn_app (goodIn_of _ (by decide +kernel)) ggX0_takeDigit_X6_put
theorem dX0_takeDigit_0 : decode cX0_takeDigit 0 = .ok (.bipush 10, 2) := by decide +kernel
theorem dX0_takeDigit_2 : decode cX0_takeDigit 2 = .ok (.aload_n 0, 1) := by decide +kernel
theorem dX0_takeDigit_3 : decode cX0_takeDigit 3 = .ok (.getfield 20, 3) := by decide +kernel
theorem dX0_takeDigit_6 : decode cX0_takeDigit 6 = .ok (.aload_n 0, 1) := by decide +kernel
theorem dX0_takeDigit_7 : decode cX0_takeDigit 7 = .ok (.getfield 30, 3) := by decide +kernel
theorem dX0_takeDigit_10 : decode cX0_takeDigit 10 = .ok (.invokevirtual 40, 3) := by decide +kernel
theorem dX0_takeDigit_13 : decode cX0_takeDigit 13 = .ok (.imul, 1) := by decide +kernel
theorem dX0_takeDigit_14 : decode cX0_takeDigit 14 = .ok (.iload_n 1, 1) := by decide +kernel
theorem dX0_takeDigit_15 : decode cX0_takeDigit 15 = .ok (.iadd, 1) := by decide +kernel
theorem dX0_takeDigit_16 : decode cX0_takeDigit 16 = .ok (.istore_n 2, 1) := by decide +kernel
theorem dX0_takeDigit_17 : decode cX0_takeDigit 17 = .ok (.aload_n 0, 1) := by decide +kernel
theorem dX0_takeDigit_18 : decode cX0_takeDigit 18 = .ok (.getfield 23, 3) := by decide +kernel
theorem dX0_takeDigit_21 : decode cX0_takeDigit 21 = .ok (.aload_n 0, 1) := by decide +kernel
theorem dX0_takeDigit_22 : decode cX0_takeDigit 22 = .ok (.getfield 30, 3) := by decide +kernel
theorem dX0_takeDigit_25 : decode cX0_takeDigit 25 = .ok (.invokevirtual 40, 3) := by decide +kernel
theorem dX0_takeDigit_28 : decode cX0_takeDigit 28 = .ok (.ifCond .ne 14, 3) := by decide +kernel
theorem dX0_takeDigit_31 : decode cX0_takeDigit 31 = .ok (.iload_n 2, 1) := by decide +kernel
theorem dX0_takeDigit_32 : decode cX0_takeDigit 32 = .ok (.iconst 1, 1) := by decide +kernel
theorem dX0_takeDigit_33 : decode cX0_takeDigit 33 = .ok (.if_icmp .lt 9, 3) := by decide +kernel
theorem dX0_takeDigit_36 : decode cX0_takeDigit 36 = .ok (.iload_n 2, 1) := by decide +kernel
theorem dX0_takeDigit_37 : decode cX0_takeDigit 37 = .ok (.bipush 30, 2) := by decide +kernel
theorem dX0_takeDigit_39 : decode cX0_takeDigit 39 = .ok (.if_icmp .le 5, 3) := by decide +kernel
theorem dX0_takeDigit_42 : decode cX0_takeDigit 42 = .ok (.iconst 0, 1) := by decide +kernel
theorem dX0_takeDigit_43 : decode cX0_takeDigit 43 = .ok (.ireturn, 1) := by decide +kernel
theorem dX0_takeDigit_44 : decode cX0_takeDigit 44 = .ok (.aload_n 0, 1) := by decide +kernel
theorem dX0_takeDigit_45 : decode cX0_takeDigit 45 = .ok (.getfield 20, 3) := by decide +kernel
theorem dX0_takeDigit_48 : decode cX0_takeDigit 48 = .ok (.aload_n 0, 1) := by decide +kernel
theorem dX0_takeDigit_49 : decode cX0_takeDigit 49 = .ok (.getfield 30, 3) := by decide +kernel
theorem dX0_takeDigit_52 : decode cX0_takeDigit 52 = .ok (.iload_n 2, 1) := by decide +kernel
theorem dX0_takeDigit_53 : decode cX0_takeDigit 53 = .ok (.invokevirtual 33, 3) := by decide +kernel
theorem dX0_takeDigit_56 : decode cX0_takeDigit 56 = .ok (.iconst 1, 1) := by decide +kernel
theorem dX0_takeDigit_57 : decode cX0_takeDigit 57 = .ok (.ireturn, 1) := by decide +kernel
set_option maxRecDepth 20000 in
theorem ggX0_takeMark_X6_at : GoodIn wsX0_takeMark wsX6_at := goodIn_r _ [7, 8, 18] (by decide +kernel) (by decide +kernel)
set_option maxRecDepth 20000 in
theorem gX0_takeMark_X6_at : GoodIn wsX0_takeMark (wsV RX0 40 RX6 yX6_at wsX6_at) := goodIn_app (goodIn_of _ (by decide +kernel)) ggX0_takeMark_X6_at
set_option maxRecDepth 20000 in
theorem ggX0_takeMark_X6_put : GoodIn wsX0_takeMark wsX6_put := goodIn_r _ [12, 8, 18] (by decide +kernel) (by decide +kernel)
set_option maxRecDepth 20000 in
theorem gX0_takeMark_X6_put : GoodIn wsX0_takeMark (wsV RX0 33 RX6 yX6_put wsX6_put) := goodIn_app (goodIn_of _ (by decide +kernel)) ggX0_takeMark_X6_put
theorem dX0_takeMark_0 : decode cX0_takeMark 0 = .ok (.aload_n 0, 1) := by decide +kernel
theorem dX0_takeMark_1 : decode cX0_takeMark 1 = .ok (.getfield 23, 3) := by decide +kernel
theorem dX0_takeMark_4 : decode cX0_takeMark 4 = .ok (.aload_n 0, 1) := by decide +kernel
theorem dX0_takeMark_5 : decode cX0_takeMark 5 = .ok (.getfield 30, 3) := by decide +kernel
theorem dX0_takeMark_8 : decode cX0_takeMark 8 = .ok (.invokevirtual 40, 3) := by decide +kernel
theorem dX0_takeMark_11 : decode cX0_takeMark 11 = .ok (.ifCond .eq 5, 3) := by decide +kernel
theorem dX0_takeMark_14 : decode cX0_takeMark 14 = .ok (.iconst 0, 1) := by decide +kernel
theorem dX0_takeMark_15 : decode cX0_takeMark 15 = .ok (.ireturn, 1) := by decide +kernel
theorem dX0_takeMark_16 : decode cX0_takeMark 16 = .ok (.aload_n 0, 1) := by decide +kernel
theorem dX0_takeMark_17 : decode cX0_takeMark 17 = .ok (.getfield 23, 3) := by decide +kernel
theorem dX0_takeMark_20 : decode cX0_takeMark 20 = .ok (.aload_n 0, 1) := by decide +kernel
theorem dX0_takeMark_21 : decode cX0_takeMark 21 = .ok (.getfield 30, 3) := by decide +kernel
theorem dX0_takeMark_24 : decode cX0_takeMark 24 = .ok (.iload_n 1, 1) := by decide +kernel
theorem dX0_takeMark_25 : decode cX0_takeMark 25 = .ok (.invokevirtual 33, 3) := by decide +kernel
theorem dX0_takeMark_28 : decode cX0_takeMark 28 = .ok (.iconst 1, 1) := by decide +kernel
theorem dX0_takeMark_29 : decode cX0_takeMark 29 = .ok (.ireturn, 1) := by decide +kernel
set_option maxRecDepth 20000 in
theorem ggX1_init_X6_init : GoodIn wsX1_init wsX6_init := goodIn_r _ [12, 13, 2, 3, 14, 15, 16, 17, 18, 19, 20] (by decide +kernel) (by decide +kernel)
set_option maxRecDepth 20000 in
theorem gX1_init_X6_init : GoodIn wsX1_init (wsX6_init) := ggX1_init_X6_init
theorem dX1_init_0 : decode cX1_init 0 = .ok (.aload_n 0, 1) := by decide +kernel
theorem dX1_init_1 : decode cX1_init 1 = .ok (.invokespecial 3, 3) := by decide +kernel
theorem dX1_init_4 : decode cX1_init 4 = .ok (.aload_n 0, 1) := by decide +kernel
theorem dX1_init_5 : decode cX1_init 5 = .ok (.new 9, 3) := by decide +kernel
theorem dX1_init_8 : decode cX1_init 8 = .ok (.dup, 1) := by decide +kernel
theorem dX1_init_9 : decode cX1_init 9 = .ok (.bipush 41, 2) := by decide +kernel
theorem dX1_init_11 : decode cX1_init 11 = .ok (.invokespecial 11, 3) := by decide +kernel
theorem dX1_init_14 : decode cX1_init 14 = .ok (.putfield 14, 3) := by decide +kernel
theorem dX1_init_17 : decode cX1_init 17 = .ok (.aload_n 0, 1) := by decide +kernel
theorem dX1_init_18 : decode cX1_init 18 = .ok (.new 9, 3) := by decide +kernel
theorem dX1_init_21 : decode cX1_init 21 = .ok (.dup, 1) := by decide +kernel
theorem dX1_init_22 : decode cX1_init 22 = .ok (.bipush 40, 2) := by decide +kernel
theorem dX1_init_24 : decode cX1_init 24 = .ok (.invokespecial 11, 3) := by decide +kernel
theorem dX1_init_27 : decode cX1_init 27 = .ok (.putfield 20, 3) := by decide +kernel
theorem dX1_init_30 : decode cX1_init 30 = .ok (.aload_n 0, 1) := by decide +kernel
theorem dX1_init_31 : decode cX1_init 31 = .ok (.aload_n 1, 1) := by decide +kernel
theorem dX1_init_32 : decode cX1_init 32 = .ok (.putfield 23, 3) := by decide +kernel
theorem dX1_init_35 : decode cX1_init 35 = .ok (.return_, 1) := by decide +kernel
set_option maxRecDepth 20000 in
theorem ggX1_measure_X6_at : GoodIn wsX1_measure wsX6_at := goodIn_r _ [8, 9, 36] (by decide +kernel) (by decide +kernel)
set_option maxRecDepth 20000 in
theorem gX1_measure_X6_at : GoodIn wsX1_measure (wsV RX1 33 RX6 yX6_at wsX6_at) := goodIn_app (goodIn_of _ (by decide +kernel)) ggX1_measure_X6_at
set_option maxRecDepth 20000 in
theorem ggX1_measure_X6_put : GoodIn wsX1_measure wsX6_put := goodIn_r _ [13, 9, 36] (by decide +kernel) (by decide +kernel)
set_option maxRecDepth 20000 in
theorem gX1_measure_X6_put : GoodIn wsX1_measure (wsV RX1 40 RX6 yX6_put wsX6_put) := goodIn_app (goodIn_of _ (by decide +kernel)) ggX1_measure_X6_put
set_option maxRecDepth 20000 in
theorem ggX1_measure_X1_longestLineEnd : GoodIn wsX1_measure wsX1_longestLineEnd := goodIn_r _ [18, 1, 4, 5, 6, 7, 8, 9, 19, 20, 21, 17, 22, 2, 23, 24, 25, 26, 27, 28, 29, 30, 31, 32, 33, 34, 35, 36] (by decide +kernel) (by decide +kernel)
set_option maxRecDepth 20000 in
theorem gX1_measure_X1_longestLineEnd : GoodIn wsX1_measure (wsV RX1 44 RX1 yX1_longestLineEnd wsX1_longestLineEnd) := goodIn_app (goodIn_of _ (by decide +kernel)) ggX1_measure_X1_longestLineEnd
theorem dX1_measure_0 : decode cX1_measure 0 = .ok (.iconst 0, 1) := by decide +kernel
theorem dX1_measure_1 : decode cX1_measure 1 = .ok (.istore_n 1, 1) := by decide +kernel
theorem dX1_measure_2 : decode cX1_measure 2 = .ok (.iload_n 1, 1) := by decide +kernel
theorem dX1_measure_3 : decode cX1_measure 3 = .ok (.aload_n 0, 1) := by decide +kernel
theorem dX1_measure_4 : decode cX1_measure 4 = .ok (.getfield 23, 3) := by decide +kernel
theorem dX1_measure_7 : decode cX1_measure 7 = .ok (.getfield 27, 3) := by decide +kernel
theorem dX1_measure_10 : decode cX1_measure 10 = .ok (.if_icmp .ge 39, 3) := by decide +kernel
theorem dX1_measure_13 : decode cX1_measure 13 = .ok (.aload_n 0, 1) := by decide +kernel
theorem dX1_measure_14 : decode cX1_measure 14 = .ok (.getfield 14, 3) := by decide +kernel
theorem dX1_measure_17 : decode cX1_measure 17 = .ok (.iload_n 1, 1) := by decide +kernel
theorem dX1_measure_18 : decode cX1_measure 18 = .ok (.iconst 1, 1) := by decide +kernel
theorem dX1_measure_19 : decode cX1_measure 19 = .ok (.iadd, 1) := by decide +kernel
theorem dX1_measure_20 : decode cX1_measure 20 = .ok (.aload_n 0, 1) := by decide +kernel
theorem dX1_measure_21 : decode cX1_measure 21 = .ok (.getfield 14, 3) := by decide +kernel
theorem dX1_measure_24 : decode cX1_measure 24 = .ok (.iload_n 1, 1) := by decide +kernel
theorem dX1_measure_25 : decode cX1_measure 25 = .ok (.invokevirtual 33, 3) := by decide +kernel
theorem dX1_measure_28 : decode cX1_measure 28 = .ok (.aload_n 0, 1) := by decide +kernel
theorem dX1_measure_29 : decode cX1_measure 29 = .ok (.getfield 23, 3) := by decide +kernel
theorem dX1_measure_32 : decode cX1_measure 32 = .ok (.getfield 37, 3) := by decide +kernel
theorem dX1_measure_35 : decode cX1_measure 35 = .ok (.iload_n 1, 1) := by decide +kernel
theorem dX1_measure_36 : decode cX1_measure 36 = .ok (.invokevirtual 33, 3) := by decide +kernel
theorem dX1_measure_39 : decode cX1_measure 39 = .ok (.iadd, 1) := by decide +kernel
theorem dX1_measure_40 : decode cX1_measure 40 = .ok (.invokevirtual 40, 3) := by decide +kernel
theorem dX1_measure_43 : decode cX1_measure 43 = .ok (.iinc 1 1, 3) := by decide +kernel
theorem dX1_measure_46 : decode cX1_measure 46 = .ok (.goto (-44), 3) := by decide +kernel
theorem dX1_measure_49 : decode cX1_measure 49 = .ok (.iconst 0, 1) := by decide +kernel
theorem dX1_measure_50 : decode cX1_measure 50 = .ok (.istore_n 1, 1) := by decide +kernel
theorem dX1_measure_51 : decode cX1_measure 51 = .ok (.iload_n 1, 1) := by decide +kernel
theorem dX1_measure_52 : decode cX1_measure 52 = .ok (.aload_n 0, 1) := by decide +kernel
theorem dX1_measure_53 : decode cX1_measure 53 = .ok (.getfield 23, 3) := by decide +kernel
theorem dX1_measure_56 : decode cX1_measure 56 = .ok (.getfield 27, 3) := by decide +kernel
theorem dX1_measure_59 : decode cX1_measure 59 = .ok (.if_icmp .ge 22, 3) := by decide +kernel
theorem dX1_measure_62 : decode cX1_measure 62 = .ok (.aload_n 0, 1) := by decide +kernel
theorem dX1_measure_63 : decode cX1_measure 63 = .ok (.getfield 20, 3) := by decide +kernel
theorem dX1_measure_66 : decode cX1_measure 66 = .ok (.iload_n 1, 1) := by decide +kernel
theorem dX1_measure_67 : decode cX1_measure 67 = .ok (.aload_n 0, 1) := by decide +kernel
theorem dX1_measure_68 : decode cX1_measure 68 = .ok (.iload_n 1, 1) := by decide +kernel
theorem dX1_measure_69 : decode cX1_measure 69 = .ok (.invokevirtual 44, 3) := by decide +kernel
theorem dX1_measure_72 : decode cX1_measure 72 = .ok (.invokevirtual 40, 3) := by decide +kernel
theorem dX1_measure_75 : decode cX1_measure 75 = .ok (.iinc 1 1, 3) := by decide +kernel
theorem dX1_measure_78 : decode cX1_measure 78 = .ok (.goto (-27), 3) := by decide +kernel
theorem dX1_measure_81 : decode cX1_measure 81 = .ok (.return_, 1) := by decide +kernel
set_option maxRecDepth 20000 in
theorem ggX1_longestLineEnd_X6_at : GoodIn wsX1_longestLineEnd wsX6_at := goodIn_r _ [6, 7, 27] (by decide +kernel) (by decide +kernel)
set_option maxRecDepth 20000 in
theorem gX1_longestLineEnd_X6_at : GoodIn wsX1_longestLineEnd (wsV RX1 33 RX6 yX6_at wsX6_at) := goodIn_app (goodIn_of _ (by decide +kernel)) ggX1_longestLineEnd_X6_at
set_option maxRecDepth 20000 in
theorem ggX1_longestLineEnd_X1_widthBetween : GoodIn wsX1_longestLineEnd wsX1_widthBetween := goodIn_r _ [12, 13, 1, 2, 3, 4, 5, 6, 7, 14, 15, 16, 17, 18, 19, 20, 21, 22, 23, 24, 25, 26, 27] (by decide +kernel) (by decide +kernel)
set_option maxRecDepth 20000 in
theorem gX1_longestLineEnd_X1_widthBetween : GoodIn wsX1_longestLineEnd (wsV RX1 50 RX1 yX1_widthBetween wsX1_widthBetween) := goodIn_app (goodIn_of _ (by decide +kernel)) ggX1_longestLineEnd_X1_widthBetween
theorem dX1_longestLineEnd_0 : decode cX1_longestLineEnd 0 = .ok (.iload_n 1, 1) := by decide +kernel
theorem dX1_longestLineEnd_1 : decode cX1_longestLineEnd 1 = .ok (.iconst 1, 1) := by decide +kernel
theorem dX1_longestLineEnd_2 : decode cX1_longestLineEnd 2 = .ok (.iadd, 1) := by decide +kernel
theorem dX1_longestLineEnd_3 : decode cX1_longestLineEnd 3 = .ok (.istore_n 2, 1) := by decide +kernel
theorem dX1_longestLineEnd_4 : decode cX1_longestLineEnd 4 = .ok (.iload_n 2, 1) := by decide +kernel
theorem dX1_longestLineEnd_5 : decode cX1_longestLineEnd 5 = .ok (.aload_n 0, 1) := by decide +kernel
theorem dX1_longestLineEnd_6 : decode cX1_longestLineEnd 6 = .ok (.getfield 23, 3) := by decide +kernel
theorem dX1_longestLineEnd_9 : decode cX1_longestLineEnd 9 = .ok (.getfield 27, 3) := by decide +kernel
theorem dX1_longestLineEnd_12 : decode cX1_longestLineEnd 12 = .ok (.if_icmp .ge 43, 3) := by decide +kernel
theorem dX1_longestLineEnd_15 : decode cX1_longestLineEnd 15 = .ok (.aload_n 0, 1) := by decide +kernel
theorem dX1_longestLineEnd_16 : decode cX1_longestLineEnd 16 = .ok (.getfield 23, 3) := by decide +kernel
theorem dX1_longestLineEnd_19 : decode cX1_longestLineEnd 19 = .ok (.getfield 47, 3) := by decide +kernel
theorem dX1_longestLineEnd_22 : decode cX1_longestLineEnd 22 = .ok (.iload_n 2, 1) := by decide +kernel
theorem dX1_longestLineEnd_23 : decode cX1_longestLineEnd 23 = .ok (.iconst 1, 1) := by decide +kernel
theorem dX1_longestLineEnd_24 : decode cX1_longestLineEnd 24 = .ok (.isub, 1) := by decide +kernel
theorem dX1_longestLineEnd_25 : decode cX1_longestLineEnd 25 = .ok (.invokevirtual 33, 3) := by decide +kernel
theorem dX1_longestLineEnd_28 : decode cX1_longestLineEnd 28 = .ok (.ifCond .ne 27, 3) := by decide +kernel
theorem dX1_longestLineEnd_31 : decode cX1_longestLineEnd 31 = .ok (.aload_n 0, 1) := by decide +kernel
theorem dX1_longestLineEnd_32 : decode cX1_longestLineEnd 32 = .ok (.iload_n 1, 1) := by decide +kernel
theorem dX1_longestLineEnd_33 : decode cX1_longestLineEnd 33 = .ok (.iload_n 2, 1) := by decide +kernel
theorem dX1_longestLineEnd_34 : decode cX1_longestLineEnd 34 = .ok (.iconst 1, 1) := by decide +kernel
theorem dX1_longestLineEnd_35 : decode cX1_longestLineEnd 35 = .ok (.iadd, 1) := by decide +kernel
theorem dX1_longestLineEnd_36 : decode cX1_longestLineEnd 36 = .ok (.invokevirtual 50, 3) := by decide +kernel
theorem dX1_longestLineEnd_39 : decode cX1_longestLineEnd 39 = .ok (.aload_n 0, 1) := by decide +kernel
theorem dX1_longestLineEnd_40 : decode cX1_longestLineEnd 40 = .ok (.getfield 23, 3) := by decide +kernel
theorem dX1_longestLineEnd_43 : decode cX1_longestLineEnd 43 = .ok (.getfield 54, 3) := by decide +kernel
theorem dX1_longestLineEnd_46 : decode cX1_longestLineEnd 46 = .ok (.if_icmp .gt 9, 3) := by decide +kernel
theorem dX1_longestLineEnd_49 : decode cX1_longestLineEnd 49 = .ok (.iinc 2 1, 3) := by decide +kernel
theorem dX1_longestLineEnd_52 : decode cX1_longestLineEnd 52 = .ok (.goto (-48), 3) := by decide +kernel
theorem dX1_longestLineEnd_55 : decode cX1_longestLineEnd 55 = .ok (.iload_n 2, 1) := by decide +kernel
theorem dX1_longestLineEnd_56 : decode cX1_longestLineEnd 56 = .ok (.ireturn, 1) := by decide +kernel
set_option maxRecDepth 20000 in
theorem ggX1_widthBetween_X6_at : GoodIn wsX1_widthBetween wsX6_at := goodIn_r _ [7, 8, 22] (by decide +kernel) (by decide +kernel)
set_option maxRecDepth 20000 in
theorem gX1_widthBetween_X6_at : GoodIn wsX1_widthBetween (wsV RX1 33 RX6 yX6_at wsX6_at) := goodIn_app (goodIn_of _ (by decide +kernel)) ggX1_widthBetween_X6_at
theorem dX1_widthBetween_0 : decode cX1_widthBetween 0 = .ok (.aload_n 0, 1) := by decide +kernel
theorem dX1_widthBetween_1 : decode cX1_widthBetween 1 = .ok (.getfield 14, 3) := by decide +kernel
theorem dX1_widthBetween_4 : decode cX1_widthBetween 4 = .ok (.iload_n 2, 1) := by decide +kernel
theorem dX1_widthBetween_5 : decode cX1_widthBetween 5 = .ok (.invokevirtual 33, 3) := by decide +kernel
theorem dX1_widthBetween_8 : decode cX1_widthBetween 8 = .ok (.aload_n 0, 1) := by decide +kernel
theorem dX1_widthBetween_9 : decode cX1_widthBetween 9 = .ok (.getfield 14, 3) := by decide +kernel
theorem dX1_widthBetween_12 : decode cX1_widthBetween 12 = .ok (.iload_n 1, 1) := by decide +kernel
theorem dX1_widthBetween_13 : decode cX1_widthBetween 13 = .ok (.invokevirtual 33, 3) := by decide +kernel
theorem dX1_widthBetween_16 : decode cX1_widthBetween 16 = .ok (.isub, 1) := by decide +kernel
theorem dX1_widthBetween_17 : decode cX1_widthBetween 17 = .ok (.aload_n 0, 1) := by decide +kernel
theorem dX1_widthBetween_18 : decode cX1_widthBetween 18 = .ok (.getfield 23, 3) := by decide +kernel
theorem dX1_widthBetween_21 : decode cX1_widthBetween 21 = .ok (.getfield 57, 3) := by decide +kernel
theorem dX1_widthBetween_24 : decode cX1_widthBetween 24 = .ok (.iload_n 2, 1) := by decide +kernel
theorem dX1_widthBetween_25 : decode cX1_widthBetween 25 = .ok (.iload_n 1, 1) := by decide +kernel
theorem dX1_widthBetween_26 : decode cX1_widthBetween 26 = .ok (.isub, 1) := by decide +kernel
theorem dX1_widthBetween_27 : decode cX1_widthBetween 27 = .ok (.iconst 1, 1) := by decide +kernel
theorem dX1_widthBetween_28 : decode cX1_widthBetween 28 = .ok (.isub, 1) := by decide +kernel
theorem dX1_widthBetween_29 : decode cX1_widthBetween 29 = .ok (.imul, 1) := by decide +kernel
theorem dX1_widthBetween_30 : decode cX1_widthBetween 30 = .ok (.iadd, 1) := by decide +kernel
theorem dX1_widthBetween_31 : decode cX1_widthBetween 31 = .ok (.ireturn, 1) := by decide +kernel
set_option maxRecDepth 20000 in
theorem ggX2_init_X7_init : GoodIn wsX2_init wsX7_init := goodIn_r _ [10, 11, 2, 3, 12, 13, 14, 15, 16, 17, 18, 19, 20, 21, 22, 23, 24, 25, 26, 27, 28, 29, 30, 31, 32, 33, 34, 47, 37, 38, 39, 40, 41, 42, 43, 44, 45, 46] (by decide +kernel) (by decide +kernel)
set_option maxRecDepth 20000 in
theorem gX2_init_X7_init_n21 : GoodIn wsX2_init (wsX7_init) := ggX2_init_X7_init
theorem dX2_init_0 : decode cX2_init 0 = .ok (.aload_n 0, 1) := by decide +kernel
theorem dX2_init_1 : decode cX2_init 1 = .ok (.invokespecial 3, 3) := by decide +kernel
theorem dX2_init_4 : decode cX2_init 4 = .ok (.aload_n 0, 1) := by decide +kernel
theorem dX2_init_5 : decode cX2_init 5 = .ok (.bipush 6, 2) := by decide +kernel
theorem dX2_init_7 : decode cX2_init 7 = .ok (.anewarray 9, 3) := by decide +kernel
theorem dX2_init_10 : decode cX2_init 10 = .ok (.putfield 11, 3) := by decide +kernel
theorem dX2_init_13 : decode cX2_init 13 = .ok (.aload_n 0, 1) := by decide +kernel
theorem dX2_init_14 : decode cX2_init 14 = .ok (.iconst 0, 1) := by decide +kernel
theorem dX2_init_15 : decode cX2_init 15 = .ok (.putfield 17, 3) := by decide +kernel
theorem dX2_init_18 : decode cX2_init 18 = .ok (.iconst 0, 1) := by decide +kernel
theorem dX2_init_19 : decode cX2_init 19 = .ok (.istore_n 1, 1) := by decide +kernel
theorem dX2_init_20 : decode cX2_init 20 = .ok (.iload_n 1, 1) := by decide +kernel
theorem dX2_init_21 : decode cX2_init 21 = .ok (.aload_n 0, 1) := by decide +kernel
theorem dX2_init_22 : decode cX2_init 22 = .ok (.getfield 11, 3) := by decide +kernel
theorem dX2_init_25 : decode cX2_init 25 = .ok (.arraylength, 1) := by decide +kernel
theorem dX2_init_26 : decode cX2_init 26 = .ok (.if_icmp .ge 22, 3) := by decide +kernel
theorem dX2_init_29 : decode cX2_init 29 = .ok (.aload_n 0, 1) := by decide +kernel
theorem dX2_init_30 : decode cX2_init 30 = .ok (.getfield 11, 3) := by decide +kernel
theorem dX2_init_33 : decode cX2_init 33 = .ok (.iload_n 1, 1) := by decide +kernel
theorem dX2_init_34 : decode cX2_init 34 = .ok (.new 9, 3) := by decide +kernel
theorem dX2_init_37 : decode cX2_init 37 = .ok (.dup, 1) := by decide +kernel
theorem dX2_init_38 : decode cX2_init 38 = .ok (.invokespecial 21, 3) := by decide +kernel
theorem dX2_init_41 : decode cX2_init 41 = .ok (.aastore, 1) := by decide +kernel
theorem dX2_init_42 : decode cX2_init 42 = .ok (.iinc 1 1, 3) := by decide +kernel
theorem dX2_init_45 : decode cX2_init 45 = .ok (.goto (-25), 3) := by decide +kernel
theorem dX2_init_48 : decode cX2_init 48 = .ok (.return_, 1) := by decide +kernel
set_option maxRecDepth 20000 in
theorem ggX2_save_X2_dropOldest : GoodIn wsX2_save wsX2_dropOldest := goodIn_r _ [7, 2, 1, 8, 9, 10, 6, 11, 37, 38] (by decide +kernel) (by decide +kernel)
set_option maxRecDepth 20000 in
theorem gX2_save_X2_dropOldest : GoodIn wsX2_save (wsV RX2 22 RX2 yX2_dropOldest wsX2_dropOldest) := goodIn_app (goodIn_of _ (by decide +kernel)) ggX2_save_X2_dropOldest
set_option maxRecDepth 20000 in
theorem ggX2_save_X2_stateAt : GoodIn wsX2_save wsX2_stateAt := goodIn_r _ [11, 2, 37, 38] (by decide +kernel) (by decide +kernel)
set_option maxRecDepth 20000 in
theorem gX2_save_X2_stateAt : GoodIn wsX2_save (wsV RX2 25 RX2 yX2_stateAt wsX2_stateAt) := goodIn_app (goodIn_of _ (by decide +kernel)) ggX2_save_X2_stateAt
set_option maxRecDepth 20000 in
theorem ggX2_save_X7_copyFrom : GoodIn wsX2_save wsX7_copyFrom := goodIn_r _ [16, 17, 18, 19, 20, 21, 22, 23, 24, 25, 26, 27, 28, 29, 30, 31, 32, 33, 34, 35, 36, 39, 40, 41, 42, 43, 44, 45, 46, 47, 48, 49] (by decide +kernel) (by decide +kernel)
set_option maxRecDepth 20000 in
theorem gX2_save_X7_copyFrom : GoodIn wsX2_save (wsV RX2 29 RX7 yX7_copyFrom wsX7_copyFrom) := goodIn_app (goodIn_of _ (by decide +kernel)) ggX2_save_X7_copyFrom
theorem dX2_save_0 : decode cX2_save 0 = .ok (.aload_n 0, 1) := by decide +kernel
theorem dX2_save_1 : decode cX2_save 1 = .ok (.getfield 17, 3) := by decide +kernel
theorem dX2_save_4 : decode cX2_save 4 = .ok (.aload_n 0, 1) := by decide +kernel
theorem dX2_save_5 : decode cX2_save 5 = .ok (.getfield 11, 3) := by decide +kernel
theorem dX2_save_8 : decode cX2_save 8 = .ok (.arraylength, 1) := by decide +kernel
theorem dX2_save_9 : decode cX2_save 9 = .ok (.if_icmp .lt 7, 3) := by decide +kernel
theorem dX2_save_12 : decode cX2_save 12 = .ok (.aload_n 0, 1) := by decide +kernel
theorem dX2_save_13 : decode cX2_save 13 = .ok (.invokevirtual 22, 3) := by decide +kernel
theorem dX2_save_16 : decode cX2_save 16 = .ok (.aload_n 0, 1) := by decide +kernel
theorem dX2_save_17 : decode cX2_save 17 = .ok (.aload_n 0, 1) := by decide +kernel
theorem dX2_save_18 : decode cX2_save 18 = .ok (.getfield 17, 3) := by decide +kernel
theorem dX2_save_21 : decode cX2_save 21 = .ok (.invokevirtual 25, 3) := by decide +kernel
theorem dX2_save_24 : decode cX2_save 24 = .ok (.astore_n 2, 1) := by decide +kernel
theorem dX2_save_25 : decode cX2_save 25 = .ok (.aload_n 2, 1) := by decide +kernel
theorem dX2_save_26 : decode cX2_save 26 = .ok (.ifnull 18, 3) := by decide +kernel
theorem dX2_save_29 : decode cX2_save 29 = .ok (.aload_n 2, 1) := by decide +kernel
theorem dX2_save_30 : decode cX2_save 30 = .ok (.aload_n 1, 1) := by decide +kernel
theorem dX2_save_31 : decode cX2_save 31 = .ok (.invokevirtual 29, 3) := by decide +kernel
theorem dX2_save_34 : decode cX2_save 34 = .ok (.aload_n 0, 1) := by decide +kernel
theorem dX2_save_35 : decode cX2_save 35 = .ok (.dup, 1) := by decide +kernel
theorem dX2_save_36 : decode cX2_save 36 = .ok (.getfield 17, 3) := by decide +kernel
theorem dX2_save_39 : decode cX2_save 39 = .ok (.iconst 1, 1) := by decide +kernel
theorem dX2_save_40 : decode cX2_save 40 = .ok (.iadd, 1) := by decide +kernel
theorem dX2_save_41 : decode cX2_save 41 = .ok (.putfield 17, 3) := by decide +kernel
theorem dX2_save_44 : decode cX2_save 44 = .ok (.return_, 1) := by decide +kernel
set_option maxRecDepth 20000 in
theorem ggX2_restore_X2_stateAt : GoodIn wsX2_restore wsX2_stateAt := goodIn_r _ [6, 7, 33, 34] (by decide +kernel) (by decide +kernel)
set_option maxRecDepth 20000 in
theorem gX2_restore_X2_stateAt : GoodIn wsX2_restore (wsV RX2 25 RX2 yX2_stateAt wsX2_stateAt) := goodIn_app (goodIn_of _ (by decide +kernel)) ggX2_restore_X2_stateAt
set_option maxRecDepth 20000 in
theorem ggX2_restore_X7_copyFrom : GoodIn wsX2_restore wsX7_copyFrom := goodIn_r _ [12, 13, 14, 15, 16, 17, 18, 19, 20, 21, 22, 23, 24, 25, 26, 27, 28, 29, 30, 31, 32, 35, 36, 37, 38, 39, 40, 41, 42, 43, 44, 45] (by decide +kernel) (by decide +kernel)
set_option maxRecDepth 20000 in
theorem gX2_restore_X7_copyFrom : GoodIn wsX2_restore (wsV RX2 29 RX7 yX7_copyFrom wsX7_copyFrom) := goodIn_app (goodIn_of _ (by decide +kernel)) ggX2_restore_X7_copyFrom
theorem dX2_restore_0 : decode cX2_restore 0 = .ok (.aload_n 0, 1) := by decide +kernel
theorem dX2_restore_1 : decode cX2_restore 1 = .ok (.aload_n 0, 1) := by decide +kernel
theorem dX2_restore_2 : decode cX2_restore 2 = .ok (.getfield 17, 3) := by decide +kernel
theorem dX2_restore_5 : decode cX2_restore 5 = .ok (.iconst 1, 1) := by decide +kernel
theorem dX2_restore_6 : decode cX2_restore 6 = .ok (.isub, 1) := by decide +kernel
theorem dX2_restore_7 : decode cX2_restore 7 = .ok (.invokevirtual 25, 3) := by decide +kernel
theorem dX2_restore_10 : decode cX2_restore 10 = .ok (.astore_n 2, 1) := by decide +kernel
theorem dX2_restore_11 : decode cX2_restore 11 = .ok (.aload_n 2, 1) := by decide +kernel
theorem dX2_restore_12 : decode cX2_restore 12 = .ok (.ifnull 18, 3) := by decide +kernel
theorem dX2_restore_15 : decode cX2_restore 15 = .ok (.aload_n 1, 1) := by decide +kernel
theorem dX2_restore_16 : decode cX2_restore 16 = .ok (.aload_n 2, 1) := by decide +kernel
theorem dX2_restore_17 : decode cX2_restore 17 = .ok (.invokevirtual 29, 3) := by decide +kernel
theorem dX2_restore_20 : decode cX2_restore 20 = .ok (.aload_n 0, 1) := by decide +kernel
theorem dX2_restore_21 : decode cX2_restore 21 = .ok (.dup, 1) := by decide +kernel
theorem dX2_restore_22 : decode cX2_restore 22 = .ok (.getfield 17, 3) := by decide +kernel
theorem dX2_restore_25 : decode cX2_restore 25 = .ok (.iconst 1, 1) := by decide +kernel
theorem dX2_restore_26 : decode cX2_restore 26 = .ok (.isub, 1) := by decide +kernel
theorem dX2_restore_27 : decode cX2_restore 27 = .ok (.putfield 17, 3) := by decide +kernel
theorem dX2_restore_30 : decode cX2_restore 30 = .ok (.return_, 1) := by decide +kernel
theorem dX2_stateAt_0 : decode cX2_stateAt 0 = .ok (.iload_n 1, 1) := by decide +kernel
theorem dX2_stateAt_1 : decode cX2_stateAt 1 = .ok (.ifCond .lt 21, 3) := by decide +kernel
theorem dX2_stateAt_4 : decode cX2_stateAt 4 = .ok (.iload_n 1, 1) := by decide +kernel
theorem dX2_stateAt_5 : decode cX2_stateAt 5 = .ok (.aload_n 0, 1) := by decide +kernel
theorem dX2_stateAt_6 : decode cX2_stateAt 6 = .ok (.getfield 11, 3) := by decide +kernel
theorem dX2_stateAt_9 : decode cX2_stateAt 9 = .ok (.arraylength, 1) := by decide +kernel
theorem dX2_stateAt_10 : decode cX2_stateAt 10 = .ok (.if_icmp .ge 12, 3) := by decide +kernel
theorem dX2_stateAt_13 : decode cX2_stateAt 13 = .ok (.aload_n 0, 1) := by decide +kernel
theorem dX2_stateAt_14 : decode cX2_stateAt 14 = .ok (.getfield 11, 3) := by decide +kernel
theorem dX2_stateAt_17 : decode cX2_stateAt 17 = .ok (.iload_n 1, 1) := by decide +kernel
theorem dX2_stateAt_18 : decode cX2_stateAt 18 = .ok (.aaload, 1) := by decide +kernel
theorem dX2_stateAt_19 : decode cX2_stateAt 19 = .ok (.goto 4, 3) := by decide +kernel
theorem dX2_stateAt_22 : decode cX2_stateAt 22 = .ok (.aconst_null, 1) := by decide +kernel
theorem dX2_stateAt_23 : decode cX2_stateAt 23 = .ok (.areturn, 1) := by decide +kernel
set_option maxRecDepth 20000 in
theorem ggX2_dropOldest_X2_stateAt : GoodIn wsX2_dropOldest wsX2_stateAt := goodIn_r _ [7, 1, 8, 9] (by decide +kernel) (by decide +kernel)
set_option maxRecDepth 20000 in
theorem gX2_dropOldest_X2_stateAt : GoodIn wsX2_dropOldest (wsV RX2 25 RX2 yX2_stateAt wsX2_stateAt) := goodIn_app (goodIn_of _ (by decide +kernel)) ggX2_dropOldest_X2_stateAt
theorem dX2_dropOldest_0 : decode cX2_dropOldest 0 = .ok (.aload_n 0, 1) := by decide +kernel
theorem dX2_dropOldest_1 : decode cX2_dropOldest 1 = .ok (.iconst 0, 1) := by decide +kernel
theorem dX2_dropOldest_2 : decode cX2_dropOldest 2 = .ok (.invokevirtual 25, 3) := by decide +kernel
theorem dX2_dropOldest_5 : decode cX2_dropOldest 5 = .ok (.astore_n 1, 1) := by decide +kernel
theorem dX2_dropOldest_6 : decode cX2_dropOldest 6 = .ok (.iconst 1, 1) := by decide +kernel
theorem dX2_dropOldest_7 : decode cX2_dropOldest 7 = .ok (.istore_n 2, 1) := by decide +kernel
theorem dX2_dropOldest_8 : decode cX2_dropOldest 8 = .ok (.iload_n 2, 1) := by decide +kernel
theorem dX2_dropOldest_9 : decode cX2_dropOldest 9 = .ok (.aload_n 0, 1) := by decide +kernel
theorem dX2_dropOldest_10 : decode cX2_dropOldest 10 = .ok (.getfield 11, 3) := by decide +kernel
theorem dX2_dropOldest_13 : decode cX2_dropOldest 13 = .ok (.arraylength, 1) := by decide +kernel
theorem dX2_dropOldest_14 : decode cX2_dropOldest 14 = .ok (.if_icmp .ge 23, 3) := by decide +kernel
theorem dX2_dropOldest_17 : decode cX2_dropOldest 17 = .ok (.aload_n 0, 1) := by decide +kernel
theorem dX2_dropOldest_18 : decode cX2_dropOldest 18 = .ok (.getfield 11, 3) := by decide +kernel
theorem dX2_dropOldest_21 : decode cX2_dropOldest 21 = .ok (.iload_n 2, 1) := by decide +kernel
theorem dX2_dropOldest_22 : decode cX2_dropOldest 22 = .ok (.iconst 1, 1) := by decide +kernel
theorem dX2_dropOldest_23 : decode cX2_dropOldest 23 = .ok (.isub, 1) := by decide +kernel
theorem dX2_dropOldest_24 : decode cX2_dropOldest 24 = .ok (.aload_n 0, 1) := by decide +kernel
theorem dX2_dropOldest_25 : decode cX2_dropOldest 25 = .ok (.getfield 11, 3) := by decide +kernel
theorem dX2_dropOldest_28 : decode cX2_dropOldest 28 = .ok (.iload_n 2, 1) := by decide +kernel
theorem dX2_dropOldest_29 : decode cX2_dropOldest 29 = .ok (.aaload, 1) := by decide +kernel
theorem dX2_dropOldest_30 : decode cX2_dropOldest 30 = .ok (.aastore, 1) := by decide +kernel
theorem dX2_dropOldest_31 : decode cX2_dropOldest 31 = .ok (.iinc 2 1, 3) := by decide +kernel
theorem dX2_dropOldest_34 : decode cX2_dropOldest 34 = .ok (.goto (-26), 3) := by decide +kernel
theorem dX2_dropOldest_37 : decode cX2_dropOldest 37 = .ok (.aload_n 0, 1) := by decide +kernel
theorem dX2_dropOldest_38 : decode cX2_dropOldest 38 = .ok (.getfield 11, 3) := by decide +kernel
theorem dX2_dropOldest_41 : decode cX2_dropOldest 41 = .ok (.arraylength, 1) := by decide +kernel
theorem dX2_dropOldest_42 : decode cX2_dropOldest 42 = .ok (.ifCond .le 27, 3) := by decide +kernel
theorem dX2_dropOldest_45 : decode cX2_dropOldest 45 = .ok (.aload_n 0, 1) := by decide +kernel
theorem dX2_dropOldest_46 : decode cX2_dropOldest 46 = .ok (.getfield 11, 3) := by decide +kernel
theorem dX2_dropOldest_49 : decode cX2_dropOldest 49 = .ok (.aload_n 0, 1) := by decide +kernel
theorem dX2_dropOldest_50 : decode cX2_dropOldest 50 = .ok (.getfield 11, 3) := by decide +kernel
theorem dX2_dropOldest_53 : decode cX2_dropOldest 53 = .ok (.arraylength, 1) := by decide +kernel
theorem dX2_dropOldest_54 : decode cX2_dropOldest 54 = .ok (.iconst 1, 1) := by decide +kernel
theorem dX2_dropOldest_55 : decode cX2_dropOldest 55 = .ok (.isub, 1) := by decide +kernel
theorem dX2_dropOldest_56 : decode cX2_dropOldest 56 = .ok (.aload_n 1, 1) := by decide +kernel
theorem dX2_dropOldest_57 : decode cX2_dropOldest 57 = .ok (.aastore, 1) := by decide +kernel
theorem dX2_dropOldest_58 : decode cX2_dropOldest 58 = .ok (.aload_n 0, 1) := by decide +kernel
theorem dX2_dropOldest_59 : decode cX2_dropOldest 59 = .ok (.aload_n 0, 1) := by decide +kernel
theorem dX2_dropOldest_60 : decode cX2_dropOldest 60 = .ok (.getfield 11, 3) := by decide +kernel
theorem dX2_dropOldest_63 : decode cX2_dropOldest 63 = .ok (.arraylength, 1) := by decide +kernel
theorem dX2_dropOldest_64 : decode cX2_dropOldest 64 = .ok (.iconst 1, 1) := by decide +kernel
theorem dX2_dropOldest_65 : decode cX2_dropOldest 65 = .ok (.isub, 1) := by decide +kernel
theorem dX2_dropOldest_66 : decode cX2_dropOldest 66 = .ok (.putfield 17, 3) := by decide +kernel
theorem dX2_dropOldest_69 : decode cX2_dropOldest 69 = .ok (.return_, 1) := by decide +kernel
set_option maxRecDepth 20000 in
theorem ggX3_init_X6_init : GoodIn wsX3_init wsX6_init := goodIn_r _ [21, 22, 2, 3, 23, 24, 25, 26, 27, 28, 49] (by decide +kernel) (by decide +kernel)
set_option maxRecDepth 20000 in
theorem gX3_init_X6_init : GoodIn wsX3_init (wsX6_init) := ggX3_init_X6_init
set_option maxRecDepth 20000 in
theorem ggX3_init_X1_init : GoodIn wsX3_init wsX1_init := goodIn_r _ [31, 32, 2, 3, 33, 5, 6, 34, 35, 36, 37, 20, 21, 22, 23, 24, 25, 26, 27, 28, 49, 56, 57, 58] (by decide +kernel) (by decide +kernel)
set_option maxRecDepth 20000 in
theorem gX3_init_X1_init : GoodIn wsX3_init (wsX1_init) := ggX3_init_X1_init
set_option maxRecDepth 20000 in
theorem ggX3_init_X4_init : GoodIn wsX3_init wsX4_init := goodIn_r _ [40, 41, 2, 3, 42, 5, 6, 43, 44, 45, 46, 47, 48, 20, 21, 22, 23, 24, 25, 26, 27, 28, 49, 59, 60, 61, 62, 63] (by decide +kernel) (by decide +kernel)
set_option maxRecDepth 20000 in
theorem gX3_init_X4_init : GoodIn wsX3_init (wsX4_init) := ggX3_init_X4_init
theorem dX3_init_0 : decode cX3_init 0 = .ok (.aload_n 0, 1) := by decide +kernel
theorem dX3_init_1 : decode cX3_init 1 = .ok (.invokespecial 3, 3) := by decide +kernel
theorem dX3_init_4 : decode cX3_init 4 = .ok (.aload_n 0, 1) := by decide +kernel
theorem dX3_init_5 : decode cX3_init 5 = .ok (.new 9, 3) := by decide +kernel
theorem dX3_init_8 : decode cX3_init 8 = .ok (.dup, 1) := by decide +kernel
theorem dX3_init_9 : decode cX3_init 9 = .ok (.bipush 41, 2) := by decide +kernel
theorem dX3_init_11 : decode cX3_init 11 = .ok (.invokespecial 11, 3) := by decide +kernel
theorem dX3_init_14 : decode cX3_init 14 = .ok (.putfield 14, 3) := by decide +kernel
theorem dX3_init_17 : decode cX3_init 17 = .ok (.aload_n 0, 1) := by decide +kernel
theorem dX3_init_18 : decode cX3_init 18 = .ok (.new 9, 3) := by decide +kernel
theorem dX3_init_21 : decode cX3_init 21 = .ok (.dup, 1) := by decide +kernel
theorem dX3_init_22 : decode cX3_init 22 = .ok (.bipush 40, 2) := by decide +kernel
theorem dX3_init_24 : decode cX3_init 24 = .ok (.invokespecial 11, 3) := by decide +kernel
theorem dX3_init_27 : decode cX3_init 27 = .ok (.putfield 20, 3) := by decide +kernel
theorem dX3_init_30 : decode cX3_init 30 = .ok (.aload_n 0, 1) := by decide +kernel
theorem dX3_init_31 : decode cX3_init 31 = .ok (.iconst 0, 1) := by decide +kernel
theorem dX3_init_32 : decode cX3_init 32 = .ok (.putfield 23, 3) := by decide +kernel
theorem dX3_init_35 : decode cX3_init 35 = .ok (.aload_n 0, 1) := by decide +kernel
theorem dX3_init_36 : decode cX3_init 36 = .ok (.aload_n 1, 1) := by decide +kernel
theorem dX3_init_37 : decode cX3_init 37 = .ok (.putfield 27, 3) := by decide +kernel
theorem dX3_init_40 : decode cX3_init 40 = .ok (.aload_n 0, 1) := by decide +kernel
theorem dX3_init_41 : decode cX3_init 41 = .ok (.new 31, 3) := by decide +kernel
theorem dX3_init_44 : decode cX3_init 44 = .ok (.dup, 1) := by decide +kernel
theorem dX3_init_45 : decode cX3_init 45 = .ok (.aload_n 1, 1) := by decide +kernel
theorem dX3_init_46 : decode cX3_init 46 = .ok (.invokespecial 33, 3) := by decide +kernel
theorem dX3_init_49 : decode cX3_init 49 = .ok (.putfield 36, 3) := by decide +kernel
theorem dX3_init_52 : decode cX3_init 52 = .ok (.aload_n 0, 1) := by decide +kernel
theorem dX3_init_53 : decode cX3_init 53 = .ok (.new 40, 3) := by decide +kernel
theorem dX3_init_56 : decode cX3_init 56 = .ok (.dup, 1) := by decide +kernel
theorem dX3_init_57 : decode cX3_init 57 = .ok (.aload_n 1, 1) := by decide +kernel
theorem dX3_init_58 : decode cX3_init 58 = .ok (.aload_n 0, 1) := by decide +kernel
theorem dX3_init_59 : decode cX3_init 59 = .ok (.getfield 36, 3) := by decide +kernel
theorem dX3_init_62 : decode cX3_init 62 = .ok (.invokespecial 42, 3) := by decide +kernel
theorem dX3_init_65 : decode cX3_init 65 = .ok (.putfield 45, 3) := by decide +kernel
theorem dX3_init_68 : decode cX3_init 68 = .ok (.return_, 1) := by decide +kernel
set_option maxRecDepth 20000 in
theorem ggX3_arrange_X1_measure : GoodIn wsX3_arrange wsX1_measure := goodIn_r _ [8, 9, 10, 11, 12, 13, 14, 15, 16, 17, 18, 19, 20, 21, 22, 23, 24, 7, 25, 26, 27, 28, 29, 113, 114, 115, 98, 99, 100, 101, 102, 103, 104, 105, 106, 107, 116] (by decide +kernel) (by decide +kernel)
set_option maxRecDepth 20000 in
theorem gX3_arrange_X1_measure : GoodIn wsX3_arrange (wsV RX3 49 RX1 yX1_measure wsX1_measure) := goodIn_app (goodIn_of _ (by decide +kernel)) ggX3_arrange_X1_measure
set_option maxRecDepth 20000 in
theorem ggX3_arrange_X7_endsParagraph : GoodIn wsX3_arrange wsX7_endsParagraph := goodIn_r _ [34, 35, 36, 37, 13, 14, 15, 16, 17, 98, 99, 100, 101, 102, 103, 104, 105, 106, 107, 116] (by decide +kernel) (by decide +kernel)
set_option maxRecDepth 20000 in
theorem gX3_arrange_X7_endsParagraph : GoodIn wsX3_arrange (wsV RX3 55 RX7 yX7_endsParagraph wsX7_endsParagraph) := goodIn_app (goodIn_of _ (by decide +kernel)) ggX3_arrange_X7_endsParagraph
set_option maxRecDepth 20000 in
theorem ggX3_arrange_X4_solve : GoodIn wsX3_arrange wsX4_solve := goodIn_r _ [42, 43, 44, 13, 14, 15, 16, 17, 45, 46, 47, 41, 48, 49, 50, 51, 52, 53, 54, 55, 19, 20, 21, 56, 27, 28, 7, 29, 10, 9, 12, 57, 58, 59, 33, 60, 61, 62, 63, 64, 65, 66, 67, 68, 69, 70, 71, 72, 73, 74, 75, 76, 77, 78, 79, 80, 81, 108, 109, 110, 111, 112, 113, 114, 115, 116, 98, 99, 100, 101, 102, 103, 104, 105, 106, 107] (by decide +kernel) (by decide +kernel)
set_option maxRecDepth 20000 in
theorem gX3_arrange_X4_solve : GoodIn wsX3_arrange (wsV RX3 59 RX4 yX4_solve wsX4_solve) := goodIn_app (goodIn_of _ (by decide +kernel)) ggX3_arrange_X4_solve
set_option maxRecDepth 20000 in
theorem ggX3_arrange_X3_takeLines : GoodIn wsX3_arrange wsX3_takeLines := goodIn_r _ [86, 87, 2, 88, 89, 90, 19, 20, 15, 21, 17, 91, 13, 14, 16, 92, 93, 94, 95, 96, 97, 98, 99, 100, 101, 102, 103, 104, 105, 106, 107, 116] (by decide +kernel) (by decide +kernel)
set_option maxRecDepth 20000 in
theorem gX3_arrange_X3_takeLines : GoodIn wsX3_arrange (wsV RX3 69 RX3 yX3_takeLines wsX3_takeLines) := goodIn_app (goodIn_of _ (by decide +kernel)) ggX3_arrange_X3_takeLines
theorem dX3_arrange_0 : decode cX3_arrange 0 = .ok (.aload_n 0, 1) := by decide +kernel
theorem dX3_arrange_1 : decode cX3_arrange 1 = .ok (.getfield 36, 3) := by decide +kernel
theorem dX3_arrange_4 : decode cX3_arrange 4 = .ok (.invokevirtual 49, 3) := by decide +kernel
theorem dX3_arrange_7 : decode cX3_arrange 7 = .ok (.iconst 0, 1) := by decide +kernel
theorem dX3_arrange_8 : decode cX3_arrange 8 = .ok (.istore_n 2, 1) := by decide +kernel
theorem dX3_arrange_9 : decode cX3_arrange 9 = .ok (.iconst 0, 1) := by decide +kernel
theorem dX3_arrange_10 : decode cX3_arrange 10 = .ok (.istore_n 3, 1) := by decide +kernel
theorem dX3_arrange_11 : decode cX3_arrange 11 = .ok (.iload_n 1, 1) := by decide +kernel
theorem dX3_arrange_12 : decode cX3_arrange 12 = .ok (.ifCond .eq 46, 3) := by decide +kernel
theorem dX3_arrange_15 : decode cX3_arrange 15 = .ok (.iload_n 3, 1) := by decide +kernel
theorem dX3_arrange_16 : decode cX3_arrange 16 = .ok (.aload_n 0, 1) := by decide +kernel
theorem dX3_arrange_17 : decode cX3_arrange 17 = .ok (.getfield 27, 3) := by decide +kernel
theorem dX3_arrange_20 : decode cX3_arrange 20 = .ok (.getfield 52, 3) := by decide +kernel
theorem dX3_arrange_23 : decode cX3_arrange 23 = .ok (.if_icmp .ge 35, 3) := by decide +kernel
theorem dX3_arrange_26 : decode cX3_arrange 26 = .ok (.aload_n 0, 1) := by decide +kernel
theorem dX3_arrange_27 : decode cX3_arrange 27 = .ok (.getfield 27, 3) := by decide +kernel
theorem dX3_arrange_30 : decode cX3_arrange 30 = .ok (.iload_n 3, 1) := by decide +kernel
theorem dX3_arrange_31 : decode cX3_arrange 31 = .ok (.invokevirtual 55, 3) := by decide +kernel
theorem dX3_arrange_34 : decode cX3_arrange 34 = .ok (.ifCond .eq 18, 3) := by decide +kernel
theorem dX3_arrange_37 : decode cX3_arrange 37 = .ok (.aload_n 0, 1) := by decide +kernel
theorem dX3_arrange_38 : decode cX3_arrange 38 = .ok (.getfield 45, 3) := by decide +kernel
theorem dX3_arrange_41 : decode cX3_arrange 41 = .ok (.iload_n 2, 1) := by decide +kernel
theorem dX3_arrange_42 : decode cX3_arrange 42 = .ok (.iload_n 3, 1) := by decide +kernel
theorem dX3_arrange_43 : decode cX3_arrange 43 = .ok (.iconst 1, 1) := by decide +kernel
theorem dX3_arrange_44 : decode cX3_arrange 44 = .ok (.iadd, 1) := by decide +kernel
theorem dX3_arrange_45 : decode cX3_arrange 45 = .ok (.invokevirtual 59, 3) := by decide +kernel
theorem dX3_arrange_48 : decode cX3_arrange 48 = .ok (.iload_n 3, 1) := by decide +kernel
theorem dX3_arrange_49 : decode cX3_arrange 49 = .ok (.iconst 1, 1) := by decide +kernel
theorem dX3_arrange_50 : decode cX3_arrange 50 = .ok (.iadd, 1) := by decide +kernel
theorem dX3_arrange_51 : decode cX3_arrange 51 = .ok (.istore_n 2, 1) := by decide +kernel
theorem dX3_arrange_52 : decode cX3_arrange 52 = .ok (.iinc 3 1, 3) := by decide +kernel
theorem dX3_arrange_55 : decode cX3_arrange 55 = .ok (.goto (-44), 3) := by decide +kernel
theorem dX3_arrange_58 : decode cX3_arrange 58 = .ok (.aload_n 0, 1) := by decide +kernel
theorem dX3_arrange_59 : decode cX3_arrange 59 = .ok (.iload_n 1, 1) := by decide +kernel
theorem dX3_arrange_60 : decode cX3_arrange 60 = .ok (.ifCond .eq 13, 3) := by decide +kernel
theorem dX3_arrange_63 : decode cX3_arrange 63 = .ok (.aload_n 0, 1) := by decide +kernel
theorem dX3_arrange_64 : decode cX3_arrange 64 = .ok (.getfield 45, 3) := by decide +kernel
theorem dX3_arrange_67 : decode cX3_arrange 67 = .ok (.getfield 63, 3) := by decide +kernel
theorem dX3_arrange_70 : decode cX3_arrange 70 = .ok (.goto 10, 3) := by decide +kernel
theorem dX3_arrange_73 : decode cX3_arrange 73 = .ok (.aload_n 0, 1) := by decide +kernel
theorem dX3_arrange_74 : decode cX3_arrange 74 = .ok (.getfield 36, 3) := by decide +kernel
theorem dX3_arrange_77 : decode cX3_arrange 77 = .ok (.getfield 66, 3) := by decide +kernel
theorem dX3_arrange_80 : decode cX3_arrange 80 = .ok (.invokevirtual 69, 3) := by decide +kernel
theorem dX3_arrange_83 : decode cX3_arrange 83 = .ok (.return_, 1) := by decide +kernel
set_option maxRecDepth 20000 in
theorem ggX3_takeLines_X6_put : GoodIn wsX3_takeLines wsX6_put := goodIn_r _ [9, 10, 31] (by decide +kernel) (by decide +kernel)
set_option maxRecDepth 20000 in
theorem gX3_takeLines_X6_put : GoodIn wsX3_takeLines (wsV RX3 73 RX6 yX6_put wsX6_put) := goodIn_app (goodIn_of _ (by decide +kernel)) ggX3_takeLines_X6_put
set_option maxRecDepth 20000 in
theorem ggX3_takeLines_X6_at : GoodIn wsX3_takeLines wsX6_at := goodIn_r _ [14, 10, 31] (by decide +kernel) (by decide +kernel)
set_option maxRecDepth 20000 in
theorem gX3_takeLines_X6_at : GoodIn wsX3_takeLines (wsV RX3 76 RX6 yX6_at wsX6_at) := goodIn_app (goodIn_of _ (by decide +kernel)) ggX3_takeLines_X6_at
theorem dX3_takeLines_0 : decode cX3_takeLines 0 = .ok (.aload_n 0, 1) := by decide +kernel
theorem dX3_takeLines_1 : decode cX3_takeLines 1 = .ok (.iconst 0, 1) := by decide +kernel
theorem dX3_takeLines_2 : decode cX3_takeLines 2 = .ok (.putfield 23, 3) := by decide +kernel
theorem dX3_takeLines_5 : decode cX3_takeLines 5 = .ok (.iconst 0, 1) := by decide +kernel
theorem dX3_takeLines_6 : decode cX3_takeLines 6 = .ok (.istore_n 2, 1) := by decide +kernel
theorem dX3_takeLines_7 : decode cX3_takeLines 7 = .ok (.iconst 0, 1) := by decide +kernel
theorem dX3_takeLines_8 : decode cX3_takeLines 8 = .ok (.istore_n 3, 1) := by decide +kernel
theorem dX3_takeLines_9 : decode cX3_takeLines 9 = .ok (.iload_n 3, 1) := by decide +kernel
theorem dX3_takeLines_10 : decode cX3_takeLines 10 = .ok (.aload_n 0, 1) := by decide +kernel
theorem dX3_takeLines_11 : decode cX3_takeLines 11 = .ok (.getfield 27, 3) := by decide +kernel
theorem dX3_takeLines_14 : decode cX3_takeLines 14 = .ok (.getfield 52, 3) := by decide +kernel
theorem dX3_takeLines_17 : decode cX3_takeLines 17 = .ok (.if_icmp .ge 56, 3) := by decide +kernel
theorem dX3_takeLines_20 : decode cX3_takeLines 20 = .ok (.iload_n 3, 1) := by decide +kernel
theorem dX3_takeLines_21 : decode cX3_takeLines 21 = .ok (.iload_n 2, 1) := by decide +kernel
theorem dX3_takeLines_22 : decode cX3_takeLines 22 = .ok (.if_icmp .ne 31, 3) := by decide +kernel
theorem dX3_takeLines_25 : decode cX3_takeLines 25 = .ok (.aload_n 0, 1) := by decide +kernel
theorem dX3_takeLines_26 : decode cX3_takeLines 26 = .ok (.getfield 14, 3) := by decide +kernel
theorem dX3_takeLines_29 : decode cX3_takeLines 29 = .ok (.aload_n 0, 1) := by decide +kernel
theorem dX3_takeLines_30 : decode cX3_takeLines 30 = .ok (.getfield 23, 3) := by decide +kernel
theorem dX3_takeLines_33 : decode cX3_takeLines 33 = .ok (.iload_n 3, 1) := by decide +kernel
theorem dX3_takeLines_34 : decode cX3_takeLines 34 = .ok (.invokevirtual 73, 3) := by decide +kernel
theorem dX3_takeLines_37 : decode cX3_takeLines 37 = .ok (.aload_n 0, 1) := by decide +kernel
theorem dX3_takeLines_38 : decode cX3_takeLines 38 = .ok (.dup, 1) := by decide +kernel
theorem dX3_takeLines_39 : decode cX3_takeLines 39 = .ok (.getfield 23, 3) := by decide +kernel
theorem dX3_takeLines_42 : decode cX3_takeLines 42 = .ok (.iconst 1, 1) := by decide +kernel
theorem dX3_takeLines_43 : decode cX3_takeLines 43 = .ok (.iadd, 1) := by decide +kernel
theorem dX3_takeLines_44 : decode cX3_takeLines 44 = .ok (.putfield 23, 3) := by decide +kernel
theorem dX3_takeLines_47 : decode cX3_takeLines 47 = .ok (.aload_n 1, 1) := by decide +kernel
theorem dX3_takeLines_48 : decode cX3_takeLines 48 = .ok (.iload_n 3, 1) := by decide +kernel
theorem dX3_takeLines_49 : decode cX3_takeLines 49 = .ok (.invokevirtual 76, 3) := by decide +kernel
theorem dX3_takeLines_52 : decode cX3_takeLines 52 = .ok (.istore_n 2, 1) := by decide +kernel
theorem dX3_takeLines_53 : decode cX3_takeLines 53 = .ok (.aload_n 0, 1) := by decide +kernel
theorem dX3_takeLines_54 : decode cX3_takeLines 54 = .ok (.getfield 20, 3) := by decide +kernel
theorem dX3_takeLines_57 : decode cX3_takeLines 57 = .ok (.iload_n 3, 1) := by decide +kernel
theorem dX3_takeLines_58 : decode cX3_takeLines 58 = .ok (.aload_n 0, 1) := by decide +kernel
theorem dX3_takeLines_59 : decode cX3_takeLines 59 = .ok (.getfield 23, 3) := by decide +kernel
theorem dX3_takeLines_62 : decode cX3_takeLines 62 = .ok (.iconst 1, 1) := by decide +kernel
theorem dX3_takeLines_63 : decode cX3_takeLines 63 = .ok (.isub, 1) := by decide +kernel
theorem dX3_takeLines_64 : decode cX3_takeLines 64 = .ok (.invokevirtual 73, 3) := by decide +kernel
theorem dX3_takeLines_67 : decode cX3_takeLines 67 = .ok (.iinc 3 1, 3) := by decide +kernel
theorem dX3_takeLines_70 : decode cX3_takeLines 70 = .ok (.goto (-61), 3) := by decide +kernel
theorem dX3_takeLines_73 : decode cX3_takeLines 73 = .ok (.aload_n 0, 1) := by decide +kernel
theorem dX3_takeLines_74 : decode cX3_takeLines 74 = .ok (.getfield 14, 3) := by decide +kernel
theorem dX3_takeLines_77 : decode cX3_takeLines 77 = .ok (.aload_n 0, 1) := by decide +kernel
theorem dX3_takeLines_78 : decode cX3_takeLines 78 = .ok (.getfield 23, 3) := by decide +kernel
theorem dX3_takeLines_81 : decode cX3_takeLines 81 = .ok (.aload_n 0, 1) := by decide +kernel
theorem dX3_takeLines_82 : decode cX3_takeLines 82 = .ok (.getfield 27, 3) := by decide +kernel
theorem dX3_takeLines_85 : decode cX3_takeLines 85 = .ok (.getfield 52, 3) := by decide +kernel
theorem dX3_takeLines_88 : decode cX3_takeLines 88 = .ok (.invokevirtual 73, 3) := by decide +kernel
theorem dX3_takeLines_91 : decode cX3_takeLines 91 = .ok (.return_, 1) := by decide +kernel
set_option maxRecDepth 20000 in
theorem ggX3_widthOfLine_X6_at : GoodIn wsX3_widthOfLine wsX6_at := goodIn_r _ [7, 8, 23] (by decide +kernel) (by decide +kernel)
set_option maxRecDepth 20000 in
theorem gX3_widthOfLine_X6_at : GoodIn wsX3_widthOfLine (wsV RX3 76 RX6 yX6_at wsX6_at) := goodIn_app (goodIn_of _ (by decide +kernel)) ggX3_widthOfLine_X6_at
set_option maxRecDepth 20000 in
theorem ggX3_widthOfLine_X1_widthBetween : GoodIn wsX3_widthOfLine wsX1_widthBetween := goodIn_r _ [13, 14, 15, 16, 4, 5, 6, 7, 8, 24, 25, 26, 27, 28, 29, 30, 31, 32, 33, 34, 35, 36, 23] (by decide +kernel) (by decide +kernel)
set_option maxRecDepth 20000 in
theorem gX3_widthOfLine_X1_widthBetween : GoodIn wsX3_widthOfLine (wsV RX3 80 RX1 yX1_widthBetween wsX1_widthBetween) := goodIn_app (goodIn_of _ (by decide +kernel)) ggX3_widthOfLine_X1_widthBetween
theorem dX3_widthOfLine_0 : decode cX3_widthOfLine 0 = .ok (.aload_n 0, 1) := by decide +kernel
theorem dX3_widthOfLine_1 : decode cX3_widthOfLine 1 = .ok (.getfield 36, 3) := by decide +kernel
theorem dX3_widthOfLine_4 : decode cX3_widthOfLine 4 = .ok (.aload_n 0, 1) := by decide +kernel
theorem dX3_widthOfLine_5 : decode cX3_widthOfLine 5 = .ok (.getfield 14, 3) := by decide +kernel
theorem dX3_widthOfLine_8 : decode cX3_widthOfLine 8 = .ok (.iload_n 1, 1) := by decide +kernel
theorem dX3_widthOfLine_9 : decode cX3_widthOfLine 9 = .ok (.invokevirtual 76, 3) := by decide +kernel
theorem dX3_widthOfLine_12 : decode cX3_widthOfLine 12 = .ok (.aload_n 0, 1) := by decide +kernel
theorem dX3_widthOfLine_13 : decode cX3_widthOfLine 13 = .ok (.getfield 14, 3) := by decide +kernel
theorem dX3_widthOfLine_16 : decode cX3_widthOfLine 16 = .ok (.iload_n 1, 1) := by decide +kernel
theorem dX3_widthOfLine_17 : decode cX3_widthOfLine 17 = .ok (.iconst 1, 1) := by decide +kernel
theorem dX3_widthOfLine_18 : decode cX3_widthOfLine 18 = .ok (.iadd, 1) := by decide +kernel
theorem dX3_widthOfLine_19 : decode cX3_widthOfLine 19 = .ok (.invokevirtual 76, 3) := by decide +kernel
theorem dX3_widthOfLine_22 : decode cX3_widthOfLine 22 = .ok (.invokevirtual 80, 3) := by decide +kernel
theorem dX3_widthOfLine_25 : decode cX3_widthOfLine 25 = .ok (.ireturn, 1) := by decide +kernel
set_option maxRecDepth 20000 in
theorem ggX3_isFirstOfParagraph_X6_at : GoodIn wsX3_isFirstOfParagraph wsX6_at := goodIn_r _ [7, 8, 23] (by decide +kernel) (by decide +kernel)
set_option maxRecDepth 20000 in
theorem gX3_isFirstOfParagraph_X6_at : GoodIn wsX3_isFirstOfParagraph (wsV RX3 76 RX6 yX6_at wsX6_at) := goodIn_app (goodIn_of _ (by decide +kernel)) ggX3_isFirstOfParagraph_X6_at
set_option maxRecDepth 20000 in
theorem ggX3_isFirstOfParagraph_X7_endsParagraph : GoodIn wsX3_isFirstOfParagraph wsX7_endsParagraph := goodIn_r _ [13, 14, 15, 16, 4, 5, 6, 7, 8, 24, 25, 26, 27, 28, 29, 30, 31, 32, 33, 23] (by decide +kernel) (by decide +kernel)
set_option maxRecDepth 20000 in
theorem gX3_isFirstOfParagraph_X7_endsParagraph : GoodIn wsX3_isFirstOfParagraph (wsV RX3 55 RX7 yX7_endsParagraph wsX7_endsParagraph) := goodIn_app (goodIn_of _ (by decide +kernel)) ggX3_isFirstOfParagraph_X7_endsParagraph
theorem dX3_isFirstOfParagraph_0 : decode cX3_isFirstOfParagraph 0 = .ok (.aload_n 0, 1) := by decide +kernel
theorem dX3_isFirstOfParagraph_1 : decode cX3_isFirstOfParagraph 1 = .ok (.getfield 14, 3) := by decide +kernel
theorem dX3_isFirstOfParagraph_4 : decode cX3_isFirstOfParagraph 4 = .ok (.iload_n 1, 1) := by decide +kernel
theorem dX3_isFirstOfParagraph_5 : decode cX3_isFirstOfParagraph 5 = .ok (.invokevirtual 76, 3) := by decide +kernel
theorem dX3_isFirstOfParagraph_8 : decode cX3_isFirstOfParagraph 8 = .ok (.istore_n 2, 1) := by decide +kernel
theorem dX3_isFirstOfParagraph_9 : decode cX3_isFirstOfParagraph 9 = .ok (.iload_n 2, 1) := by decide +kernel
theorem dX3_isFirstOfParagraph_10 : decode cX3_isFirstOfParagraph 10 = .ok (.ifCond .eq 16, 3) := by decide +kernel
theorem dX3_isFirstOfParagraph_13 : decode cX3_isFirstOfParagraph 13 = .ok (.aload_n 0, 1) := by decide +kernel
theorem dX3_isFirstOfParagraph_14 : decode cX3_isFirstOfParagraph 14 = .ok (.getfield 27, 3) := by decide +kernel
theorem dX3_isFirstOfParagraph_17 : decode cX3_isFirstOfParagraph 17 = .ok (.iload_n 2, 1) := by decide +kernel
theorem dX3_isFirstOfParagraph_18 : decode cX3_isFirstOfParagraph 18 = .ok (.iconst 1, 1) := by decide +kernel
theorem dX3_isFirstOfParagraph_19 : decode cX3_isFirstOfParagraph 19 = .ok (.isub, 1) := by decide +kernel
theorem dX3_isFirstOfParagraph_20 : decode cX3_isFirstOfParagraph 20 = .ok (.invokevirtual 55, 3) := by decide +kernel
theorem dX3_isFirstOfParagraph_23 : decode cX3_isFirstOfParagraph 23 = .ok (.ifCond .eq 7, 3) := by decide +kernel
theorem dX3_isFirstOfParagraph_26 : decode cX3_isFirstOfParagraph 26 = .ok (.iconst 1, 1) := by decide +kernel
theorem dX3_isFirstOfParagraph_27 : decode cX3_isFirstOfParagraph 27 = .ok (.goto 4, 3) := by decide +kernel
theorem dX3_isFirstOfParagraph_30 : decode cX3_isFirstOfParagraph 30 = .ok (.iconst 0, 1) := by decide +kernel
theorem dX3_isFirstOfParagraph_31 : decode cX3_isFirstOfParagraph 31 = .ok (.ireturn, 1) := by decide +kernel
set_option maxRecDepth 20000 in
theorem ggX3_isLastOfParagraph_X6_at : GoodIn wsX3_isLastOfParagraph wsX6_at := goodIn_r _ [7, 8, 23] (by decide +kernel) (by decide +kernel)
set_option maxRecDepth 20000 in
theorem gX3_isLastOfParagraph_X6_at : GoodIn wsX3_isLastOfParagraph (wsV RX3 76 RX6 yX6_at wsX6_at) := goodIn_app (goodIn_of _ (by decide +kernel)) ggX3_isLastOfParagraph_X6_at
set_option maxRecDepth 20000 in
theorem ggX3_isLastOfParagraph_X7_endsParagraph : GoodIn wsX3_isLastOfParagraph wsX7_endsParagraph := goodIn_r _ [13, 14, 15, 16, 4, 5, 6, 7, 8, 24, 25, 26, 27, 28, 29, 30, 31, 32, 33, 23] (by decide +kernel) (by decide +kernel)
set_option maxRecDepth 20000 in
theorem gX3_isLastOfParagraph_X7_endsParagraph : GoodIn wsX3_isLastOfParagraph (wsV RX3 55 RX7 yX7_endsParagraph wsX7_endsParagraph) := goodIn_app (goodIn_of _ (by decide +kernel)) ggX3_isLastOfParagraph_X7_endsParagraph
theorem dX3_isLastOfParagraph_0 : decode cX3_isLastOfParagraph 0 = .ok (.aload_n 0, 1) := by decide +kernel
theorem dX3_isLastOfParagraph_1 : decode cX3_isLastOfParagraph 1 = .ok (.getfield 27, 3) := by decide +kernel
theorem dX3_isLastOfParagraph_4 : decode cX3_isLastOfParagraph 4 = .ok (.aload_n 0, 1) := by decide +kernel
theorem dX3_isLastOfParagraph_5 : decode cX3_isLastOfParagraph 5 = .ok (.getfield 14, 3) := by decide +kernel
theorem dX3_isLastOfParagraph_8 : decode cX3_isLastOfParagraph 8 = .ok (.iload_n 1, 1) := by decide +kernel
theorem dX3_isLastOfParagraph_9 : decode cX3_isLastOfParagraph 9 = .ok (.iconst 1, 1) := by decide +kernel
theorem dX3_isLastOfParagraph_10 : decode cX3_isLastOfParagraph 10 = .ok (.iadd, 1) := by decide +kernel
theorem dX3_isLastOfParagraph_11 : decode cX3_isLastOfParagraph 11 = .ok (.invokevirtual 76, 3) := by decide +kernel
theorem dX3_isLastOfParagraph_14 : decode cX3_isLastOfParagraph 14 = .ok (.iconst 1, 1) := by decide +kernel
theorem dX3_isLastOfParagraph_15 : decode cX3_isLastOfParagraph 15 = .ok (.isub, 1) := by decide +kernel
theorem dX3_isLastOfParagraph_16 : decode cX3_isLastOfParagraph 16 = .ok (.invokevirtual 55, 3) := by decide +kernel
theorem dX3_isLastOfParagraph_19 : decode cX3_isLastOfParagraph 19 = .ok (.ireturn, 1) := by decide +kernel
set_option maxRecDepth 20000 in
theorem ggX3_opensParagraph_X3_isFirstOfParagraph : GoodIn wsX3_opensParagraph wsX3_isFirstOfParagraph := goodIn_r _ [5, 6, 7, 8, 9, 10, 11, 12, 13, 14, 15, 16, 17, 18, 19, 20, 21, 26, 27, 28, 29, 30, 31, 32, 33, 34, 35, 36, 37, 38, 39, 40, 41, 42] (by decide +kernel) (by decide +kernel)
set_option maxRecDepth 20000 in
theorem gX3_opensParagraph_X3_isFirstOfParagraph : GoodIn wsX3_opensParagraph (wsV RX3 84 RX3 yX3_isFirstOfParagraph wsX3_isFirstOfParagraph) := goodIn_app (goodIn_of _ (by decide +kernel)) ggX3_opensParagraph_X3_isFirstOfParagraph
set_option maxRecDepth 20000 in
theorem ggX3_opensParagraph_X3_isLastOfParagraph : GoodIn wsX3_opensParagraph wsX3_isLastOfParagraph := goodIn_r _ [25, 7, 6, 8, 9, 10, 11, 12, 13, 14, 15, 16, 17, 18, 19, 20, 21, 26, 27, 28, 29, 30, 31, 32, 33, 34, 35, 36, 37, 38, 39, 40, 41, 42] (by decide +kernel) (by decide +kernel)
set_option maxRecDepth 20000 in
theorem gX3_opensParagraph_X3_isLastOfParagraph : GoodIn wsX3_opensParagraph (wsV RX3 87 RX3 yX3_isLastOfParagraph wsX3_isLastOfParagraph) := goodIn_app (goodIn_of _ (by decide +kernel)) ggX3_opensParagraph_X3_isLastOfParagraph
theorem dX3_opensParagraph_0 : decode cX3_opensParagraph 0 = .ok (.aload_n 0, 1) := by decide +kernel
theorem dX3_opensParagraph_1 : decode cX3_opensParagraph 1 = .ok (.iload_n 1, 1) := by decide +kernel
theorem dX3_opensParagraph_2 : decode cX3_opensParagraph 2 = .ok (.invokevirtual 84, 3) := by decide +kernel
theorem dX3_opensParagraph_5 : decode cX3_opensParagraph 5 = .ok (.ifCond .eq 15, 3) := by decide +kernel
theorem dX3_opensParagraph_8 : decode cX3_opensParagraph 8 = .ok (.aload_n 0, 1) := by decide +kernel
theorem dX3_opensParagraph_9 : decode cX3_opensParagraph 9 = .ok (.iload_n 1, 1) := by decide +kernel
theorem dX3_opensParagraph_10 : decode cX3_opensParagraph 10 = .ok (.invokevirtual 87, 3) := by decide +kernel
theorem dX3_opensParagraph_13 : decode cX3_opensParagraph 13 = .ok (.ifCond .ne 7, 3) := by decide +kernel
theorem dX3_opensParagraph_16 : decode cX3_opensParagraph 16 = .ok (.iconst 1, 1) := by decide +kernel
theorem dX3_opensParagraph_17 : decode cX3_opensParagraph 17 = .ok (.goto 4, 3) := by decide +kernel
theorem dX3_opensParagraph_20 : decode cX3_opensParagraph 20 = .ok (.iconst 0, 1) := by decide +kernel
theorem dX3_opensParagraph_21 : decode cX3_opensParagraph 21 = .ok (.ireturn, 1) := by decide +kernel
set_option maxRecDepth 20000 in
theorem ggX3_closesParagraph_X3_isLastOfParagraph : GoodIn wsX3_closesParagraph wsX3_isLastOfParagraph := goodIn_r _ [5, 6, 7, 8, 9, 10, 11, 12, 13, 14, 15, 16, 17, 18, 19, 20, 21, 26, 27, 28, 29, 30, 31, 32, 33, 34, 35, 36, 37, 38, 39, 40, 41, 42] (by decide +kernel) (by decide +kernel)
set_option maxRecDepth 20000 in
theorem gX3_closesParagraph_X3_isLastOfParagraph : GoodIn wsX3_closesParagraph (wsV RX3 87 RX3 yX3_isLastOfParagraph wsX3_isLastOfParagraph) := goodIn_app (goodIn_of _ (by decide +kernel)) ggX3_closesParagraph_X3_isLastOfParagraph
set_option maxRecDepth 20000 in
theorem ggX3_closesParagraph_X3_isFirstOfParagraph : GoodIn wsX3_closesParagraph wsX3_isFirstOfParagraph := goodIn_r _ [25, 7, 6, 8, 9, 10, 11, 12, 13, 14, 15, 16, 17, 18, 19, 20, 21, 26, 27, 28, 29, 30, 31, 32, 33, 34, 35, 36, 37, 38, 39, 40, 41, 42] (by decide +kernel) (by decide +kernel)
set_option maxRecDepth 20000 in
theorem gX3_closesParagraph_X3_isFirstOfParagraph : GoodIn wsX3_closesParagraph (wsV RX3 84 RX3 yX3_isFirstOfParagraph wsX3_isFirstOfParagraph) := goodIn_app (goodIn_of _ (by decide +kernel)) ggX3_closesParagraph_X3_isFirstOfParagraph
theorem dX3_closesParagraph_0 : decode cX3_closesParagraph 0 = .ok (.aload_n 0, 1) := by decide +kernel
theorem dX3_closesParagraph_1 : decode cX3_closesParagraph 1 = .ok (.iload_n 1, 1) := by decide +kernel
theorem dX3_closesParagraph_2 : decode cX3_closesParagraph 2 = .ok (.invokevirtual 87, 3) := by decide +kernel
theorem dX3_closesParagraph_5 : decode cX3_closesParagraph 5 = .ok (.ifCond .eq 15, 3) := by decide +kernel
theorem dX3_closesParagraph_8 : decode cX3_closesParagraph 8 = .ok (.aload_n 0, 1) := by decide +kernel
theorem dX3_closesParagraph_9 : decode cX3_closesParagraph 9 = .ok (.iload_n 1, 1) := by decide +kernel
theorem dX3_closesParagraph_10 : decode cX3_closesParagraph 10 = .ok (.invokevirtual 84, 3) := by decide +kernel
theorem dX3_closesParagraph_13 : decode cX3_closesParagraph 13 = .ok (.ifCond .ne 7, 3) := by decide +kernel
theorem dX3_closesParagraph_16 : decode cX3_closesParagraph 16 = .ok (.iconst 1, 1) := by decide +kernel
theorem dX3_closesParagraph_17 : decode cX3_closesParagraph 17 = .ok (.goto 4, 3) := by decide +kernel
theorem dX3_closesParagraph_20 : decode cX3_closesParagraph 20 = .ok (.iconst 0, 1) := by decide +kernel
theorem dX3_closesParagraph_21 : decode cX3_closesParagraph 21 = .ok (.ireturn, 1) := by decide +kernel
set_option maxRecDepth 20000 in
theorem ggX3_stairAround_X3_isFirstOfParagraph : GoodIn wsX3_stairAround wsX3_isFirstOfParagraph := goodIn_r _ [6, 7, 1, 8, 9, 10, 11, 12, 13, 14, 15, 16, 17, 18, 19, 20, 21, 44, 45, 46, 47, 48, 49, 50, 51, 52, 53, 54, 55, 56, 57, 58, 59, 60] (by decide +kernel) (by decide +kernel)
set_option maxRecDepth 20000 in
theorem gX3_stairAround_X3_isFirstOfParagraph : GoodIn wsX3_stairAround (wsV RX3 84 RX3 yX3_isFirstOfParagraph wsX3_isFirstOfParagraph) := goodIn_app (goodIn_of _ (by decide +kernel)) ggX3_stairAround_X3_isFirstOfParagraph
set_option maxRecDepth 20000 in
theorem ggX3_stairAround_X3_isLastOfParagraph : GoodIn wsX3_stairAround wsX3_isLastOfParagraph := goodIn_r _ [25, 1, 7, 8, 9, 10, 11, 12, 13, 14, 15, 16, 17, 18, 19, 20, 21, 44, 45, 46, 47, 48, 49, 50, 51, 52, 53, 54, 55, 56, 57, 58, 59, 60] (by decide +kernel) (by decide +kernel)
set_option maxRecDepth 20000 in
theorem gX3_stairAround_X3_isLastOfParagraph : GoodIn wsX3_stairAround (wsV RX3 87 RX3 yX3_isLastOfParagraph wsX3_isLastOfParagraph) := goodIn_app (goodIn_of _ (by decide +kernel)) ggX3_stairAround_X3_isLastOfParagraph
set_option maxRecDepth 20000 in
theorem ggX3_stairAround_X3_widthOfLine : GoodIn wsX3_stairAround wsX3_widthOfLine := goodIn_r _ [29, 30, 7, 8, 9, 10, 11, 12, 13, 31, 32, 33, 34, 35, 36, 37, 38, 44, 45, 46, 47, 48, 49, 50, 61, 62, 63, 51, 52, 53, 54, 55, 56, 57, 58, 59, 60] (by decide +kernel) (by decide +kernel)
set_option maxRecDepth 20000 in
theorem gX3_stairAround_X3_widthOfLine : GoodIn wsX3_stairAround (wsV RX3 90 RX3 yX3_widthOfLine wsX3_widthOfLine) := goodIn_app (goodIn_of _ (by decide +kernel)) ggX3_stairAround_X3_widthOfLine
set_option maxRecDepth 20000 in
theorem ggX3_stairAround_X7_turn : GoodIn wsX3_stairAround wsX7_turn := goodIn_r _ [42, 43, 51, 52, 53, 54, 55, 56, 57, 58, 59, 60] (by decide +kernel) (by decide +kernel)
set_option maxRecDepth 20000 in
theorem gX3_stairAround_X7_turn : GoodIn wsX3_stairAround (wsV RX3 93 RX7 yX7_turn wsX7_turn) := goodIn_app (goodIn_of _ (by decide +kernel)) ggX3_stairAround_X7_turn
theorem dX3_stairAround_0 : decode cX3_stairAround 0 = .ok (.aload_n 0, 1) := by decide +kernel
theorem dX3_stairAround_1 : decode cX3_stairAround 1 = .ok (.iload_n 1, 1) := by decide +kernel
theorem dX3_stairAround_2 : decode cX3_stairAround 2 = .ok (.invokevirtual 84, 3) := by decide +kernel
theorem dX3_stairAround_5 : decode cX3_stairAround 5 = .ok (.ifCond .ne 21, 3) := by decide +kernel
theorem dX3_stairAround_8 : decode cX3_stairAround 8 = .ok (.aload_n 0, 1) := by decide +kernel
theorem dX3_stairAround_9 : decode cX3_stairAround 9 = .ok (.iload_n 1, 1) := by decide +kernel
theorem dX3_stairAround_10 : decode cX3_stairAround 10 = .ok (.invokevirtual 87, 3) := by decide +kernel
theorem dX3_stairAround_13 : decode cX3_stairAround 13 = .ok (.ifCond .ne 13, 3) := by decide +kernel
theorem dX3_stairAround_16 : decode cX3_stairAround 16 = .ok (.aload_n 0, 1) := by decide +kernel
theorem dX3_stairAround_17 : decode cX3_stairAround 17 = .ok (.iload_n 1, 1) := by decide +kernel
theorem dX3_stairAround_18 : decode cX3_stairAround 18 = .ok (.iconst 1, 1) := by decide +kernel
theorem dX3_stairAround_19 : decode cX3_stairAround 19 = .ok (.iadd, 1) := by decide +kernel
theorem dX3_stairAround_20 : decode cX3_stairAround 20 = .ok (.invokevirtual 87, 3) := by decide +kernel
theorem dX3_stairAround_23 : decode cX3_stairAround 23 = .ok (.ifCond .eq 5, 3) := by decide +kernel
theorem dX3_stairAround_26 : decode cX3_stairAround 26 = .ok (.iconst 0, 1) := by decide +kernel
theorem dX3_stairAround_27 : decode cX3_stairAround 27 = .ok (.ireturn, 1) := by decide +kernel
theorem dX3_stairAround_28 : decode cX3_stairAround 28 = .ok (.aload_n 0, 1) := by decide +kernel
theorem dX3_stairAround_29 : decode cX3_stairAround 29 = .ok (.getfield 27, 3) := by decide +kernel
theorem dX3_stairAround_32 : decode cX3_stairAround 32 = .ok (.aload_n 0, 1) := by decide +kernel
theorem dX3_stairAround_33 : decode cX3_stairAround 33 = .ok (.iload_n 1, 1) := by decide +kernel
theorem dX3_stairAround_34 : decode cX3_stairAround 34 = .ok (.iconst 1, 1) := by decide +kernel
theorem dX3_stairAround_35 : decode cX3_stairAround 35 = .ok (.isub, 1) := by decide +kernel
theorem dX3_stairAround_36 : decode cX3_stairAround 36 = .ok (.invokevirtual 90, 3) := by decide +kernel
theorem dX3_stairAround_39 : decode cX3_stairAround 39 = .ok (.aload_n 0, 1) := by decide +kernel
theorem dX3_stairAround_40 : decode cX3_stairAround 40 = .ok (.iload_n 1, 1) := by decide +kernel
theorem dX3_stairAround_41 : decode cX3_stairAround 41 = .ok (.invokevirtual 90, 3) := by decide +kernel
theorem dX3_stairAround_44 : decode cX3_stairAround 44 = .ok (.invokevirtual 93, 3) := by decide +kernel
theorem dX3_stairAround_47 : decode cX3_stairAround 47 = .ok (.istore_n 2, 1) := by decide +kernel
theorem dX3_stairAround_48 : decode cX3_stairAround 48 = .ok (.iload_n 2, 1) := by decide +kernel
theorem dX3_stairAround_49 : decode cX3_stairAround 49 = .ok (.aload_n 0, 1) := by decide +kernel
theorem dX3_stairAround_50 : decode cX3_stairAround 50 = .ok (.getfield 27, 3) := by decide +kernel
theorem dX3_stairAround_53 : decode cX3_stairAround 53 = .ok (.aload_n 0, 1) := by decide +kernel
theorem dX3_stairAround_54 : decode cX3_stairAround 54 = .ok (.iload_n 1, 1) := by decide +kernel
theorem dX3_stairAround_55 : decode cX3_stairAround 55 = .ok (.invokevirtual 90, 3) := by decide +kernel
theorem dX3_stairAround_58 : decode cX3_stairAround 58 = .ok (.aload_n 0, 1) := by decide +kernel
theorem dX3_stairAround_59 : decode cX3_stairAround 59 = .ok (.iload_n 1, 1) := by decide +kernel
theorem dX3_stairAround_60 : decode cX3_stairAround 60 = .ok (.iconst 1, 1) := by decide +kernel
theorem dX3_stairAround_61 : decode cX3_stairAround 61 = .ok (.iadd, 1) := by decide +kernel
theorem dX3_stairAround_62 : decode cX3_stairAround 62 = .ok (.invokevirtual 90, 3) := by decide +kernel
theorem dX3_stairAround_65 : decode cX3_stairAround 65 = .ok (.invokevirtual 93, 3) := by decide +kernel
theorem dX3_stairAround_68 : decode cX3_stairAround 68 = .ok (.if_icmp .ne 7, 3) := by decide +kernel
theorem dX3_stairAround_71 : decode cX3_stairAround 71 = .ok (.iload_n 2, 1) := by decide +kernel
theorem dX3_stairAround_72 : decode cX3_stairAround 72 = .ok (.goto 4, 3) := by decide +kernel
theorem dX3_stairAround_75 : decode cX3_stairAround 75 = .ok (.iconst 0, 1) := by decide +kernel
theorem dX3_stairAround_76 : decode cX3_stairAround 76 = .ok (.ireturn, 1) := by decide +kernel
set_option maxRecDepth 20000 in
theorem ggX3_countStairs_X3_stairAround : GoodIn wsX3_countStairs wsX3_stairAround := goodIn_r _ [6, 7, 8, 9, 10, 5, 11, 12, 13, 14, 15, 16, 17, 18, 19, 20, 21, 22, 23, 24, 25, 26, 27, 28, 29, 30, 31, 32, 33, 34, 35, 36, 37, 38, 39, 40, 41, 42, 43, 44, 45, 46, 47, 48, 49, 50, 51, 52, 53, 54, 55, 56, 57, 58, 59, 60, 61, 62, 63, 64, 65, 66, 67, 68] (by decide +kernel) (by decide +kernel)
set_option maxRecDepth 20000 in
theorem gX3_countStairs_X3_stairAround : GoodIn wsX3_countStairs (wsV RX3 96 RX3 yX3_stairAround wsX3_stairAround) := goodIn_app (goodIn_of _ (by decide +kernel)) ggX3_countStairs_X3_stairAround
theorem dX3_countStairs_0 : decode cX3_countStairs 0 = .ok (.iconst 0, 1) := by decide +kernel
theorem dX3_countStairs_1 : decode cX3_countStairs 1 = .ok (.istore_n 1, 1) := by decide +kernel
theorem dX3_countStairs_2 : decode cX3_countStairs 2 = .ok (.iconst 0, 1) := by decide +kernel
theorem dX3_countStairs_3 : decode cX3_countStairs 3 = .ok (.istore_n 2, 1) := by decide +kernel
theorem dX3_countStairs_4 : decode cX3_countStairs 4 = .ok (.iload_n 2, 1) := by decide +kernel
theorem dX3_countStairs_5 : decode cX3_countStairs 5 = .ok (.aload_n 0, 1) := by decide +kernel
theorem dX3_countStairs_6 : decode cX3_countStairs 6 = .ok (.getfield 23, 3) := by decide +kernel
theorem dX3_countStairs_9 : decode cX3_countStairs 9 = .ok (.if_icmp .ge 20, 3) := by decide +kernel
theorem dX3_countStairs_12 : decode cX3_countStairs 12 = .ok (.aload_n 0, 1) := by decide +kernel
theorem dX3_countStairs_13 : decode cX3_countStairs 13 = .ok (.iload_n 2, 1) := by decide +kernel
theorem dX3_countStairs_14 : decode cX3_countStairs 14 = .ok (.invokevirtual 96, 3) := by decide +kernel
theorem dX3_countStairs_17 : decode cX3_countStairs 17 = .ok (.ifCond .eq 6, 3) := by decide +kernel
theorem dX3_countStairs_20 : decode cX3_countStairs 20 = .ok (.iinc 1 1, 3) := by decide +kernel
theorem dX3_countStairs_23 : decode cX3_countStairs 23 = .ok (.iinc 2 1, 3) := by decide +kernel
theorem dX3_countStairs_26 : decode cX3_countStairs 26 = .ok (.goto (-22), 3) := by decide +kernel
theorem dX3_countStairs_29 : decode cX3_countStairs 29 = .ok (.iload_n 1, 1) := by decide +kernel
theorem dX3_countStairs_30 : decode cX3_countStairs 30 = .ok (.ireturn, 1) := by decide +kernel
set_option maxRecDepth 20000 in
theorem ggX3_totalCost_X3_widthOfLine : GoodIn wsX3_totalCost wsX3_widthOfLine := goodIn_r _ [7, 8, 9, 10, 11, 12, 13, 14, 15, 16, 17, 18, 19, 20, 21, 22, 23, 59, 60, 61, 62, 63, 64, 75, 76, 77, 78, 65, 66, 67, 68, 69, 70, 71, 72, 73, 74] (by decide +kernel) (by decide +kernel)
set_option maxRecDepth 20000 in
theorem gX3_totalCost_X3_widthOfLine : GoodIn wsX3_totalCost (wsV RX3 90 RX3 yX3_widthOfLine wsX3_widthOfLine) := goodIn_app (goodIn_of _ (by decide +kernel)) ggX3_totalCost_X3_widthOfLine
set_option maxRecDepth 20000 in
theorem ggX3_totalCost_X3_isLastOfParagraph : GoodIn wsX3_totalCost wsX3_isLastOfParagraph := goodIn_r _ [27, 2, 9, 10, 11, 12, 13, 14, 15, 28, 29, 30, 31, 32, 33, 34, 35, 59, 60, 61, 62, 63, 64, 75, 65, 66, 67, 68, 69, 70, 71, 72, 73, 74] (by decide +kernel) (by decide +kernel)
set_option maxRecDepth 20000 in
theorem gX3_totalCost_X3_isLastOfParagraph : GoodIn wsX3_totalCost (wsV RX3 87 RX3 yX3_isLastOfParagraph wsX3_isLastOfParagraph) := goodIn_app (goodIn_of _ (by decide +kernel)) ggX3_totalCost_X3_isLastOfParagraph
set_option maxRecDepth 20000 in
theorem ggX3_totalCost_X3_isFirstOfParagraph : GoodIn wsX3_totalCost wsX3_isFirstOfParagraph := goodIn_r _ [39, 9, 2, 10, 11, 12, 13, 14, 15, 28, 29, 30, 31, 32, 33, 34, 35, 59, 60, 61, 62, 63, 64, 75, 65, 66, 67, 68, 69, 70, 71, 72, 73, 74] (by decide +kernel) (by decide +kernel)
set_option maxRecDepth 20000 in
theorem gX3_totalCost_X3_isFirstOfParagraph : GoodIn wsX3_totalCost (wsV RX3 84 RX3 yX3_isFirstOfParagraph wsX3_isFirstOfParagraph) := goodIn_app (goodIn_of _ (by decide +kernel)) ggX3_totalCost_X3_isFirstOfParagraph
set_option maxRecDepth 20000 in
theorem ggX3_totalCost_X7_lastLineCost : GoodIn wsX3_totalCost wsX7_lastLineCost := goodIn_r _ [43, 44, 45, 65, 66, 67, 68, 69, 70, 71, 72, 73, 74] (by decide +kernel) (by decide +kernel)
set_option maxRecDepth 20000 in
theorem gX3_totalCost_X7_lastLineCost : GoodIn wsX3_totalCost (wsV RX3 99 RX7 yX7_lastLineCost wsX7_lastLineCost) := goodIn_app (goodIn_of _ (by decide +kernel)) ggX3_totalCost_X7_lastLineCost
set_option maxRecDepth 20000 in
theorem ggX3_totalCost_X7_slackCost : GoodIn wsX3_totalCost wsX7_slackCost := goodIn_r _ [49, 44, 65, 66, 67, 68, 69, 70, 71, 72, 73, 74] (by decide +kernel) (by decide +kernel)
set_option maxRecDepth 20000 in
theorem gX3_totalCost_X7_slackCost : GoodIn wsX3_totalCost (wsV RX3 103 RX7 yX7_slackCost wsX7_slackCost) := goodIn_app (goodIn_of _ (by decide +kernel)) ggX3_totalCost_X7_slackCost
set_option maxRecDepth 20000 in
theorem ggX3_totalCost_X3_stairAround : GoodIn wsX3_totalCost wsX3_stairAround := goodIn_r _ [53, 2, 36, 37, 38, 6, 39, 9, 10, 11, 12, 13, 14, 15, 28, 29, 30, 31, 32, 33, 34, 35, 24, 25, 26, 27, 3, 4, 5, 7, 8, 16, 17, 18, 19, 20, 21, 22, 23, 54, 55, 56, 57, 58, 59, 60, 61, 62, 63, 64, 75, 65, 66, 67, 68, 69, 70, 71, 72, 73, 74, 76, 77, 78] (by decide +kernel) (by decide +kernel)
set_option maxRecDepth 20000 in
theorem gX3_totalCost_X3_stairAround : GoodIn wsX3_totalCost (wsV RX3 96 RX3 yX3_stairAround wsX3_stairAround) := goodIn_app (goodIn_of _ (by decide +kernel)) ggX3_totalCost_X3_stairAround
theorem dX3_totalCost_0 : decode cX3_totalCost 0 = .ok (.iconst 0, 1) := by decide +kernel
theorem dX3_totalCost_1 : decode cX3_totalCost 1 = .ok (.istore_n 1, 1) := by decide +kernel
theorem dX3_totalCost_2 : decode cX3_totalCost 2 = .ok (.iconst 0, 1) := by decide +kernel
theorem dX3_totalCost_3 : decode cX3_totalCost 3 = .ok (.istore_n 2, 1) := by decide +kernel
theorem dX3_totalCost_4 : decode cX3_totalCost 4 = .ok (.iload_n 2, 1) := by decide +kernel
theorem dX3_totalCost_5 : decode cX3_totalCost 5 = .ok (.aload_n 0, 1) := by decide +kernel
theorem dX3_totalCost_6 : decode cX3_totalCost 6 = .ok (.getfield 23, 3) := by decide +kernel
theorem dX3_totalCost_9 : decode cX3_totalCost 9 = .ok (.if_icmp .ge 72, 3) := by decide +kernel
theorem dX3_totalCost_12 : decode cX3_totalCost 12 = .ok (.aload_n 0, 1) := by decide +kernel
theorem dX3_totalCost_13 : decode cX3_totalCost 13 = .ok (.iload_n 2, 1) := by decide +kernel
theorem dX3_totalCost_14 : decode cX3_totalCost 14 = .ok (.invokevirtual 90, 3) := by decide +kernel
theorem dX3_totalCost_17 : decode cX3_totalCost 17 = .ok (.istore_n 3, 1) := by decide +kernel
theorem dX3_totalCost_18 : decode cX3_totalCost 18 = .ok (.iload_n 1, 1) := by decide +kernel
theorem dX3_totalCost_19 : decode cX3_totalCost 19 = .ok (.aload_n 0, 1) := by decide +kernel
theorem dX3_totalCost_20 : decode cX3_totalCost 20 = .ok (.iload_n 2, 1) := by decide +kernel
theorem dX3_totalCost_21 : decode cX3_totalCost 21 = .ok (.invokevirtual 87, 3) := by decide +kernel
theorem dX3_totalCost_24 : decode cX3_totalCost 24 = .ok (.ifCond .eq 19, 3) := by decide +kernel
theorem dX3_totalCost_27 : decode cX3_totalCost 27 = .ok (.aload_n 0, 1) := by decide +kernel
theorem dX3_totalCost_28 : decode cX3_totalCost 28 = .ok (.getfield 27, 3) := by decide +kernel
theorem dX3_totalCost_31 : decode cX3_totalCost 31 = .ok (.iload_n 3, 1) := by decide +kernel
theorem dX3_totalCost_32 : decode cX3_totalCost 32 = .ok (.aload_n 0, 1) := by decide +kernel
theorem dX3_totalCost_33 : decode cX3_totalCost 33 = .ok (.iload_n 2, 1) := by decide +kernel
theorem dX3_totalCost_34 : decode cX3_totalCost 34 = .ok (.invokevirtual 84, 3) := by decide +kernel
theorem dX3_totalCost_37 : decode cX3_totalCost 37 = .ok (.invokevirtual 99, 3) := by decide +kernel
theorem dX3_totalCost_40 : decode cX3_totalCost 40 = .ok (.goto 11, 3) := by decide +kernel
theorem dX3_totalCost_43 : decode cX3_totalCost 43 = .ok (.aload_n 0, 1) := by decide +kernel
theorem dX3_totalCost_44 : decode cX3_totalCost 44 = .ok (.getfield 27, 3) := by decide +kernel
theorem dX3_totalCost_47 : decode cX3_totalCost 47 = .ok (.iload_n 3, 1) := by decide +kernel
theorem dX3_totalCost_48 : decode cX3_totalCost 48 = .ok (.invokevirtual 103, 3) := by decide +kernel
theorem dX3_totalCost_51 : decode cX3_totalCost 51 = .ok (.iadd, 1) := by decide +kernel
theorem dX3_totalCost_52 : decode cX3_totalCost 52 = .ok (.istore_n 1, 1) := by decide +kernel
theorem dX3_totalCost_53 : decode cX3_totalCost 53 = .ok (.iload_n 1, 1) := by decide +kernel
theorem dX3_totalCost_54 : decode cX3_totalCost 54 = .ok (.aload_n 0, 1) := by decide +kernel
theorem dX3_totalCost_55 : decode cX3_totalCost 55 = .ok (.iload_n 2, 1) := by decide +kernel
theorem dX3_totalCost_56 : decode cX3_totalCost 56 = .ok (.invokevirtual 96, 3) := by decide +kernel
theorem dX3_totalCost_59 : decode cX3_totalCost 59 = .ok (.ifCond .eq 13, 3) := by decide +kernel
theorem dX3_totalCost_62 : decode cX3_totalCost 62 = .ok (.aload_n 0, 1) := by decide +kernel
theorem dX3_totalCost_63 : decode cX3_totalCost 63 = .ok (.getfield 27, 3) := by decide +kernel
theorem dX3_totalCost_66 : decode cX3_totalCost 66 = .ok (.getfield 106, 3) := by decide +kernel
theorem dX3_totalCost_69 : decode cX3_totalCost 69 = .ok (.goto 4, 3) := by decide +kernel
theorem dX3_totalCost_72 : decode cX3_totalCost 72 = .ok (.iconst 0, 1) := by decide +kernel
theorem dX3_totalCost_73 : decode cX3_totalCost 73 = .ok (.iadd, 1) := by decide +kernel
theorem dX3_totalCost_74 : decode cX3_totalCost 74 = .ok (.istore_n 1, 1) := by decide +kernel
theorem dX3_totalCost_75 : decode cX3_totalCost 75 = .ok (.iinc 2 1, 3) := by decide +kernel
theorem dX3_totalCost_78 : decode cX3_totalCost 78 = .ok (.goto (-74), 3) := by decide +kernel
theorem dX3_totalCost_81 : decode cX3_totalCost 81 = .ok (.iload_n 1, 1) := by decide +kernel
theorem dX3_totalCost_82 : decode cX3_totalCost 82 = .ok (.ireturn, 1) := by decide +kernel
set_option maxRecDepth 20000 in
theorem ggX3_reasonBehind_X6_at : GoodIn wsX3_reasonBehind wsX6_at := goodIn_r _ [9, 10, 43] (by decide +kernel) (by decide +kernel)
set_option maxRecDepth 20000 in
theorem gX3_reasonBehind_X6_at : GoodIn wsX3_reasonBehind (wsV RX3 76 RX6 yX6_at wsX6_at) := goodIn_app (goodIn_of _ (by decide +kernel)) ggX3_reasonBehind_X6_at
set_option maxRecDepth 20000 in
theorem ggX3_reasonBehind_X7_endsParagraph : GoodIn wsX3_reasonBehind wsX7_endsParagraph := goodIn_r _ [15, 16, 17, 18, 6, 7, 8, 9, 10, 33, 34, 35, 36, 37, 38, 39, 40, 41, 42, 43] (by decide +kernel) (by decide +kernel)
set_option maxRecDepth 20000 in
theorem gX3_reasonBehind_X7_endsParagraph : GoodIn wsX3_reasonBehind (wsV RX3 55 RX7 yX7_endsParagraph wsX7_endsParagraph) := goodIn_app (goodIn_of _ (by decide +kernel)) ggX3_reasonBehind_X7_endsParagraph
set_option maxRecDepth 20000 in
theorem ggX3_reasonBehind_X1_widthBetween : GoodIn wsX3_reasonBehind wsX1_widthBetween := goodIn_r _ [23, 24, 25, 26, 6, 7, 8, 9, 10, 44, 45, 46, 33, 34, 35, 36, 37, 38, 39, 40, 41, 42, 43] (by decide +kernel) (by decide +kernel)
set_option maxRecDepth 20000 in
theorem gX3_reasonBehind_X1_widthBetween : GoodIn wsX3_reasonBehind (wsV RX3 80 RX1 yX1_widthBetween wsX1_widthBetween) := goodIn_app (goodIn_of _ (by decide +kernel)) ggX3_reasonBehind_X1_widthBetween
theorem dX3_reasonBehind_0 : decode cX3_reasonBehind 0 = .ok (.aload_n 0, 1) := by decide +kernel
theorem dX3_reasonBehind_1 : decode cX3_reasonBehind 1 = .ok (.getfield 20, 3) := by decide +kernel
theorem dX3_reasonBehind_4 : decode cX3_reasonBehind 4 = .ok (.iload_n 1, 1) := by decide +kernel
theorem dX3_reasonBehind_5 : decode cX3_reasonBehind 5 = .ok (.invokevirtual 76, 3) := by decide +kernel
theorem dX3_reasonBehind_8 : decode cX3_reasonBehind 8 = .ok (.istore_n 2, 1) := by decide +kernel
theorem dX3_reasonBehind_9 : decode cX3_reasonBehind 9 = .ok (.aload_n 0, 1) := by decide +kernel
theorem dX3_reasonBehind_10 : decode cX3_reasonBehind 10 = .ok (.getfield 14, 3) := by decide +kernel
theorem dX3_reasonBehind_13 : decode cX3_reasonBehind 13 = .ok (.iload_n 2, 1) := by decide +kernel
theorem dX3_reasonBehind_14 : decode cX3_reasonBehind 14 = .ok (.iconst 1, 1) := by decide +kernel
theorem dX3_reasonBehind_15 : decode cX3_reasonBehind 15 = .ok (.iadd, 1) := by decide +kernel
theorem dX3_reasonBehind_16 : decode cX3_reasonBehind 16 = .ok (.invokevirtual 76, 3) := by decide +kernel
theorem dX3_reasonBehind_19 : decode cX3_reasonBehind 19 = .ok (.iload_n 1, 1) := by decide +kernel
theorem dX3_reasonBehind_20 : decode cX3_reasonBehind 20 = .ok (.iconst 1, 1) := by decide +kernel
theorem dX3_reasonBehind_21 : decode cX3_reasonBehind 21 = .ok (.iadd, 1) := by decide +kernel
theorem dX3_reasonBehind_22 : decode cX3_reasonBehind 22 = .ok (.if_icmp .eq 5, 3) := by decide +kernel
theorem dX3_reasonBehind_25 : decode cX3_reasonBehind 25 = .ok (.iconst 0, 1) := by decide +kernel
theorem dX3_reasonBehind_26 : decode cX3_reasonBehind 26 = .ok (.ireturn, 1) := by decide +kernel
theorem dX3_reasonBehind_27 : decode cX3_reasonBehind 27 = .ok (.aload_n 0, 1) := by decide +kernel
theorem dX3_reasonBehind_28 : decode cX3_reasonBehind 28 = .ok (.getfield 27, 3) := by decide +kernel
theorem dX3_reasonBehind_31 : decode cX3_reasonBehind 31 = .ok (.iload_n 1, 1) := by decide +kernel
theorem dX3_reasonBehind_32 : decode cX3_reasonBehind 32 = .ok (.invokevirtual 55, 3) := by decide +kernel
theorem dX3_reasonBehind_35 : decode cX3_reasonBehind 35 = .ok (.ifCond .eq 5, 3) := by decide +kernel
theorem dX3_reasonBehind_38 : decode cX3_reasonBehind 38 = .ok (.iconst 1, 1) := by decide +kernel
theorem dX3_reasonBehind_39 : decode cX3_reasonBehind 39 = .ok (.ireturn, 1) := by decide +kernel
theorem dX3_reasonBehind_40 : decode cX3_reasonBehind 40 = .ok (.aload_n 0, 1) := by decide +kernel
theorem dX3_reasonBehind_41 : decode cX3_reasonBehind 41 = .ok (.getfield 27, 3) := by decide +kernel
theorem dX3_reasonBehind_44 : decode cX3_reasonBehind 44 = .ok (.getfield 109, 3) := by decide +kernel
theorem dX3_reasonBehind_47 : decode cX3_reasonBehind 47 = .ok (.iload_n 1, 1) := by decide +kernel
theorem dX3_reasonBehind_48 : decode cX3_reasonBehind 48 = .ok (.invokevirtual 76, 3) := by decide +kernel
theorem dX3_reasonBehind_51 : decode cX3_reasonBehind 51 = .ok (.iconst 1, 1) := by decide +kernel
theorem dX3_reasonBehind_52 : decode cX3_reasonBehind 52 = .ok (.if_icmp .ne 5, 3) := by decide +kernel
theorem dX3_reasonBehind_55 : decode cX3_reasonBehind 55 = .ok (.iconst 2, 1) := by decide +kernel
theorem dX3_reasonBehind_56 : decode cX3_reasonBehind 56 = .ok (.ireturn, 1) := by decide +kernel
theorem dX3_reasonBehind_57 : decode cX3_reasonBehind 57 = .ok (.aload_n 0, 1) := by decide +kernel
theorem dX3_reasonBehind_58 : decode cX3_reasonBehind 58 = .ok (.getfield 36, 3) := by decide +kernel
theorem dX3_reasonBehind_61 : decode cX3_reasonBehind 61 = .ok (.aload_n 0, 1) := by decide +kernel
theorem dX3_reasonBehind_62 : decode cX3_reasonBehind 62 = .ok (.getfield 14, 3) := by decide +kernel
theorem dX3_reasonBehind_65 : decode cX3_reasonBehind 65 = .ok (.iload_n 2, 1) := by decide +kernel
theorem dX3_reasonBehind_66 : decode cX3_reasonBehind 66 = .ok (.invokevirtual 76, 3) := by decide +kernel
theorem dX3_reasonBehind_69 : decode cX3_reasonBehind 69 = .ok (.iload_n 1, 1) := by decide +kernel
theorem dX3_reasonBehind_70 : decode cX3_reasonBehind 70 = .ok (.iconst 2, 1) := by decide +kernel
theorem dX3_reasonBehind_71 : decode cX3_reasonBehind 71 = .ok (.iadd, 1) := by decide +kernel
theorem dX3_reasonBehind_72 : decode cX3_reasonBehind 72 = .ok (.invokevirtual 80, 3) := by decide +kernel
theorem dX3_reasonBehind_75 : decode cX3_reasonBehind 75 = .ok (.aload_n 0, 1) := by decide +kernel
theorem dX3_reasonBehind_76 : decode cX3_reasonBehind 76 = .ok (.getfield 27, 3) := by decide +kernel
theorem dX3_reasonBehind_79 : decode cX3_reasonBehind 79 = .ok (.getfield 112, 3) := by decide +kernel
theorem dX3_reasonBehind_82 : decode cX3_reasonBehind 82 = .ok (.if_icmp .le 7, 3) := by decide +kernel
theorem dX3_reasonBehind_85 : decode cX3_reasonBehind 85 = .ok (.iconst 3, 1) := by decide +kernel
theorem dX3_reasonBehind_86 : decode cX3_reasonBehind 86 = .ok (.goto 4, 3) := by decide +kernel
theorem dX3_reasonBehind_89 : decode cX3_reasonBehind 89 = .ok (.iconst 4, 1) := by decide +kernel
theorem dX3_reasonBehind_90 : decode cX3_reasonBehind 90 = .ok (.ireturn, 1) := by decide +kernel
set_option maxRecDepth 20000 in
theorem ggX4_init_X6_init : GoodIn wsX4_init wsX6_init := goodIn_r _ [14, 15, 2, 3, 16, 17, 18, 19, 20, 21, 22] (by decide +kernel) (by decide +kernel)
set_option maxRecDepth 20000 in
theorem gX4_init_X6_init : GoodIn wsX4_init (wsX6_init) := ggX4_init_X6_init
theorem dX4_init_0 : decode cX4_init 0 = .ok (.aload_n 0, 1) := by decide +kernel
theorem dX4_init_1 : decode cX4_init 1 = .ok (.invokespecial 5, 3) := by decide +kernel
theorem dX4_init_4 : decode cX4_init 4 = .ok (.aload_n 0, 1) := by decide +kernel
theorem dX4_init_5 : decode cX4_init 5 = .ok (.new 11, 3) := by decide +kernel
theorem dX4_init_8 : decode cX4_init 8 = .ok (.dup, 1) := by decide +kernel
theorem dX4_init_9 : decode cX4_init 9 = .ok (.sipush 2460, 3) := by decide +kernel
theorem dX4_init_12 : decode cX4_init 12 = .ok (.invokespecial 13, 3) := by decide +kernel
theorem dX4_init_15 : decode cX4_init 15 = .ok (.putfield 16, 3) := by decide +kernel
theorem dX4_init_18 : decode cX4_init 18 = .ok (.aload_n 0, 1) := by decide +kernel
theorem dX4_init_19 : decode cX4_init 19 = .ok (.new 11, 3) := by decide +kernel
theorem dX4_init_22 : decode cX4_init 22 = .ok (.dup, 1) := by decide +kernel
theorem dX4_init_23 : decode cX4_init 23 = .ok (.sipush 2460, 3) := by decide +kernel
theorem dX4_init_26 : decode cX4_init 26 = .ok (.invokespecial 13, 3) := by decide +kernel
theorem dX4_init_29 : decode cX4_init 29 = .ok (.putfield 20, 3) := by decide +kernel
theorem dX4_init_32 : decode cX4_init 32 = .ok (.aload_n 0, 1) := by decide +kernel
theorem dX4_init_33 : decode cX4_init 33 = .ok (.new 11, 3) := by decide +kernel
theorem dX4_init_36 : decode cX4_init 36 = .ok (.dup, 1) := by decide +kernel
theorem dX4_init_37 : decode cX4_init 37 = .ok (.bipush 40, 2) := by decide +kernel
theorem dX4_init_39 : decode cX4_init 39 = .ok (.invokespecial 13, 3) := by decide +kernel
theorem dX4_init_42 : decode cX4_init 42 = .ok (.putfield 23, 3) := by decide +kernel
theorem dX4_init_45 : decode cX4_init 45 = .ok (.aload_n 0, 1) := by decide +kernel
theorem dX4_init_46 : decode cX4_init 46 = .ok (.aload_n 1, 1) := by decide +kernel
theorem dX4_init_47 : decode cX4_init 47 = .ok (.putfield 26, 3) := by decide +kernel
theorem dX4_init_50 : decode cX4_init 50 = .ok (.aload_n 0, 1) := by decide +kernel
theorem dX4_init_51 : decode cX4_init 51 = .ok (.aload_n 2, 1) := by decide +kernel
theorem dX4_init_52 : decode cX4_init 52 = .ok (.putfield 30, 3) := by decide +kernel
theorem dX4_init_55 : decode cX4_init 55 = .ok (.return_, 1) := by decide +kernel
set_option maxRecDepth 20000 in
theorem ggX4_solve_X6_at : GoodIn wsX4_solve wsX6_at := goodIn_r _ [6, 7, 65] (by decide +kernel) (by decide +kernel)
set_option maxRecDepth 20000 in
theorem gX4_solve_X6_at : GoodIn wsX4_solve (wsV RX4 39 RX6 yX6_at wsX6_at) := goodIn_app (goodIn_of _ (by decide +kernel)) ggX4_solve_X6_at
set_option maxRecDepth 20000 in
theorem ggX4_solve_X4_weigh : GoodIn wsX4_solve wsX4_weigh := goodIn_r _ [12, 13, 14, 1, 15, 16, 17, 11, 18, 19, 20, 21, 5, 22, 7, 23, 24, 25, 26, 27, 28, 29, 30, 3, 4, 6, 2, 31, 32, 33, 34, 35, 36, 37, 38, 39, 40, 41, 42, 43, 44, 45, 46, 47, 48, 49, 50, 51, 57, 58, 59, 60, 61, 62, 63, 64, 66, 67, 68, 69, 70, 71, 72, 73, 74, 75, 65] (by decide +kernel) (by decide +kernel)
set_option maxRecDepth 20000 in
theorem gX4_solve_X4_weigh : GoodIn wsX4_solve (wsV RX4 43 RX4 yX4_weigh wsX4_weigh) := goodIn_app (goodIn_of _ (by decide +kernel)) ggX4_solve_X4_weigh
set_option maxRecDepth 20000 in
theorem ggX4_solve_X4_follow : GoodIn wsX4_solve wsX4_follow := goodIn_r _ [55, 51, 56, 1, 15, 16, 17, 11, 18, 2, 3, 4, 5, 6, 7, 19, 20, 21, 22, 23, 24, 25, 26, 27, 28, 29, 30, 38, 39, 40, 34, 41, 42, 57, 58, 59, 60, 61, 65, 62, 63, 64, 66, 67, 68, 69, 70, 71, 72, 73, 74, 75] (by decide +kernel) (by decide +kernel)
set_option maxRecDepth 20000 in
theorem gX4_solve_X4_follow : GoodIn wsX4_solve (wsV RX4 47 RX4 yX4_follow wsX4_follow) := goodIn_app (goodIn_of _ (by decide +kernel)) ggX4_solve_X4_follow
theorem dX4_solve_0 : decode cX4_solve 0 = .ok (.iload_n 2, 1) := by decide +kernel
theorem dX4_solve_1 : decode cX4_solve 1 = .ok (.iconst 1, 1) := by decide +kernel
theorem dX4_solve_2 : decode cX4_solve 2 = .ok (.isub, 1) := by decide +kernel
theorem dX4_solve_3 : decode cX4_solve 3 = .ok (.istore_n 3, 1) := by decide +kernel
theorem dX4_solve_4 : decode cX4_solve 4 = .ok (.iload_n 3, 1) := by decide +kernel
theorem dX4_solve_5 : decode cX4_solve 5 = .ok (.iload_n 1, 1) := by decide +kernel
theorem dX4_solve_6 : decode cX4_solve 6 = .ok (.if_icmp .le 48, 3) := by decide +kernel
theorem dX4_solve_9 : decode cX4_solve 9 = .ok (.iload_n 1, 1) := by decide +kernel
theorem dX4_solve_10 : decode cX4_solve 10 = .ok (.istore 4, 2) := by decide +kernel
theorem dX4_solve_12 : decode cX4_solve 12 = .ok (.iload 4, 2) := by decide +kernel
theorem dX4_solve_14 : decode cX4_solve 14 = .ok (.iload_n 3, 1) := by decide +kernel
theorem dX4_solve_15 : decode cX4_solve 15 = .ok (.if_icmp .ge 33, 3) := by decide +kernel
theorem dX4_solve_18 : decode cX4_solve 18 = .ok (.aload_n 0, 1) := by decide +kernel
theorem dX4_solve_19 : decode cX4_solve 19 = .ok (.getfield 30, 3) := by decide +kernel
theorem dX4_solve_22 : decode cX4_solve 22 = .ok (.getfield 34, 3) := by decide +kernel
theorem dX4_solve_25 : decode cX4_solve 25 = .ok (.iload 4, 2) := by decide +kernel
theorem dX4_solve_27 : decode cX4_solve 27 = .ok (.invokevirtual 39, 3) := by decide +kernel
theorem dX4_solve_30 : decode cX4_solve 30 = .ok (.iload_n 3, 1) := by decide +kernel
theorem dX4_solve_31 : decode cX4_solve 31 = .ok (.if_icmp .lt 11, 3) := by decide +kernel
theorem dX4_solve_34 : decode cX4_solve 34 = .ok (.aload_n 0, 1) := by decide +kernel
theorem dX4_solve_35 : decode cX4_solve 35 = .ok (.iload 4, 2) := by decide +kernel
theorem dX4_solve_37 : decode cX4_solve 37 = .ok (.iload_n 3, 1) := by decide +kernel
theorem dX4_solve_38 : decode cX4_solve 38 = .ok (.iload_n 2, 1) := by decide +kernel
theorem dX4_solve_39 : decode cX4_solve 39 = .ok (.invokevirtual 43, 3) := by decide +kernel
theorem dX4_solve_42 : decode cX4_solve 42 = .ok (.iinc 4 1, 3) := by decide +kernel
theorem dX4_solve_45 : decode cX4_solve 45 = .ok (.goto (-33), 3) := by decide +kernel
theorem dX4_solve_48 : decode cX4_solve 48 = .ok (.iinc 3 (-1), 3) := by decide +kernel
theorem dX4_solve_51 : decode cX4_solve 51 = .ok (.goto (-47), 3) := by decide +kernel
theorem dX4_solve_54 : decode cX4_solve 54 = .ok (.aload_n 0, 1) := by decide +kernel
theorem dX4_solve_55 : decode cX4_solve 55 = .ok (.iload_n 1, 1) := by decide +kernel
theorem dX4_solve_56 : decode cX4_solve 56 = .ok (.iload_n 1, 1) := by decide +kernel
theorem dX4_solve_57 : decode cX4_solve 57 = .ok (.iload_n 2, 1) := by decide +kernel
theorem dX4_solve_58 : decode cX4_solve 58 = .ok (.invokevirtual 43, 3) := by decide +kernel
theorem dX4_solve_61 : decode cX4_solve 61 = .ok (.aload_n 0, 1) := by decide +kernel
theorem dX4_solve_62 : decode cX4_solve 62 = .ok (.iload_n 1, 1) := by decide +kernel
theorem dX4_solve_63 : decode cX4_solve 63 = .ok (.iload_n 2, 1) := by decide +kernel
theorem dX4_solve_64 : decode cX4_solve 64 = .ok (.invokevirtual 47, 3) := by decide +kernel
theorem dX4_solve_67 : decode cX4_solve 67 = .ok (.return_, 1) := by decide +kernel
set_option maxRecDepth 20000 in
theorem ggX4_weigh_X4_slot : GoodIn wsX4_weigh wsX4_slot := goodIn_r _ [8] (by decide +kernel) (by decide +kernel)
set_option maxRecDepth 20000 in
theorem gX4_weigh_X4_slot : GoodIn wsX4_weigh (va_wsS RX4 51 yX4_slot wsX4_slot) := goodIn_app (goodIn_of _ (by decide +kernel)) ggX4_weigh_X4_slot
set_option maxRecDepth 20000 in
theorem ggX4_weigh_X6_put : GoodIn wsX4_weigh wsX6_put := goodIn_r _ [13, 14, 66] (by decide +kernel) (by decide +kernel)
set_option maxRecDepth 20000 in
theorem gX4_weigh_X6_put : GoodIn wsX4_weigh (wsV RX4 58 RX6 yX6_put wsX6_put) := goodIn_app (goodIn_of _ (by decide +kernel)) ggX4_weigh_X6_put
set_option maxRecDepth 20000 in
theorem ggX4_weigh_X1_widthBetween : GoodIn wsX4_weigh wsX1_widthBetween := goodIn_r _ [19, 20, 21, 22, 23, 24, 12, 25, 14, 53, 54, 55, 56, 57, 58, 59, 60, 61, 62, 63, 64, 65, 66] (by decide +kernel) (by decide +kernel)
set_option maxRecDepth 20000 in
theorem gX4_weigh_X1_widthBetween : GoodIn wsX4_weigh (wsV RX4 61 RX1 yX1_widthBetween wsX1_widthBetween) := goodIn_app (goodIn_of _ (by decide +kernel)) ggX4_weigh_X1_widthBetween
set_option maxRecDepth 20000 in
theorem ggX4_weigh_X6_at : GoodIn wsX4_weigh wsX6_at := goodIn_r _ [25, 14, 66] (by decide +kernel) (by decide +kernel)
set_option maxRecDepth 20000 in
theorem gX4_weigh_X6_at : GoodIn wsX4_weigh (wsV RX4 39 RX6 yX6_at wsX6_at) := goodIn_app (goodIn_of _ (by decide +kernel)) ggX4_weigh_X6_at
set_option maxRecDepth 20000 in
theorem ggX4_weigh_X7_lastLineCost : GoodIn wsX4_weigh wsX7_lastLineCost := goodIn_r _ [31, 32, 33, 56, 57, 58, 59, 60, 61, 62, 63, 64, 65] (by decide +kernel) (by decide +kernel)
set_option maxRecDepth 20000 in
theorem gX4_weigh_X7_lastLineCost : GoodIn wsX4_weigh (wsV RX4 65 RX7 yX7_lastLineCost wsX7_lastLineCost) := goodIn_app (goodIn_of _ (by decide +kernel)) ggX4_weigh_X7_lastLineCost
set_option maxRecDepth 20000 in
theorem ggX4_weigh_X7_turn : GoodIn wsX4_weigh wsX7_turn := goodIn_r _ [37, 38, 56, 57, 58, 59, 60, 61, 62, 63, 64, 65] (by decide +kernel) (by decide +kernel)
set_option maxRecDepth 20000 in
theorem gX4_weigh_X7_turn : GoodIn wsX4_weigh (wsV RX4 71 RX7 yX7_turn wsX7_turn) := goodIn_app (goodIn_of _ (by decide +kernel)) ggX4_weigh_X7_turn
set_option maxRecDepth 20000 in
theorem ggX4_weigh_X7_slackCost : GoodIn wsX4_weigh wsX7_slackCost := goodIn_r _ [42, 32, 56, 57, 58, 59, 60, 61, 62, 63, 64, 65] (by decide +kernel) (by decide +kernel)
set_option maxRecDepth 20000 in
theorem gX4_weigh_X7_slackCost : GoodIn wsX4_weigh (wsV RX4 74 RX7 yX7_slackCost wsX7_slackCost) := goodIn_app (goodIn_of _ (by decide +kernel)) ggX4_weigh_X7_slackCost
set_option maxRecDepth 20000 in
theorem ggX4_weigh_X4_offer : GoodIn wsX4_weigh wsX4_offer := goodIn_r _ [46, 1, 47, 26, 23, 24, 12, 25, 14, 9, 10, 11, 13, 48, 49, 50, 51, 52, 66] (by decide +kernel) (by decide +kernel)
set_option maxRecDepth 20000 in
theorem gX4_weigh_X4_offer : GoodIn wsX4_weigh (wsV RX4 81 RX4 yX4_offer wsX4_offer) := goodIn_app (goodIn_of _ (by decide +kernel)) ggX4_weigh_X4_offer
theorem dX4_weigh_0 : decode cX4_weigh 0 = .ok (.iconst (-1), 1) := by decide +kernel
theorem dX4_weigh_1 : decode cX4_weigh 1 = .ok (.istore 4, 2) := by decide +kernel
theorem dX4_weigh_3 : decode cX4_weigh 3 = .ok (.iload 4, 2) := by decide +kernel
theorem dX4_weigh_5 : decode cX4_weigh 5 = .ok (.iconst 1, 1) := by decide +kernel
theorem dX4_weigh_6 : decode cX4_weigh 6 = .ok (.if_icmp .gt 25, 3) := by decide +kernel
theorem dX4_weigh_9 : decode cX4_weigh 9 = .ok (.aload_n 0, 1) := by decide +kernel
theorem dX4_weigh_10 : decode cX4_weigh 10 = .ok (.getfield 16, 3) := by decide +kernel
theorem dX4_weigh_13 : decode cX4_weigh 13 = .ok (.iload_n 1, 1) := by decide +kernel
theorem dX4_weigh_14 : decode cX4_weigh 14 = .ok (.iload_n 2, 1) := by decide +kernel
theorem dX4_weigh_15 : decode cX4_weigh 15 = .ok (.iload 4, 2) := by decide +kernel
theorem dX4_weigh_17 : decode cX4_weigh 17 = .ok (.invokestatic 51, 3) := by decide +kernel
theorem dX4_weigh_20 : decode cX4_weigh 20 = .ok (.ldc 57, 2) := by decide +kernel
theorem dX4_weigh_22 : decode cX4_weigh 22 = .ok (.invokevirtual 58, 3) := by decide +kernel
theorem dX4_weigh_25 : decode cX4_weigh 25 = .ok (.iinc 4 1, 3) := by decide +kernel
theorem dX4_weigh_28 : decode cX4_weigh 28 = .ok (.goto (-25), 3) := by decide +kernel
theorem dX4_weigh_31 : decode cX4_weigh 31 = .ok (.aload_n 0, 1) := by decide +kernel
theorem dX4_weigh_32 : decode cX4_weigh 32 = .ok (.getfield 30, 3) := by decide +kernel
theorem dX4_weigh_35 : decode cX4_weigh 35 = .ok (.iload_n 1, 1) := by decide +kernel
theorem dX4_weigh_36 : decode cX4_weigh 36 = .ok (.iload_n 2, 1) := by decide +kernel
theorem dX4_weigh_37 : decode cX4_weigh 37 = .ok (.invokevirtual 61, 3) := by decide +kernel
theorem dX4_weigh_40 : decode cX4_weigh 40 = .ok (.istore 4, 2) := by decide +kernel
theorem dX4_weigh_42 : decode cX4_weigh 42 = .ok (.aload_n 0, 1) := by decide +kernel
theorem dX4_weigh_43 : decode cX4_weigh 43 = .ok (.getfield 30, 3) := by decide +kernel
theorem dX4_weigh_46 : decode cX4_weigh 46 = .ok (.getfield 34, 3) := by decide +kernel
theorem dX4_weigh_49 : decode cX4_weigh 49 = .ok (.iload_n 2, 1) := by decide +kernel
theorem dX4_weigh_50 : decode cX4_weigh 50 = .ok (.invokevirtual 39, 3) := by decide +kernel
theorem dX4_weigh_53 : decode cX4_weigh 53 = .ok (.istore 5, 2) := by decide +kernel
theorem dX4_weigh_55 : decode cX4_weigh 55 = .ok (.iload 5, 2) := by decide +kernel
theorem dX4_weigh_57 : decode cX4_weigh 57 = .ok (.iload_n 2, 1) := by decide +kernel
theorem dX4_weigh_58 : decode cX4_weigh 58 = .ok (.if_icmp .le 191, 3) := by decide +kernel
theorem dX4_weigh_61 : decode cX4_weigh 61 = .ok (.aload_n 0, 1) := by decide +kernel
theorem dX4_weigh_62 : decode cX4_weigh 62 = .ok (.getfield 30, 3) := by decide +kernel
theorem dX4_weigh_65 : decode cX4_weigh 65 = .ok (.iload_n 2, 1) := by decide +kernel
theorem dX4_weigh_66 : decode cX4_weigh 66 = .ok (.iload 5, 2) := by decide +kernel
theorem dX4_weigh_68 : decode cX4_weigh 68 = .ok (.invokevirtual 61, 3) := by decide +kernel
theorem dX4_weigh_71 : decode cX4_weigh 71 = .ok (.istore 6, 2) := by decide +kernel
theorem dX4_weigh_73 : decode cX4_weigh 73 = .ok (.iconst 0, 1) := by decide +kernel
theorem dX4_weigh_74 : decode cX4_weigh 74 = .ok (.istore 7, 2) := by decide +kernel
theorem dX4_weigh_76 : decode cX4_weigh 76 = .ok (.iconst 1, 1) := by decide +kernel
theorem dX4_weigh_77 : decode cX4_weigh 77 = .ok (.istore 8, 2) := by decide +kernel
theorem dX4_weigh_79 : decode cX4_weigh 79 = .ok (.iload 5, 2) := by decide +kernel
theorem dX4_weigh_81 : decode cX4_weigh 81 = .ok (.iload_n 3, 1) := by decide +kernel
theorem dX4_weigh_82 : decode cX4_weigh 82 = .ok (.if_icmp .ne 33, 3) := by decide +kernel
theorem dX4_weigh_85 : decode cX4_weigh 85 = .ok (.iload 8, 2) := by decide +kernel
theorem dX4_weigh_87 : decode cX4_weigh 87 = .ok (.bipush 64, 2) := by decide +kernel
theorem dX4_weigh_89 : decode cX4_weigh 89 = .ok (.aload_n 0, 1) := by decide +kernel
theorem dX4_weigh_90 : decode cX4_weigh 90 = .ok (.getfield 26, 3) := by decide +kernel
theorem dX4_weigh_93 : decode cX4_weigh 93 = .ok (.iload 6, 2) := by decide +kernel
theorem dX4_weigh_95 : decode cX4_weigh 95 = .ok (.iload_n 1, 1) := by decide +kernel
theorem dX4_weigh_96 : decode cX4_weigh 96 = .ok (.iload_n 2, 1) := by decide +kernel
theorem dX4_weigh_97 : decode cX4_weigh 97 = .ok (.if_icmp .ne 7, 3) := by decide +kernel
theorem dX4_weigh_100 : decode cX4_weigh 100 = .ok (.iconst 1, 1) := by decide +kernel
theorem dX4_weigh_101 : decode cX4_weigh 101 = .ok (.goto 4, 3) := by decide +kernel
theorem dX4_weigh_104 : decode cX4_weigh 104 = .ok (.iconst 0, 1) := by decide +kernel
theorem dX4_weigh_105 : decode cX4_weigh 105 = .ok (.invokevirtual 65, 3) := by decide +kernel
theorem dX4_weigh_108 : decode cX4_weigh 108 = .ok (.imul, 1) := by decide +kernel
theorem dX4_weigh_109 : decode cX4_weigh 109 = .ok (.iadd, 1) := by decide +kernel
theorem dX4_weigh_110 : decode cX4_weigh 110 = .ok (.istore 8, 2) := by decide +kernel
theorem dX4_weigh_112 : decode cX4_weigh 112 = .ok (.goto 58, 3) := by decide +kernel
theorem dX4_weigh_115 : decode cX4_weigh 115 = .ok (.iload_n 1, 1) := by decide +kernel
theorem dX4_weigh_116 : decode cX4_weigh 116 = .ok (.iload_n 2, 1) := by decide +kernel
theorem dX4_weigh_117 : decode cX4_weigh 117 = .ok (.if_icmp .ne 7, 3) := by decide +kernel
theorem dX4_weigh_120 : decode cX4_weigh 120 = .ok (.iconst 0, 1) := by decide +kernel
theorem dX4_weigh_121 : decode cX4_weigh 121 = .ok (.goto 14, 3) := by decide +kernel
theorem dX4_weigh_124 : decode cX4_weigh 124 = .ok (.aload_n 0, 1) := by decide +kernel
theorem dX4_weigh_125 : decode cX4_weigh 125 = .ok (.getfield 26, 3) := by decide +kernel
theorem dX4_weigh_128 : decode cX4_weigh 128 = .ok (.iload 4, 2) := by decide +kernel
theorem dX4_weigh_130 : decode cX4_weigh 130 = .ok (.iload 6, 2) := by decide +kernel
theorem dX4_weigh_132 : decode cX4_weigh 132 = .ok (.invokevirtual 71, 3) := by decide +kernel
theorem dX4_weigh_135 : decode cX4_weigh 135 = .ok (.istore 7, 2) := by decide +kernel
theorem dX4_weigh_137 : decode cX4_weigh 137 = .ok (.iload 8, 2) := by decide +kernel
theorem dX4_weigh_139 : decode cX4_weigh 139 = .ok (.bipush 64, 2) := by decide +kernel
theorem dX4_weigh_141 : decode cX4_weigh 141 = .ok (.aload_n 0, 1) := by decide +kernel
theorem dX4_weigh_142 : decode cX4_weigh 142 = .ok (.getfield 26, 3) := by decide +kernel
theorem dX4_weigh_145 : decode cX4_weigh 145 = .ok (.iload 6, 2) := by decide +kernel
theorem dX4_weigh_147 : decode cX4_weigh 147 = .ok (.invokevirtual 74, 3) := by decide +kernel
theorem dX4_weigh_150 : decode cX4_weigh 150 = .ok (.imul, 1) := by decide +kernel
theorem dX4_weigh_151 : decode cX4_weigh 151 = .ok (.aload_n 0, 1) := by decide +kernel
theorem dX4_weigh_152 : decode cX4_weigh 152 = .ok (.getfield 16, 3) := by decide +kernel
theorem dX4_weigh_155 : decode cX4_weigh 155 = .ok (.iload_n 2, 1) := by decide +kernel
theorem dX4_weigh_156 : decode cX4_weigh 156 = .ok (.iload 5, 2) := by decide +kernel
theorem dX4_weigh_158 : decode cX4_weigh 158 = .ok (.iload 7, 2) := by decide +kernel
theorem dX4_weigh_160 : decode cX4_weigh 160 = .ok (.invokestatic 51, 3) := by decide +kernel
theorem dX4_weigh_163 : decode cX4_weigh 163 = .ok (.invokevirtual 39, 3) := by decide +kernel
theorem dX4_weigh_166 : decode cX4_weigh 166 = .ok (.iadd, 1) := by decide +kernel
theorem dX4_weigh_167 : decode cX4_weigh 167 = .ok (.iadd, 1) := by decide +kernel
theorem dX4_weigh_168 : decode cX4_weigh 168 = .ok (.istore 8, 2) := by decide +kernel
theorem dX4_weigh_170 : decode cX4_weigh 170 = .ok (.iconst (-1), 1) := by decide +kernel
theorem dX4_weigh_171 : decode cX4_weigh 171 = .ok (.istore 9, 2) := by decide +kernel
theorem dX4_weigh_173 : decode cX4_weigh 173 = .ok (.iload 9, 2) := by decide +kernel
theorem dX4_weigh_175 : decode cX4_weigh 175 = .ok (.iconst 1, 1) := by decide +kernel
theorem dX4_weigh_176 : decode cX4_weigh 176 = .ok (.if_icmp .gt 67, 3) := by decide +kernel
theorem dX4_weigh_179 : decode cX4_weigh 179 = .ok (.iload 7, 2) := by decide +kernel
theorem dX4_weigh_181 : decode cX4_weigh 181 = .ok (.ifCond .eq 14, 3) := by decide +kernel
theorem dX4_weigh_184 : decode cX4_weigh 184 = .ok (.iload 7, 2) := by decide +kernel
theorem dX4_weigh_186 : decode cX4_weigh 186 = .ok (.iload 9, 2) := by decide +kernel
theorem dX4_weigh_188 : decode cX4_weigh 188 = .ok (.if_icmp .ne 7, 3) := by decide +kernel
theorem dX4_weigh_191 : decode cX4_weigh 191 = .ok (.iconst 1, 1) := by decide +kernel
theorem dX4_weigh_192 : decode cX4_weigh 192 = .ok (.goto 4, 3) := by decide +kernel
theorem dX4_weigh_195 : decode cX4_weigh 195 = .ok (.iconst 0, 1) := by decide +kernel
theorem dX4_weigh_196 : decode cX4_weigh 196 = .ok (.istore 10, 2) := by decide +kernel
theorem dX4_weigh_198 : decode cX4_weigh 198 = .ok (.iload 10, 2) := by decide +kernel
theorem dX4_weigh_200 : decode cX4_weigh 200 = .ok (.ifCond .eq 16, 3) := by decide +kernel
theorem dX4_weigh_203 : decode cX4_weigh 203 = .ok (.bipush 64, 2) := by decide +kernel
theorem dX4_weigh_205 : decode cX4_weigh 205 = .ok (.aload_n 0, 1) := by decide +kernel
theorem dX4_weigh_206 : decode cX4_weigh 206 = .ok (.getfield 26, 3) := by decide +kernel
theorem dX4_weigh_209 : decode cX4_weigh 209 = .ok (.getfield 77, 3) := by decide +kernel
theorem dX4_weigh_212 : decode cX4_weigh 212 = .ok (.imul, 1) := by decide +kernel
theorem dX4_weigh_213 : decode cX4_weigh 213 = .ok (.goto 4, 3) := by decide +kernel
theorem dX4_weigh_216 : decode cX4_weigh 216 = .ok (.iconst 0, 1) := by decide +kernel
theorem dX4_weigh_217 : decode cX4_weigh 217 = .ok (.istore 11, 2) := by decide +kernel
theorem dX4_weigh_219 : decode cX4_weigh 219 = .ok (.aload_n 0, 1) := by decide +kernel
theorem dX4_weigh_220 : decode cX4_weigh 220 = .ok (.iload_n 1, 1) := by decide +kernel
theorem dX4_weigh_221 : decode cX4_weigh 221 = .ok (.iload_n 2, 1) := by decide +kernel
theorem dX4_weigh_222 : decode cX4_weigh 222 = .ok (.iload 9, 2) := by decide +kernel
theorem dX4_weigh_224 : decode cX4_weigh 224 = .ok (.invokestatic 51, 3) := by decide +kernel
theorem dX4_weigh_227 : decode cX4_weigh 227 = .ok (.iload 8, 2) := by decide +kernel
theorem dX4_weigh_229 : decode cX4_weigh 229 = .ok (.iload 11, 2) := by decide +kernel
theorem dX4_weigh_231 : decode cX4_weigh 231 = .ok (.iadd, 1) := by decide +kernel
theorem dX4_weigh_232 : decode cX4_weigh 232 = .ok (.iload 5, 2) := by decide +kernel
theorem dX4_weigh_234 : decode cX4_weigh 234 = .ok (.invokevirtual 81, 3) := by decide +kernel
theorem dX4_weigh_237 : decode cX4_weigh 237 = .ok (.iinc 9 1, 3) := by decide +kernel
theorem dX4_weigh_240 : decode cX4_weigh 240 = .ok (.goto (-67), 3) := by decide +kernel
theorem dX4_weigh_243 : decode cX4_weigh 243 = .ok (.iinc 5 (-1), 3) := by decide +kernel
theorem dX4_weigh_246 : decode cX4_weigh 246 = .ok (.goto (-191), 3) := by decide +kernel
theorem dX4_weigh_249 : decode cX4_weigh 249 = .ok (.return_, 1) := by decide +kernel
set_option maxRecDepth 20000 in
theorem ggX4_offer_X6_at : GoodIn wsX4_offer wsX6_at := goodIn_r _ [7, 8, 18] (by decide +kernel) (by decide +kernel)
set_option maxRecDepth 20000 in
theorem gX4_offer_X6_at : GoodIn wsX4_offer (wsV RX4 39 RX6 yX6_at wsX6_at) := goodIn_app (goodIn_of _ (by decide +kernel)) ggX4_offer_X6_at
set_option maxRecDepth 20000 in
theorem ggX4_offer_X6_put : GoodIn wsX4_offer wsX6_put := goodIn_r _ [12, 8, 18] (by decide +kernel) (by decide +kernel)
set_option maxRecDepth 20000 in
theorem gX4_offer_X6_put : GoodIn wsX4_offer (wsV RX4 58 RX6 yX6_put wsX6_put) := goodIn_app (goodIn_of _ (by decide +kernel)) ggX4_offer_X6_put
theorem dX4_offer_0 : decode cX4_offer 0 = .ok (.iload_n 2, 1) := by decide +kernel
theorem dX4_offer_1 : decode cX4_offer 1 = .ok (.aload_n 0, 1) := by decide +kernel
theorem dX4_offer_2 : decode cX4_offer 2 = .ok (.getfield 16, 3) := by decide +kernel
theorem dX4_offer_5 : decode cX4_offer 5 = .ok (.iload_n 1, 1) := by decide +kernel
theorem dX4_offer_6 : decode cX4_offer 6 = .ok (.invokevirtual 39, 3) := by decide +kernel
theorem dX4_offer_9 : decode cX4_offer 9 = .ok (.if_icmp .ge 21, 3) := by decide +kernel
theorem dX4_offer_12 : decode cX4_offer 12 = .ok (.aload_n 0, 1) := by decide +kernel
theorem dX4_offer_13 : decode cX4_offer 13 = .ok (.getfield 16, 3) := by decide +kernel
theorem dX4_offer_16 : decode cX4_offer 16 = .ok (.iload_n 1, 1) := by decide +kernel
theorem dX4_offer_17 : decode cX4_offer 17 = .ok (.iload_n 2, 1) := by decide +kernel
theorem dX4_offer_18 : decode cX4_offer 18 = .ok (.invokevirtual 58, 3) := by decide +kernel
theorem dX4_offer_21 : decode cX4_offer 21 = .ok (.aload_n 0, 1) := by decide +kernel
theorem dX4_offer_22 : decode cX4_offer 22 = .ok (.getfield 20, 3) := by decide +kernel
theorem dX4_offer_25 : decode cX4_offer 25 = .ok (.iload_n 1, 1) := by decide +kernel
theorem dX4_offer_26 : decode cX4_offer 26 = .ok (.iload_n 3, 1) := by decide +kernel
theorem dX4_offer_27 : decode cX4_offer 27 = .ok (.invokevirtual 58, 3) := by decide +kernel
theorem dX4_offer_30 : decode cX4_offer 30 = .ok (.return_, 1) := by decide +kernel
set_option maxRecDepth 20000 in
theorem ggX4_follow_X4_slot : GoodIn wsX4_follow wsX4_slot := goodIn_r _ [8] (by decide +kernel) (by decide +kernel)
set_option maxRecDepth 20000 in
theorem gX4_follow_X4_slot : GoodIn wsX4_follow (va_wsS RX4 51 yX4_slot wsX4_slot) := goodIn_app (goodIn_of _ (by decide +kernel)) ggX4_follow_X4_slot
set_option maxRecDepth 20000 in
theorem ggX4_follow_X6_at : GoodIn wsX4_follow wsX6_at := goodIn_r _ [13, 14, 38] (by decide +kernel) (by decide +kernel)
set_option maxRecDepth 20000 in
theorem gX4_follow_X6_at : GoodIn wsX4_follow (wsV RX4 39 RX6 yX6_at wsX6_at) := goodIn_app (goodIn_of _ (by decide +kernel)) ggX4_follow_X6_at
set_option maxRecDepth 20000 in
theorem ggX4_follow_X6_put : GoodIn wsX4_follow wsX6_put := goodIn_r _ [18, 14, 38] (by decide +kernel) (by decide +kernel)
set_option maxRecDepth 20000 in
theorem gX4_follow_X6_put : GoodIn wsX4_follow (wsV RX4 58 RX6 yX6_put wsX6_put) := goodIn_app (goodIn_of _ (by decide +kernel)) ggX4_follow_X6_put
set_option maxRecDepth 20000 in
theorem ggX4_follow_X1_widthBetween : GoodIn wsX4_follow wsX1_widthBetween := goodIn_r _ [23, 24, 25, 26, 10, 11, 12, 13, 14, 39, 40, 41, 42, 43, 44, 45, 46, 47, 48, 49, 50, 51, 38] (by decide +kernel) (by decide +kernel)
set_option maxRecDepth 20000 in
theorem gX4_follow_X1_widthBetween : GoodIn wsX4_follow (wsV RX4 61 RX1 yX1_widthBetween wsX1_widthBetween) := goodIn_app (goodIn_of _ (by decide +kernel)) ggX4_follow_X1_widthBetween
set_option maxRecDepth 20000 in
theorem ggX4_follow_X7_turn : GoodIn wsX4_follow wsX7_turn := goodIn_r _ [31, 32, 42, 43, 44, 45, 46, 47, 48, 49, 50, 51] (by decide +kernel) (by decide +kernel)
set_option maxRecDepth 20000 in
theorem gX4_follow_X7_turn : GoodIn wsX4_follow (wsV RX4 71 RX7 yX7_turn wsX7_turn) := goodIn_app (goodIn_of _ (by decide +kernel)) ggX4_follow_X7_turn
theorem dX4_follow_0 : decode cX4_follow 0 = .ok (.iload_n 1, 1) := by decide +kernel
theorem dX4_follow_1 : decode cX4_follow 1 = .ok (.istore_n 3, 1) := by decide +kernel
theorem dX4_follow_2 : decode cX4_follow 2 = .ok (.iload_n 1, 1) := by decide +kernel
theorem dX4_follow_3 : decode cX4_follow 3 = .ok (.istore 4, 2) := by decide +kernel
theorem dX4_follow_5 : decode cX4_follow 5 = .ok (.iconst 0, 1) := by decide +kernel
theorem dX4_follow_6 : decode cX4_follow 6 = .ok (.istore 5, 2) := by decide +kernel
theorem dX4_follow_8 : decode cX4_follow 8 = .ok (.iload_n 1, 1) := by decide +kernel
theorem dX4_follow_9 : decode cX4_follow 9 = .ok (.istore 6, 2) := by decide +kernel
theorem dX4_follow_11 : decode cX4_follow 11 = .ok (.iload 6, 2) := by decide +kernel
theorem dX4_follow_13 : decode cX4_follow 13 = .ok (.iload_n 2, 1) := by decide +kernel
theorem dX4_follow_14 : decode cX4_follow 14 = .ok (.if_icmp .ge 99, 3) := by decide +kernel
theorem dX4_follow_17 : decode cX4_follow 17 = .ok (.iload 6, 2) := by decide +kernel
theorem dX4_follow_19 : decode cX4_follow 19 = .ok (.iload 4, 2) := by decide +kernel
theorem dX4_follow_21 : decode cX4_follow 21 = .ok (.if_icmp .ne 86, 3) := by decide +kernel
theorem dX4_follow_24 : decode cX4_follow 24 = .ok (.aload_n 0, 1) := by decide +kernel
theorem dX4_follow_25 : decode cX4_follow 25 = .ok (.getfield 20, 3) := by decide +kernel
theorem dX4_follow_28 : decode cX4_follow 28 = .ok (.iload_n 3, 1) := by decide +kernel
theorem dX4_follow_29 : decode cX4_follow 29 = .ok (.iload 4, 2) := by decide +kernel
theorem dX4_follow_31 : decode cX4_follow 31 = .ok (.iload 5, 2) := by decide +kernel
theorem dX4_follow_33 : decode cX4_follow 33 = .ok (.invokestatic 51, 3) := by decide +kernel
theorem dX4_follow_36 : decode cX4_follow 36 = .ok (.invokevirtual 39, 3) := by decide +kernel
theorem dX4_follow_39 : decode cX4_follow 39 = .ok (.istore 7, 2) := by decide +kernel
theorem dX4_follow_41 : decode cX4_follow 41 = .ok (.aload_n 0, 1) := by decide +kernel
theorem dX4_follow_42 : decode cX4_follow 42 = .ok (.getfield 23, 3) := by decide +kernel
theorem dX4_follow_45 : decode cX4_follow 45 = .ok (.iload 4, 2) := by decide +kernel
theorem dX4_follow_47 : decode cX4_follow 47 = .ok (.iload 7, 2) := by decide +kernel
theorem dX4_follow_49 : decode cX4_follow 49 = .ok (.invokevirtual 58, 3) := by decide +kernel
theorem dX4_follow_52 : decode cX4_follow 52 = .ok (.aload_n 0, 1) := by decide +kernel
theorem dX4_follow_53 : decode cX4_follow 53 = .ok (.getfield 30, 3) := by decide +kernel
theorem dX4_follow_56 : decode cX4_follow 56 = .ok (.iload_n 3, 1) := by decide +kernel
theorem dX4_follow_57 : decode cX4_follow 57 = .ok (.iload 4, 2) := by decide +kernel
theorem dX4_follow_59 : decode cX4_follow 59 = .ok (.invokevirtual 61, 3) := by decide +kernel
theorem dX4_follow_62 : decode cX4_follow 62 = .ok (.istore 8, 2) := by decide +kernel
theorem dX4_follow_64 : decode cX4_follow 64 = .ok (.aload_n 0, 1) := by decide +kernel
theorem dX4_follow_65 : decode cX4_follow 65 = .ok (.getfield 30, 3) := by decide +kernel
theorem dX4_follow_68 : decode cX4_follow 68 = .ok (.iload 4, 2) := by decide +kernel
theorem dX4_follow_70 : decode cX4_follow 70 = .ok (.iload 7, 2) := by decide +kernel
theorem dX4_follow_72 : decode cX4_follow 72 = .ok (.invokevirtual 61, 3) := by decide +kernel
theorem dX4_follow_75 : decode cX4_follow 75 = .ok (.istore 9, 2) := by decide +kernel
theorem dX4_follow_77 : decode cX4_follow 77 = .ok (.iload_n 3, 1) := by decide +kernel
theorem dX4_follow_78 : decode cX4_follow 78 = .ok (.iload 4, 2) := by decide +kernel
theorem dX4_follow_80 : decode cX4_follow 80 = .ok (.if_icmp .ne 7, 3) := by decide +kernel
theorem dX4_follow_83 : decode cX4_follow 83 = .ok (.iconst 0, 1) := by decide +kernel
theorem dX4_follow_84 : decode cX4_follow 84 = .ok (.goto 14, 3) := by decide +kernel
theorem dX4_follow_87 : decode cX4_follow 87 = .ok (.aload_n 0, 1) := by decide +kernel
theorem dX4_follow_88 : decode cX4_follow 88 = .ok (.getfield 26, 3) := by decide +kernel
theorem dX4_follow_91 : decode cX4_follow 91 = .ok (.iload 8, 2) := by decide +kernel
theorem dX4_follow_93 : decode cX4_follow 93 = .ok (.iload 9, 2) := by decide +kernel
theorem dX4_follow_95 : decode cX4_follow 95 = .ok (.invokevirtual 71, 3) := by decide +kernel
theorem dX4_follow_98 : decode cX4_follow 98 = .ok (.istore 5, 2) := by decide +kernel
theorem dX4_follow_100 : decode cX4_follow 100 = .ok (.iload 4, 2) := by decide +kernel
theorem dX4_follow_102 : decode cX4_follow 102 = .ok (.istore_n 3, 1) := by decide +kernel
theorem dX4_follow_103 : decode cX4_follow 103 = .ok (.iload 7, 2) := by decide +kernel
theorem dX4_follow_105 : decode cX4_follow 105 = .ok (.istore 4, 2) := by decide +kernel
theorem dX4_follow_107 : decode cX4_follow 107 = .ok (.iinc 6 1, 3) := by decide +kernel
theorem dX4_follow_110 : decode cX4_follow 110 = .ok (.goto (-99), 3) := by decide +kernel
theorem dX4_follow_113 : decode cX4_follow 113 = .ok (.return_, 1) := by decide +kernel
theorem dX4_slot_0 : decode cX4_slot 0 = .ok (.iload_n 1, 1) := by decide +kernel
theorem dX4_slot_1 : decode cX4_slot 1 = .ok (.iload_n 1, 1) := by decide +kernel
theorem dX4_slot_2 : decode cX4_slot 2 = .ok (.iconst 1, 1) := by decide +kernel
theorem dX4_slot_3 : decode cX4_slot 3 = .ok (.iadd, 1) := by decide +kernel
theorem dX4_slot_4 : decode cX4_slot 4 = .ok (.imul, 1) := by decide +kernel
theorem dX4_slot_5 : decode cX4_slot 5 = .ok (.iconst 2, 1) := by decide +kernel
theorem dX4_slot_6 : decode cX4_slot 6 = .ok (.idiv, 1) := by decide +kernel
theorem dX4_slot_7 : decode cX4_slot 7 = .ok (.iload_n 0, 1) := by decide +kernel
theorem dX4_slot_8 : decode cX4_slot 8 = .ok (.iadd, 1) := by decide +kernel
theorem dX4_slot_9 : decode cX4_slot 9 = .ok (.iconst 3, 1) := by decide +kernel
theorem dX4_slot_10 : decode cX4_slot 10 = .ok (.imul, 1) := by decide +kernel
theorem dX4_slot_11 : decode cX4_slot 11 = .ok (.iload_n 2, 1) := by decide +kernel
theorem dX4_slot_12 : decode cX4_slot 12 = .ok (.iadd, 1) := by decide +kernel
theorem dX4_slot_13 : decode cX4_slot 13 = .ok (.iconst 1, 1) := by decide +kernel
theorem dX4_slot_14 : decode cX4_slot 14 = .ok (.iadd, 1) := by decide +kernel
theorem dX4_slot_15 : decode cX4_slot 15 = .ok (.ireturn, 1) := by decide +kernel
set_option maxRecDepth 20000 in
theorem ggX5_init_X6_init : GoodIn wsX5_init wsX6_init := goodIn_r _ [14, 15, 2, 3, 16, 17, 18, 19, 20, 21, 22] (by decide +kernel) (by decide +kernel)
set_option maxRecDepth 20000 in
theorem gX5_init_X6_init : GoodIn wsX5_init (wsX6_init) := ggX5_init_X6_init
theorem dX5_init_0 : decode cX5_init 0 = .ok (.aload_n 0, 1) := by decide +kernel
theorem dX5_init_1 : decode cX5_init 1 = .ok (.invokespecial 3, 3) := by decide +kernel
theorem dX5_init_4 : decode cX5_init 4 = .ok (.aload_n 0, 1) := by decide +kernel
theorem dX5_init_5 : decode cX5_init 5 = .ok (.new 9, 3) := by decide +kernel
theorem dX5_init_8 : decode cX5_init 8 = .ok (.dup, 1) := by decide +kernel
theorem dX5_init_9 : decode cX5_init 9 = .ok (.bipush 41, 2) := by decide +kernel
theorem dX5_init_11 : decode cX5_init 11 = .ok (.invokespecial 11, 3) := by decide +kernel
theorem dX5_init_14 : decode cX5_init 14 = .ok (.putfield 14, 3) := by decide +kernel
theorem dX5_init_17 : decode cX5_init 17 = .ok (.aload_n 0, 1) := by decide +kernel
theorem dX5_init_18 : decode cX5_init 18 = .ok (.new 9, 3) := by decide +kernel
theorem dX5_init_21 : decode cX5_init 21 = .ok (.dup, 1) := by decide +kernel
theorem dX5_init_22 : decode cX5_init 22 = .ok (.bipush 40, 2) := by decide +kernel
theorem dX5_init_24 : decode cX5_init 24 = .ok (.invokespecial 11, 3) := by decide +kernel
theorem dX5_init_27 : decode cX5_init 27 = .ok (.putfield 20, 3) := by decide +kernel
theorem dX5_init_30 : decode cX5_init 30 = .ok (.aload_n 0, 1) := by decide +kernel
theorem dX5_init_31 : decode cX5_init 31 = .ok (.iconst 0, 1) := by decide +kernel
theorem dX5_init_32 : decode cX5_init 32 = .ok (.putfield 23, 3) := by decide +kernel
theorem dX5_init_35 : decode cX5_init 35 = .ok (.aload_n 0, 1) := by decide +kernel
theorem dX5_init_36 : decode cX5_init 36 = .ok (.aload_n 1, 1) := by decide +kernel
theorem dX5_init_37 : decode cX5_init 37 = .ok (.putfield 27, 3) := by decide +kernel
theorem dX5_init_40 : decode cX5_init 40 = .ok (.aload_n 0, 1) := by decide +kernel
theorem dX5_init_41 : decode cX5_init 41 = .ok (.aload_n 2, 1) := by decide +kernel
theorem dX5_init_42 : decode cX5_init 42 = .ok (.putfield 31, 3) := by decide +kernel
theorem dX5_init_45 : decode cX5_init 45 = .ok (.return_, 1) := by decide +kernel
set_option maxRecDepth 20000 in
theorem ggX5_fill_X6_put : GoodIn wsX5_fill wsX6_put := goodIn_r _ [10, 11, 64] (by decide +kernel) (by decide +kernel)
set_option maxRecDepth 20000 in
theorem gX5_fill_X6_put : GoodIn wsX5_fill (wsV RX5 38 RX6 yX6_put wsX6_put) := goodIn_app (goodIn_of _ (by decide +kernel)) ggX5_fill_X6_put
set_option maxRecDepth 20000 in
theorem ggX5_fill_X3_opensParagraph : GoodIn wsX5_fill wsX3_opensParagraph := goodIn_r _ [16, 17, 18, 19, 15, 20, 21, 22, 23, 24, 25, 9, 26, 11, 27, 28, 29, 30, 31, 32, 33, 34, 35, 36, 37, 38, 48, 49, 50, 51, 52, 53, 64, 54, 55, 56, 57, 58, 59, 60, 61, 62, 63] (by decide +kernel) (by decide +kernel)
set_option maxRecDepth 20000 in
theorem gX5_fill_X3_opensParagraph : GoodIn wsX5_fill (wsV RX5 47 RX3 yX3_opensParagraph wsX3_opensParagraph) := goodIn_app (goodIn_of _ (by decide +kernel)) ggX5_fill_X3_opensParagraph
set_option maxRecDepth 20000 in
theorem ggX5_fill_X3_closesParagraph : GoodIn wsX5_fill wsX3_closesParagraph := goodIn_r _ [42, 35, 36, 37, 15, 38, 22, 21, 23, 24, 25, 9, 26, 11, 27, 28, 29, 30, 31, 32, 33, 34, 17, 18, 19, 20, 48, 49, 50, 51, 52, 53, 64, 54, 55, 56, 57, 58, 59, 60, 61, 62, 63] (by decide +kernel) (by decide +kernel)
set_option maxRecDepth 20000 in
theorem gX5_fill_X3_closesParagraph : GoodIn wsX5_fill (wsV RX5 51 RX3 yX3_closesParagraph wsX3_closesParagraph) := goodIn_app (goodIn_of _ (by decide +kernel)) ggX5_fill_X3_closesParagraph
theorem dX5_fill_0 : decode cX5_fill 0 = .ok (.aload_n 0, 1) := by decide +kernel
theorem dX5_fill_1 : decode cX5_fill 1 = .ok (.iconst 0, 1) := by decide +kernel
theorem dX5_fill_2 : decode cX5_fill 2 = .ok (.putfield 23, 3) := by decide +kernel
theorem dX5_fill_5 : decode cX5_fill 5 = .ok (.iconst 0, 1) := by decide +kernel
theorem dX5_fill_6 : decode cX5_fill 6 = .ok (.istore_n 1, 1) := by decide +kernel
theorem dX5_fill_7 : decode cX5_fill 7 = .ok (.iconst 0, 1) := by decide +kernel
theorem dX5_fill_8 : decode cX5_fill 8 = .ok (.istore_n 2, 1) := by decide +kernel
theorem dX5_fill_9 : decode cX5_fill 9 = .ok (.iload_n 2, 1) := by decide +kernel
theorem dX5_fill_10 : decode cX5_fill 10 = .ok (.aload_n 0, 1) := by decide +kernel
theorem dX5_fill_11 : decode cX5_fill 11 = .ok (.getfield 31, 3) := by decide +kernel
theorem dX5_fill_14 : decode cX5_fill 14 = .ok (.getfield 35, 3) := by decide +kernel
theorem dX5_fill_17 : decode cX5_fill 17 = .ok (.if_icmp .ge 113, 3) := by decide +kernel
theorem dX5_fill_20 : decode cX5_fill 20 = .ok (.iload_n 2, 1) := by decide +kernel
theorem dX5_fill_21 : decode cX5_fill 21 = .ok (.iload_n 1, 1) := by decide +kernel
theorem dX5_fill_22 : decode cX5_fill 22 = .ok (.if_icmp .ne 88, 3) := by decide +kernel
theorem dX5_fill_25 : decode cX5_fill 25 = .ok (.aload_n 0, 1) := by decide +kernel
theorem dX5_fill_26 : decode cX5_fill 26 = .ok (.getfield 14, 3) := by decide +kernel
theorem dX5_fill_29 : decode cX5_fill 29 = .ok (.aload_n 0, 1) := by decide +kernel
theorem dX5_fill_30 : decode cX5_fill 30 = .ok (.getfield 23, 3) := by decide +kernel
theorem dX5_fill_33 : decode cX5_fill 33 = .ok (.iload_n 2, 1) := by decide +kernel
theorem dX5_fill_34 : decode cX5_fill 34 = .ok (.invokevirtual 38, 3) := by decide +kernel
theorem dX5_fill_37 : decode cX5_fill 37 = .ok (.aload_n 0, 1) := by decide +kernel
theorem dX5_fill_38 : decode cX5_fill 38 = .ok (.dup, 1) := by decide +kernel
theorem dX5_fill_39 : decode cX5_fill 39 = .ok (.getfield 23, 3) := by decide +kernel
theorem dX5_fill_42 : decode cX5_fill 42 = .ok (.iconst 1, 1) := by decide +kernel
theorem dX5_fill_43 : decode cX5_fill 43 = .ok (.iadd, 1) := by decide +kernel
theorem dX5_fill_44 : decode cX5_fill 44 = .ok (.putfield 23, 3) := by decide +kernel
theorem dX5_fill_47 : decode cX5_fill 47 = .ok (.iload_n 2, 1) := by decide +kernel
theorem dX5_fill_48 : decode cX5_fill 48 = .ok (.aload_n 0, 1) := by decide +kernel
theorem dX5_fill_49 : decode cX5_fill 49 = .ok (.getfield 27, 3) := by decide +kernel
theorem dX5_fill_52 : decode cX5_fill 52 = .ok (.getfield 42, 3) := by decide +kernel
theorem dX5_fill_55 : decode cX5_fill 55 = .ok (.iadd, 1) := by decide +kernel
theorem dX5_fill_56 : decode cX5_fill 56 = .ok (.istore_n 1, 1) := by decide +kernel
theorem dX5_fill_57 : decode cX5_fill 57 = .ok (.iload_n 1, 1) := by decide +kernel
theorem dX5_fill_58 : decode cX5_fill 58 = .ok (.aload_n 0, 1) := by decide +kernel
theorem dX5_fill_59 : decode cX5_fill 59 = .ok (.getfield 31, 3) := by decide +kernel
theorem dX5_fill_62 : decode cX5_fill 62 = .ok (.getfield 35, 3) := by decide +kernel
theorem dX5_fill_65 : decode cX5_fill 65 = .ok (.if_icmp .ge 31, 3) := by decide +kernel
theorem dX5_fill_68 : decode cX5_fill 68 = .ok (.aload_n 0, 1) := by decide +kernel
theorem dX5_fill_69 : decode cX5_fill 69 = .ok (.getfield 31, 3) := by decide +kernel
theorem dX5_fill_72 : decode cX5_fill 72 = .ok (.iload_n 1, 1) := by decide +kernel
theorem dX5_fill_73 : decode cX5_fill 73 = .ok (.iconst 1, 1) := by decide +kernel
theorem dX5_fill_74 : decode cX5_fill 74 = .ok (.isub, 1) := by decide +kernel
theorem dX5_fill_75 : decode cX5_fill 75 = .ok (.invokevirtual 47, 3) := by decide +kernel
theorem dX5_fill_78 : decode cX5_fill 78 = .ok (.ifCond .ne 14, 3) := by decide +kernel
theorem dX5_fill_81 : decode cX5_fill 81 = .ok (.aload_n 0, 1) := by decide +kernel
theorem dX5_fill_82 : decode cX5_fill 82 = .ok (.getfield 31, 3) := by decide +kernel
theorem dX5_fill_85 : decode cX5_fill 85 = .ok (.iload_n 1, 1) := by decide +kernel
theorem dX5_fill_86 : decode cX5_fill 86 = .ok (.invokevirtual 51, 3) := by decide +kernel
theorem dX5_fill_89 : decode cX5_fill 89 = .ok (.ifCond .eq 7, 3) := by decide +kernel
theorem dX5_fill_92 : decode cX5_fill 92 = .ok (.iconst 1, 1) := by decide +kernel
theorem dX5_fill_93 : decode cX5_fill 93 = .ok (.goto 4, 3) := by decide +kernel
theorem dX5_fill_96 : decode cX5_fill 96 = .ok (.iconst 0, 1) := by decide +kernel
theorem dX5_fill_97 : decode cX5_fill 97 = .ok (.istore_n 3, 1) := by decide +kernel
theorem dX5_fill_98 : decode cX5_fill 98 = .ok (.iload_n 3, 1) := by decide +kernel
theorem dX5_fill_99 : decode cX5_fill 99 = .ok (.ifCond .eq 9, 3) := by decide +kernel
theorem dX5_fill_102 : decode cX5_fill 102 = .ok (.iload_n 1, 1) := by decide +kernel
theorem dX5_fill_103 : decode cX5_fill 103 = .ok (.iconst 1, 1) := by decide +kernel
theorem dX5_fill_104 : decode cX5_fill 104 = .ok (.isub, 1) := by decide +kernel
theorem dX5_fill_105 : decode cX5_fill 105 = .ok (.goto 4, 3) := by decide +kernel
theorem dX5_fill_108 : decode cX5_fill 108 = .ok (.iload_n 1, 1) := by decide +kernel
theorem dX5_fill_109 : decode cX5_fill 109 = .ok (.istore_n 1, 1) := by decide +kernel
theorem dX5_fill_110 : decode cX5_fill 110 = .ok (.aload_n 0, 1) := by decide +kernel
theorem dX5_fill_111 : decode cX5_fill 111 = .ok (.getfield 20, 3) := by decide +kernel
theorem dX5_fill_114 : decode cX5_fill 114 = .ok (.iload_n 2, 1) := by decide +kernel
theorem dX5_fill_115 : decode cX5_fill 115 = .ok (.aload_n 0, 1) := by decide +kernel
theorem dX5_fill_116 : decode cX5_fill 116 = .ok (.getfield 23, 3) := by decide +kernel
theorem dX5_fill_119 : decode cX5_fill 119 = .ok (.iconst 1, 1) := by decide +kernel
theorem dX5_fill_120 : decode cX5_fill 120 = .ok (.isub, 1) := by decide +kernel
theorem dX5_fill_121 : decode cX5_fill 121 = .ok (.invokevirtual 38, 3) := by decide +kernel
theorem dX5_fill_124 : decode cX5_fill 124 = .ok (.iinc 2 1, 3) := by decide +kernel
theorem dX5_fill_127 : decode cX5_fill 127 = .ok (.goto (-118), 3) := by decide +kernel
theorem dX5_fill_130 : decode cX5_fill 130 = .ok (.aload_n 0, 1) := by decide +kernel
theorem dX5_fill_131 : decode cX5_fill 131 = .ok (.getfield 14, 3) := by decide +kernel
theorem dX5_fill_134 : decode cX5_fill 134 = .ok (.aload_n 0, 1) := by decide +kernel
theorem dX5_fill_135 : decode cX5_fill 135 = .ok (.getfield 23, 3) := by decide +kernel
theorem dX5_fill_138 : decode cX5_fill 138 = .ok (.aload_n 0, 1) := by decide +kernel
theorem dX5_fill_139 : decode cX5_fill 139 = .ok (.getfield 31, 3) := by decide +kernel
theorem dX5_fill_142 : decode cX5_fill 142 = .ok (.getfield 35, 3) := by decide +kernel
theorem dX5_fill_145 : decode cX5_fill 145 = .ok (.invokevirtual 38, 3) := by decide +kernel
theorem dX5_fill_148 : decode cX5_fill 148 = .ok (.return_, 1) := by decide +kernel
set_option maxRecDepth 20000 in
theorem ggX5_countWidows_X6_at : GoodIn wsX5_countWidows wsX6_at := goodIn_r _ [8, 9, 39] (by decide +kernel) (by decide +kernel)
set_option maxRecDepth 20000 in
theorem gX5_countWidows_X6_at : GoodIn wsX5_countWidows (wsV RX5 54 RX6 yX6_at wsX6_at) := goodIn_app (goodIn_of _ (by decide +kernel)) ggX5_countWidows_X6_at
set_option maxRecDepth 20000 in
theorem ggX5_countWidows_X3_closesParagraph : GoodIn wsX5_countWidows wsX3_closesParagraph := goodIn_r _ [14, 15, 16, 17, 13, 18, 19, 20, 21, 5, 6, 7, 8, 9, 22, 23, 24, 25, 26, 27, 28, 29, 30, 31, 32, 33, 40, 41, 42, 43, 44, 45, 39, 46, 47, 48, 49, 50, 51, 52, 53, 54, 55] (by decide +kernel) (by decide +kernel)
set_option maxRecDepth 20000 in
theorem gX5_countWidows_X3_closesParagraph : GoodIn wsX5_countWidows (wsV RX5 51 RX3 yX3_closesParagraph wsX3_closesParagraph) := goodIn_app (goodIn_of _ (by decide +kernel)) ggX5_countWidows_X3_closesParagraph
theorem dX5_countWidows_0 : decode cX5_countWidows 0 = .ok (.iconst 0, 1) := by decide +kernel
theorem dX5_countWidows_1 : decode cX5_countWidows 1 = .ok (.istore_n 1, 1) := by decide +kernel
theorem dX5_countWidows_2 : decode cX5_countWidows 2 = .ok (.iconst 1, 1) := by decide +kernel
theorem dX5_countWidows_3 : decode cX5_countWidows 3 = .ok (.istore_n 2, 1) := by decide +kernel
theorem dX5_countWidows_4 : decode cX5_countWidows 4 = .ok (.iload_n 2, 1) := by decide +kernel
theorem dX5_countWidows_5 : decode cX5_countWidows 5 = .ok (.aload_n 0, 1) := by decide +kernel
theorem dX5_countWidows_6 : decode cX5_countWidows 6 = .ok (.getfield 23, 3) := by decide +kernel
theorem dX5_countWidows_9 : decode cX5_countWidows 9 = .ok (.if_icmp .ge 30, 3) := by decide +kernel
theorem dX5_countWidows_12 : decode cX5_countWidows 12 = .ok (.aload_n 0, 1) := by decide +kernel
theorem dX5_countWidows_13 : decode cX5_countWidows 13 = .ok (.getfield 31, 3) := by decide +kernel
theorem dX5_countWidows_16 : decode cX5_countWidows 16 = .ok (.aload_n 0, 1) := by decide +kernel
theorem dX5_countWidows_17 : decode cX5_countWidows 17 = .ok (.getfield 14, 3) := by decide +kernel
theorem dX5_countWidows_20 : decode cX5_countWidows 20 = .ok (.iload_n 2, 1) := by decide +kernel
theorem dX5_countWidows_21 : decode cX5_countWidows 21 = .ok (.invokevirtual 54, 3) := by decide +kernel
theorem dX5_countWidows_24 : decode cX5_countWidows 24 = .ok (.invokevirtual 51, 3) := by decide +kernel
theorem dX5_countWidows_27 : decode cX5_countWidows 27 = .ok (.ifCond .eq 6, 3) := by decide +kernel
theorem dX5_countWidows_30 : decode cX5_countWidows 30 = .ok (.iinc 1 1, 3) := by decide +kernel
theorem dX5_countWidows_33 : decode cX5_countWidows 33 = .ok (.iinc 2 1, 3) := by decide +kernel
theorem dX5_countWidows_36 : decode cX5_countWidows 36 = .ok (.goto (-32), 3) := by decide +kernel
theorem dX5_countWidows_39 : decode cX5_countWidows 39 = .ok (.iload_n 1, 1) := by decide +kernel
theorem dX5_countWidows_40 : decode cX5_countWidows 40 = .ok (.ireturn, 1) := by decide +kernel
set_option maxRecDepth 20000 in
theorem ggX5_countOrphans_X6_at : GoodIn wsX5_countOrphans wsX6_at := goodIn_r _ [8, 9, 39] (by decide +kernel) (by decide +kernel)
set_option maxRecDepth 20000 in
theorem gX5_countOrphans_X6_at : GoodIn wsX5_countOrphans (wsV RX5 54 RX6 yX6_at wsX6_at) := goodIn_app (goodIn_of _ (by decide +kernel)) ggX5_countOrphans_X6_at
set_option maxRecDepth 20000 in
theorem ggX5_countOrphans_X3_opensParagraph : GoodIn wsX5_countOrphans wsX3_opensParagraph := goodIn_r _ [14, 15, 16, 17, 13, 18, 19, 20, 21, 5, 6, 7, 8, 9, 22, 23, 24, 25, 26, 27, 28, 29, 30, 31, 32, 33, 40, 41, 42, 43, 44, 45, 39, 46, 47, 48, 49, 50, 51, 52, 53, 54, 55] (by decide +kernel) (by decide +kernel)
set_option maxRecDepth 20000 in
theorem gX5_countOrphans_X3_opensParagraph : GoodIn wsX5_countOrphans (wsV RX5 47 RX3 yX3_opensParagraph wsX3_opensParagraph) := goodIn_app (goodIn_of _ (by decide +kernel)) ggX5_countOrphans_X3_opensParagraph
theorem dX5_countOrphans_0 : decode cX5_countOrphans 0 = .ok (.iconst 0, 1) := by decide +kernel
theorem dX5_countOrphans_1 : decode cX5_countOrphans 1 = .ok (.istore_n 1, 1) := by decide +kernel
theorem dX5_countOrphans_2 : decode cX5_countOrphans 2 = .ok (.iconst 0, 1) := by decide +kernel
theorem dX5_countOrphans_3 : decode cX5_countOrphans 3 = .ok (.istore_n 2, 1) := by decide +kernel
theorem dX5_countOrphans_4 : decode cX5_countOrphans 4 = .ok (.iload_n 2, 1) := by decide +kernel
theorem dX5_countOrphans_5 : decode cX5_countOrphans 5 = .ok (.aload_n 0, 1) := by decide +kernel
theorem dX5_countOrphans_6 : decode cX5_countOrphans 6 = .ok (.getfield 23, 3) := by decide +kernel
theorem dX5_countOrphans_9 : decode cX5_countOrphans 9 = .ok (.iconst 1, 1) := by decide +kernel
theorem dX5_countOrphans_10 : decode cX5_countOrphans 10 = .ok (.isub, 1) := by decide +kernel
theorem dX5_countOrphans_11 : decode cX5_countOrphans 11 = .ok (.if_icmp .ge 34, 3) := by decide +kernel
theorem dX5_countOrphans_14 : decode cX5_countOrphans 14 = .ok (.aload_n 0, 1) := by decide +kernel
theorem dX5_countOrphans_15 : decode cX5_countOrphans 15 = .ok (.getfield 31, 3) := by decide +kernel
theorem dX5_countOrphans_18 : decode cX5_countOrphans 18 = .ok (.aload_n 0, 1) := by decide +kernel
theorem dX5_countOrphans_19 : decode cX5_countOrphans 19 = .ok (.getfield 14, 3) := by decide +kernel
theorem dX5_countOrphans_22 : decode cX5_countOrphans 22 = .ok (.iload_n 2, 1) := by decide +kernel
theorem dX5_countOrphans_23 : decode cX5_countOrphans 23 = .ok (.iconst 1, 1) := by decide +kernel
theorem dX5_countOrphans_24 : decode cX5_countOrphans 24 = .ok (.iadd, 1) := by decide +kernel
theorem dX5_countOrphans_25 : decode cX5_countOrphans 25 = .ok (.invokevirtual 54, 3) := by decide +kernel
theorem dX5_countOrphans_28 : decode cX5_countOrphans 28 = .ok (.iconst 1, 1) := by decide +kernel
theorem dX5_countOrphans_29 : decode cX5_countOrphans 29 = .ok (.isub, 1) := by decide +kernel
theorem dX5_countOrphans_30 : decode cX5_countOrphans 30 = .ok (.invokevirtual 47, 3) := by decide +kernel
theorem dX5_countOrphans_33 : decode cX5_countOrphans 33 = .ok (.ifCond .eq 6, 3) := by decide +kernel
theorem dX5_countOrphans_36 : decode cX5_countOrphans 36 = .ok (.iinc 1 1, 3) := by decide +kernel
theorem dX5_countOrphans_39 : decode cX5_countOrphans 39 = .ok (.iinc 2 1, 3) := by decide +kernel
theorem dX5_countOrphans_42 : decode cX5_countOrphans 42 = .ok (.goto (-38), 3) := by decide +kernel
theorem dX5_countOrphans_45 : decode cX5_countOrphans 45 = .ok (.iload_n 1, 1) := by decide +kernel
theorem dX5_countOrphans_46 : decode cX5_countOrphans 46 = .ok (.ireturn, 1) := by decide +kernel
theorem dX6_init_0 : decode cX6_init 0 = .ok (.aload_n 0, 1) := by decide +kernel
theorem dX6_init_1 : decode cX6_init 1 = .ok (.invokespecial 1, 3) := by decide +kernel
theorem dX6_init_4 : decode cX6_init 4 = .ok (.aload_n 0, 1) := by decide +kernel
theorem dX6_init_5 : decode cX6_init 5 = .ok (.iload_n 1, 1) := by decide +kernel
theorem dX6_init_6 : decode cX6_init 6 = .ok (.iconst 0, 1) := by decide +kernel
theorem dX6_init_7 : decode cX6_init 7 = .ok (.invokestatic 7, 3) := by decide +kernel
theorem dX6_init_10 : decode cX6_init 10 = .ok (.newarray .int, 2) := by decide +kernel
theorem dX6_init_12 : decode cX6_init 12 = .ok (.putfield 13, 3) := by decide +kernel
theorem dX6_init_15 : decode cX6_init 15 = .ok (.return_, 1) := by decide +kernel
theorem dX6_at_0 : decode cX6_at 0 = .ok (.iload_n 1, 1) := by decide +kernel
theorem dX6_at_1 : decode cX6_at 1 = .ok (.ifCond .lt 21, 3) := by decide +kernel
theorem dX6_at_4 : decode cX6_at 4 = .ok (.iload_n 1, 1) := by decide +kernel
theorem dX6_at_5 : decode cX6_at 5 = .ok (.aload_n 0, 1) := by decide +kernel
theorem dX6_at_6 : decode cX6_at 6 = .ok (.getfield 13, 3) := by decide +kernel
theorem dX6_at_9 : decode cX6_at 9 = .ok (.arraylength, 1) := by decide +kernel
theorem dX6_at_10 : decode cX6_at 10 = .ok (.if_icmp .ge 12, 3) := by decide +kernel
theorem dX6_at_13 : decode cX6_at 13 = .ok (.aload_n 0, 1) := by decide +kernel
theorem dX6_at_14 : decode cX6_at 14 = .ok (.getfield 13, 3) := by decide +kernel
theorem dX6_at_17 : decode cX6_at 17 = .ok (.iload_n 1, 1) := by decide +kernel
theorem dX6_at_18 : decode cX6_at 18 = .ok (.iaload, 1) := by decide +kernel
theorem dX6_at_19 : decode cX6_at 19 = .ok (.goto 4, 3) := by decide +kernel
theorem dX6_at_22 : decode cX6_at 22 = .ok (.iconst 0, 1) := by decide +kernel
theorem dX6_at_23 : decode cX6_at 23 = .ok (.ireturn, 1) := by decide +kernel
theorem dX6_put_0 : decode cX6_put 0 = .ok (.iload_n 1, 1) := by decide +kernel
theorem dX6_put_1 : decode cX6_put 1 = .ok (.ifCond .lt 19, 3) := by decide +kernel
theorem dX6_put_4 : decode cX6_put 4 = .ok (.iload_n 1, 1) := by decide +kernel
theorem dX6_put_5 : decode cX6_put 5 = .ok (.aload_n 0, 1) := by decide +kernel
theorem dX6_put_6 : decode cX6_put 6 = .ok (.getfield 13, 3) := by decide +kernel
theorem dX6_put_9 : decode cX6_put 9 = .ok (.arraylength, 1) := by decide +kernel
theorem dX6_put_10 : decode cX6_put 10 = .ok (.if_icmp .ge 10, 3) := by decide +kernel
theorem dX6_put_13 : decode cX6_put 13 = .ok (.aload_n 0, 1) := by decide +kernel
theorem dX6_put_14 : decode cX6_put 14 = .ok (.getfield 13, 3) := by decide +kernel
theorem dX6_put_17 : decode cX6_put 17 = .ok (.iload_n 1, 1) := by decide +kernel
theorem dX6_put_18 : decode cX6_put 18 = .ok (.iload_n 2, 1) := by decide +kernel
theorem dX6_put_19 : decode cX6_put 19 = .ok (.iastore, 1) := by decide +kernel
theorem dX6_put_20 : decode cX6_put 20 = .ok (.return_, 1) := by decide +kernel
set_option maxRecDepth 20000 in
theorem ggX6_copyFrom_X6_at : GoodIn wsX6_copyFrom wsX6_at := goodIn_r _ [6, 1, 7] (by decide +kernel) (by decide +kernel)
set_option maxRecDepth 20000 in
theorem gX6_copyFrom_X6_at : GoodIn wsX6_copyFrom (wsV RX6 19 RX6 yX6_at wsX6_at) := goodIn_app (goodIn_of _ (by decide +kernel)) ggX6_copyFrom_X6_at
theorem dX6_copyFrom_0 : decode cX6_copyFrom 0 = .ok (.iconst 0, 1) := by decide +kernel
theorem dX6_copyFrom_1 : decode cX6_copyFrom 1 = .ok (.istore_n 2, 1) := by decide +kernel
theorem dX6_copyFrom_2 : decode cX6_copyFrom 2 = .ok (.iload_n 2, 1) := by decide +kernel
theorem dX6_copyFrom_3 : decode cX6_copyFrom 3 = .ok (.aload_n 0, 1) := by decide +kernel
theorem dX6_copyFrom_4 : decode cX6_copyFrom 4 = .ok (.getfield 13, 3) := by decide +kernel
theorem dX6_copyFrom_7 : decode cX6_copyFrom 7 = .ok (.arraylength, 1) := by decide +kernel
theorem dX6_copyFrom_8 : decode cX6_copyFrom 8 = .ok (.if_icmp .ge 20, 3) := by decide +kernel
theorem dX6_copyFrom_11 : decode cX6_copyFrom 11 = .ok (.aload_n 0, 1) := by decide +kernel
theorem dX6_copyFrom_12 : decode cX6_copyFrom 12 = .ok (.getfield 13, 3) := by decide +kernel
theorem dX6_copyFrom_15 : decode cX6_copyFrom 15 = .ok (.iload_n 2, 1) := by decide +kernel
theorem dX6_copyFrom_16 : decode cX6_copyFrom 16 = .ok (.aload_n 1, 1) := by decide +kernel
theorem dX6_copyFrom_17 : decode cX6_copyFrom 17 = .ok (.iload_n 2, 1) := by decide +kernel
theorem dX6_copyFrom_18 : decode cX6_copyFrom 18 = .ok (.invokevirtual 19, 3) := by decide +kernel
theorem dX6_copyFrom_21 : decode cX6_copyFrom 21 = .ok (.iastore, 1) := by decide +kernel
theorem dX6_copyFrom_22 : decode cX6_copyFrom 22 = .ok (.iinc 2 1, 3) := by decide +kernel
theorem dX6_copyFrom_25 : decode cX6_copyFrom 25 = .ok (.goto (-23), 3) := by decide +kernel
theorem dX6_copyFrom_28 : decode cX6_copyFrom 28 = .ok (.return_, 1) := by decide +kernel
set_option maxRecDepth 20000 in
theorem ggX6_putBetween_X6_at : GoodIn wsX6_putBetween wsX6_at := goodIn_r _ [6, 1, 11] (by decide +kernel) (by decide +kernel)
set_option maxRecDepth 20000 in
theorem gX6_putBetween_X6_at : GoodIn wsX6_putBetween (wsV RX6 19 RX6 yX6_at wsX6_at) := goodIn_app (goodIn_of _ (by decide +kernel)) ggX6_putBetween_X6_at
set_option maxRecDepth 20000 in
theorem ggX6_putBetween_X6_put : GoodIn wsX6_putBetween wsX6_put := goodIn_r _ [10, 1, 11] (by decide +kernel) (by decide +kernel)
set_option maxRecDepth 20000 in
theorem gX6_putBetween_X6_put : GoodIn wsX6_putBetween (wsV RX6 23 RX6 yX6_put wsX6_put) := goodIn_app (goodIn_of _ (by decide +kernel)) ggX6_putBetween_X6_put
theorem dX6_putBetween_0 : decode cX6_putBetween 0 = .ok (.aload_n 0, 1) := by decide +kernel
theorem dX6_putBetween_1 : decode cX6_putBetween 1 = .ok (.getfield 13, 3) := by decide +kernel
theorem dX6_putBetween_4 : decode cX6_putBetween 4 = .ok (.arraylength, 1) := by decide +kernel
theorem dX6_putBetween_5 : decode cX6_putBetween 5 = .ok (.iconst 1, 1) := by decide +kernel
theorem dX6_putBetween_6 : decode cX6_putBetween 6 = .ok (.isub, 1) := by decide +kernel
theorem dX6_putBetween_7 : decode cX6_putBetween 7 = .ok (.istore_n 3, 1) := by decide +kernel
theorem dX6_putBetween_8 : decode cX6_putBetween 8 = .ok (.iload_n 3, 1) := by decide +kernel
theorem dX6_putBetween_9 : decode cX6_putBetween 9 = .ok (.iload_n 1, 1) := by decide +kernel
theorem dX6_putBetween_10 : decode cX6_putBetween 10 = .ok (.if_icmp .le 21, 3) := by decide +kernel
theorem dX6_putBetween_13 : decode cX6_putBetween 13 = .ok (.aload_n 0, 1) := by decide +kernel
theorem dX6_putBetween_14 : decode cX6_putBetween 14 = .ok (.iload_n 3, 1) := by decide +kernel
theorem dX6_putBetween_15 : decode cX6_putBetween 15 = .ok (.aload_n 0, 1) := by decide +kernel
theorem dX6_putBetween_16 : decode cX6_putBetween 16 = .ok (.iload_n 3, 1) := by decide +kernel
theorem dX6_putBetween_17 : decode cX6_putBetween 17 = .ok (.iconst 1, 1) := by decide +kernel
theorem dX6_putBetween_18 : decode cX6_putBetween 18 = .ok (.isub, 1) := by decide +kernel
theorem dX6_putBetween_19 : decode cX6_putBetween 19 = .ok (.invokevirtual 19, 3) := by decide +kernel
theorem dX6_putBetween_22 : decode cX6_putBetween 22 = .ok (.invokevirtual 23, 3) := by decide +kernel
theorem dX6_putBetween_25 : decode cX6_putBetween 25 = .ok (.iinc 3 (-1), 3) := by decide +kernel
theorem dX6_putBetween_28 : decode cX6_putBetween 28 = .ok (.goto (-20), 3) := by decide +kernel
theorem dX6_putBetween_31 : decode cX6_putBetween 31 = .ok (.aload_n 0, 1) := by decide +kernel
theorem dX6_putBetween_32 : decode cX6_putBetween 32 = .ok (.iload_n 1, 1) := by decide +kernel
theorem dX6_putBetween_33 : decode cX6_putBetween 33 = .ok (.iload_n 2, 1) := by decide +kernel
theorem dX6_putBetween_34 : decode cX6_putBetween 34 = .ok (.invokevirtual 23, 3) := by decide +kernel
theorem dX6_putBetween_37 : decode cX6_putBetween 37 = .ok (.return_, 1) := by decide +kernel
set_option maxRecDepth 20000 in
theorem ggX6_dropAt_X6_at : GoodIn wsX6_dropAt wsX6_at := goodIn_r _ [6, 1, 11] (by decide +kernel) (by decide +kernel)
set_option maxRecDepth 20000 in
theorem gX6_dropAt_X6_at : GoodIn wsX6_dropAt (wsV RX6 19 RX6 yX6_at wsX6_at) := goodIn_app (goodIn_of _ (by decide +kernel)) ggX6_dropAt_X6_at
set_option maxRecDepth 20000 in
theorem ggX6_dropAt_X6_put : GoodIn wsX6_dropAt wsX6_put := goodIn_r _ [10, 1, 11] (by decide +kernel) (by decide +kernel)
set_option maxRecDepth 20000 in
theorem gX6_dropAt_X6_put : GoodIn wsX6_dropAt (wsV RX6 23 RX6 yX6_put wsX6_put) := goodIn_app (goodIn_of _ (by decide +kernel)) ggX6_dropAt_X6_put
theorem dX6_dropAt_0 : decode cX6_dropAt 0 = .ok (.iload_n 1, 1) := by decide +kernel
theorem dX6_dropAt_1 : decode cX6_dropAt 1 = .ok (.istore_n 2, 1) := by decide +kernel
theorem dX6_dropAt_2 : decode cX6_dropAt 2 = .ok (.iload_n 2, 1) := by decide +kernel
theorem dX6_dropAt_3 : decode cX6_dropAt 3 = .ok (.aload_n 0, 1) := by decide +kernel
theorem dX6_dropAt_4 : decode cX6_dropAt 4 = .ok (.getfield 13, 3) := by decide +kernel
theorem dX6_dropAt_7 : decode cX6_dropAt 7 = .ok (.arraylength, 1) := by decide +kernel
theorem dX6_dropAt_8 : decode cX6_dropAt 8 = .ok (.if_icmp .ge 21, 3) := by decide +kernel
theorem dX6_dropAt_11 : decode cX6_dropAt 11 = .ok (.aload_n 0, 1) := by decide +kernel
theorem dX6_dropAt_12 : decode cX6_dropAt 12 = .ok (.iload_n 2, 1) := by decide +kernel
theorem dX6_dropAt_13 : decode cX6_dropAt 13 = .ok (.aload_n 0, 1) := by decide +kernel
theorem dX6_dropAt_14 : decode cX6_dropAt 14 = .ok (.iload_n 2, 1) := by decide +kernel
theorem dX6_dropAt_15 : decode cX6_dropAt 15 = .ok (.iconst 1, 1) := by decide +kernel
theorem dX6_dropAt_16 : decode cX6_dropAt 16 = .ok (.iadd, 1) := by decide +kernel
theorem dX6_dropAt_17 : decode cX6_dropAt 17 = .ok (.invokevirtual 19, 3) := by decide +kernel
theorem dX6_dropAt_20 : decode cX6_dropAt 20 = .ok (.invokevirtual 23, 3) := by decide +kernel
theorem dX6_dropAt_23 : decode cX6_dropAt 23 = .ok (.iinc 2 1, 3) := by decide +kernel
theorem dX6_dropAt_26 : decode cX6_dropAt 26 = .ok (.goto (-24), 3) := by decide +kernel
theorem dX6_dropAt_29 : decode cX6_dropAt 29 = .ok (.return_, 1) := by decide +kernel
set_option maxRecDepth 20000 in
theorem ggX7_init_X6_init : GoodIn wsX7_init wsX6_init := goodIn_r _ [19, 20, 2, 3, 21, 22, 23, 24, 25, 26, 27] (by decide +kernel) (by decide +kernel)
set_option maxRecDepth 20000 in
theorem gX7_init_X6_init : GoodIn wsX7_init (wsX6_init) := ggX7_init_X6_init
theorem dX7_init_0 : decode cX7_init 0 = .ok (.aload_n 0, 1) := by decide +kernel
theorem dX7_init_1 : decode cX7_init 1 = .ok (.invokespecial 3, 3) := by decide +kernel
theorem dX7_init_4 : decode cX7_init 4 = .ok (.aload_n 0, 1) := by decide +kernel
theorem dX7_init_5 : decode cX7_init 5 = .ok (.new 9, 3) := by decide +kernel
theorem dX7_init_8 : decode cX7_init 8 = .ok (.dup, 1) := by decide +kernel
theorem dX7_init_9 : decode cX7_init 9 = .ok (.bipush 40, 2) := by decide +kernel
theorem dX7_init_11 : decode cX7_init 11 = .ok (.invokespecial 11, 3) := by decide +kernel
theorem dX7_init_14 : decode cX7_init 14 = .ok (.putfield 14, 3) := by decide +kernel
theorem dX7_init_17 : decode cX7_init 17 = .ok (.aload_n 0, 1) := by decide +kernel
theorem dX7_init_18 : decode cX7_init 18 = .ok (.new 9, 3) := by decide +kernel
theorem dX7_init_21 : decode cX7_init 21 = .ok (.dup, 1) := by decide +kernel
theorem dX7_init_22 : decode cX7_init 22 = .ok (.bipush 40, 2) := by decide +kernel
theorem dX7_init_24 : decode cX7_init 24 = .ok (.invokespecial 11, 3) := by decide +kernel
theorem dX7_init_27 : decode cX7_init 27 = .ok (.putfield 20, 3) := by decide +kernel
theorem dX7_init_30 : decode cX7_init 30 = .ok (.aload_n 0, 1) := by decide +kernel
theorem dX7_init_31 : decode cX7_init 31 = .ok (.iconst 0, 1) := by decide +kernel
theorem dX7_init_32 : decode cX7_init 32 = .ok (.putfield 23, 3) := by decide +kernel
theorem dX7_init_35 : decode cX7_init 35 = .ok (.aload_n 0, 1) := by decide +kernel
theorem dX7_init_36 : decode cX7_init 36 = .ok (.bipush 60, 2) := by decide +kernel
theorem dX7_init_38 : decode cX7_init 38 = .ok (.putfield 27, 3) := by decide +kernel
theorem dX7_init_41 : decode cX7_init 41 = .ok (.aload_n 0, 1) := by decide +kernel
theorem dX7_init_42 : decode cX7_init 42 = .ok (.iconst 2, 1) := by decide +kernel
theorem dX7_init_43 : decode cX7_init 43 = .ok (.putfield 30, 3) := by decide +kernel
theorem dX7_init_46 : decode cX7_init 46 = .ok (.aload_n 0, 1) := by decide +kernel
theorem dX7_init_47 : decode cX7_init 47 = .ok (.iconst 3, 1) := by decide +kernel
theorem dX7_init_48 : decode cX7_init 48 = .ok (.putfield 33, 3) := by decide +kernel
theorem dX7_init_51 : decode cX7_init 51 = .ok (.aload_n 0, 1) := by decide +kernel
theorem dX7_init_52 : decode cX7_init 52 = .ok (.sipush 500, 3) := by decide +kernel
theorem dX7_init_55 : decode cX7_init 55 = .ok (.putfield 36, 3) := by decide +kernel
theorem dX7_init_58 : decode cX7_init 58 = .ok (.aload_n 0, 1) := by decide +kernel
theorem dX7_init_59 : decode cX7_init 59 = .ok (.sipush 300, 3) := by decide +kernel
theorem dX7_init_62 : decode cX7_init 62 = .ok (.putfield 39, 3) := by decide +kernel
theorem dX7_init_65 : decode cX7_init 65 = .ok (.aload_n 0, 1) := by decide +kernel
theorem dX7_init_66 : decode cX7_init 66 = .ok (.bipush 6, 2) := by decide +kernel
theorem dX7_init_68 : decode cX7_init 68 = .ok (.putfield 42, 3) := by decide +kernel
theorem dX7_init_71 : decode cX7_init 71 = .ok (.aload_n 0, 1) := by decide +kernel
theorem dX7_init_72 : decode cX7_init 72 = .ok (.iconst 1, 1) := by decide +kernel
theorem dX7_init_73 : decode cX7_init 73 = .ok (.putfield 45, 3) := by decide +kernel
theorem dX7_init_76 : decode cX7_init 76 = .ok (.return_, 1) := by decide +kernel
set_option maxRecDepth 20000 in
theorem ggX7_copyFrom_X6_copyFrom : GoodIn wsX7_copyFrom wsX6_copyFrom := goodIn_r _ [15, 16, 17, 18, 19, 14, 20, 31] (by decide +kernel) (by decide +kernel)
set_option maxRecDepth 20000 in
theorem gX7_copyFrom_X6_copyFrom : GoodIn wsX7_copyFrom (wsV RX7 49 RX6 yX6_copyFrom wsX6_copyFrom) := goodIn_app (goodIn_of _ (by decide +kernel)) ggX7_copyFrom_X6_copyFrom
theorem dX7_copyFrom_0 : decode cX7_copyFrom 0 = .ok (.aload_n 0, 1) := by decide +kernel
theorem dX7_copyFrom_1 : decode cX7_copyFrom 1 = .ok (.getfield 14, 3) := by decide +kernel
theorem dX7_copyFrom_4 : decode cX7_copyFrom 4 = .ok (.aload_n 1, 1) := by decide +kernel
theorem dX7_copyFrom_5 : decode cX7_copyFrom 5 = .ok (.getfield 14, 3) := by decide +kernel
theorem dX7_copyFrom_8 : decode cX7_copyFrom 8 = .ok (.invokevirtual 49, 3) := by decide +kernel
theorem dX7_copyFrom_11 : decode cX7_copyFrom 11 = .ok (.aload_n 0, 1) := by decide +kernel
theorem dX7_copyFrom_12 : decode cX7_copyFrom 12 = .ok (.getfield 20, 3) := by decide +kernel
theorem dX7_copyFrom_15 : decode cX7_copyFrom 15 = .ok (.aload_n 1, 1) := by decide +kernel
theorem dX7_copyFrom_16 : decode cX7_copyFrom 16 = .ok (.getfield 20, 3) := by decide +kernel
theorem dX7_copyFrom_19 : decode cX7_copyFrom 19 = .ok (.invokevirtual 49, 3) := by decide +kernel
theorem dX7_copyFrom_22 : decode cX7_copyFrom 22 = .ok (.aload_n 0, 1) := by decide +kernel
theorem dX7_copyFrom_23 : decode cX7_copyFrom 23 = .ok (.aload_n 1, 1) := by decide +kernel
theorem dX7_copyFrom_24 : decode cX7_copyFrom 24 = .ok (.getfield 23, 3) := by decide +kernel
theorem dX7_copyFrom_27 : decode cX7_copyFrom 27 = .ok (.putfield 23, 3) := by decide +kernel
theorem dX7_copyFrom_30 : decode cX7_copyFrom 30 = .ok (.aload_n 0, 1) := by decide +kernel
theorem dX7_copyFrom_31 : decode cX7_copyFrom 31 = .ok (.aload_n 1, 1) := by decide +kernel
theorem dX7_copyFrom_32 : decode cX7_copyFrom 32 = .ok (.getfield 27, 3) := by decide +kernel
theorem dX7_copyFrom_35 : decode cX7_copyFrom 35 = .ok (.putfield 27, 3) := by decide +kernel
theorem dX7_copyFrom_38 : decode cX7_copyFrom 38 = .ok (.aload_n 0, 1) := by decide +kernel
theorem dX7_copyFrom_39 : decode cX7_copyFrom 39 = .ok (.aload_n 1, 1) := by decide +kernel
theorem dX7_copyFrom_40 : decode cX7_copyFrom 40 = .ok (.getfield 30, 3) := by decide +kernel
theorem dX7_copyFrom_43 : decode cX7_copyFrom 43 = .ok (.putfield 30, 3) := by decide +kernel
theorem dX7_copyFrom_46 : decode cX7_copyFrom 46 = .ok (.aload_n 0, 1) := by decide +kernel
theorem dX7_copyFrom_47 : decode cX7_copyFrom 47 = .ok (.aload_n 1, 1) := by decide +kernel
theorem dX7_copyFrom_48 : decode cX7_copyFrom 48 = .ok (.getfield 33, 3) := by decide +kernel
theorem dX7_copyFrom_51 : decode cX7_copyFrom 51 = .ok (.putfield 33, 3) := by decide +kernel
theorem dX7_copyFrom_54 : decode cX7_copyFrom 54 = .ok (.aload_n 0, 1) := by decide +kernel
theorem dX7_copyFrom_55 : decode cX7_copyFrom 55 = .ok (.aload_n 1, 1) := by decide +kernel
theorem dX7_copyFrom_56 : decode cX7_copyFrom 56 = .ok (.getfield 36, 3) := by decide +kernel
theorem dX7_copyFrom_59 : decode cX7_copyFrom 59 = .ok (.putfield 36, 3) := by decide +kernel
theorem dX7_copyFrom_62 : decode cX7_copyFrom 62 = .ok (.aload_n 0, 1) := by decide +kernel
theorem dX7_copyFrom_63 : decode cX7_copyFrom 63 = .ok (.aload_n 1, 1) := by decide +kernel
theorem dX7_copyFrom_64 : decode cX7_copyFrom 64 = .ok (.getfield 39, 3) := by decide +kernel
theorem dX7_copyFrom_67 : decode cX7_copyFrom 67 = .ok (.putfield 39, 3) := by decide +kernel
theorem dX7_copyFrom_70 : decode cX7_copyFrom 70 = .ok (.aload_n 0, 1) := by decide +kernel
theorem dX7_copyFrom_71 : decode cX7_copyFrom 71 = .ok (.aload_n 1, 1) := by decide +kernel
theorem dX7_copyFrom_72 : decode cX7_copyFrom 72 = .ok (.getfield 42, 3) := by decide +kernel
theorem dX7_copyFrom_75 : decode cX7_copyFrom 75 = .ok (.putfield 42, 3) := by decide +kernel
theorem dX7_copyFrom_78 : decode cX7_copyFrom 78 = .ok (.aload_n 0, 1) := by decide +kernel
theorem dX7_copyFrom_79 : decode cX7_copyFrom 79 = .ok (.aload_n 1, 1) := by decide +kernel
theorem dX7_copyFrom_80 : decode cX7_copyFrom 80 = .ok (.getfield 45, 3) := by decide +kernel
theorem dX7_copyFrom_83 : decode cX7_copyFrom 83 = .ok (.putfield 45, 3) := by decide +kernel
theorem dX7_copyFrom_86 : decode cX7_copyFrom 86 = .ok (.return_, 1) := by decide +kernel
set_option maxRecDepth 20000 in
theorem ggX7_putWord_X6_putBetween : GoodIn wsX7_putWord wsX6_putBetween := goodIn_r _ [8, 9, 10, 11, 12, 7, 13, 14, 15, 16, 17, 28] (by decide +kernel) (by decide +kernel)
set_option maxRecDepth 20000 in
theorem gX7_putWord_X6_putBetween : GoodIn wsX7_putWord (wsV RX7 53 RX6 yX6_putBetween wsX6_putBetween) := goodIn_app (goodIn_of _ (by decide +kernel)) ggX7_putWord_X6_putBetween
theorem dX7_putWord_0 : decode cX7_putWord 0 = .ok (.aload_n 0, 1) := by decide +kernel
theorem dX7_putWord_1 : decode cX7_putWord 1 = .ok (.getfield 23, 3) := by decide +kernel
theorem dX7_putWord_4 : decode cX7_putWord 4 = .ok (.bipush 40, 2) := by decide +kernel
theorem dX7_putWord_6 : decode cX7_putWord 6 = .ok (.if_icmp .ge 31, 3) := by decide +kernel
theorem dX7_putWord_9 : decode cX7_putWord 9 = .ok (.aload_n 0, 1) := by decide +kernel
theorem dX7_putWord_10 : decode cX7_putWord 10 = .ok (.getfield 14, 3) := by decide +kernel
theorem dX7_putWord_13 : decode cX7_putWord 13 = .ok (.iload_n 1, 1) := by decide +kernel
theorem dX7_putWord_14 : decode cX7_putWord 14 = .ok (.iload_n 2, 1) := by decide +kernel
theorem dX7_putWord_15 : decode cX7_putWord 15 = .ok (.invokevirtual 53, 3) := by decide +kernel
theorem dX7_putWord_18 : decode cX7_putWord 18 = .ok (.aload_n 0, 1) := by decide +kernel
theorem dX7_putWord_19 : decode cX7_putWord 19 = .ok (.getfield 20, 3) := by decide +kernel
theorem dX7_putWord_22 : decode cX7_putWord 22 = .ok (.iload_n 1, 1) := by decide +kernel
theorem dX7_putWord_23 : decode cX7_putWord 23 = .ok (.iload_n 3, 1) := by decide +kernel
theorem dX7_putWord_24 : decode cX7_putWord 24 = .ok (.invokevirtual 53, 3) := by decide +kernel
theorem dX7_putWord_27 : decode cX7_putWord 27 = .ok (.aload_n 0, 1) := by decide +kernel
theorem dX7_putWord_28 : decode cX7_putWord 28 = .ok (.dup, 1) := by decide +kernel
theorem dX7_putWord_29 : decode cX7_putWord 29 = .ok (.getfield 23, 3) := by decide +kernel
theorem dX7_putWord_32 : decode cX7_putWord 32 = .ok (.iconst 1, 1) := by decide +kernel
theorem dX7_putWord_33 : decode cX7_putWord 33 = .ok (.iadd, 1) := by decide +kernel
theorem dX7_putWord_34 : decode cX7_putWord 34 = .ok (.putfield 23, 3) := by decide +kernel
theorem dX7_putWord_37 : decode cX7_putWord 37 = .ok (.return_, 1) := by decide +kernel
set_option maxRecDepth 20000 in
theorem ggX7_dropWord_X6_dropAt : GoodIn wsX7_dropWord wsX6_dropAt := goodIn_r _ [8, 9, 10, 11, 12, 7, 13, 14, 15, 16, 17, 28] (by decide +kernel) (by decide +kernel)
set_option maxRecDepth 20000 in
theorem gX7_dropWord_X6_dropAt : GoodIn wsX7_dropWord (wsV RX7 57 RX6 yX6_dropAt wsX6_dropAt) := goodIn_app (goodIn_of _ (by decide +kernel)) ggX7_dropWord_X6_dropAt
theorem dX7_dropWord_0 : decode cX7_dropWord 0 = .ok (.aload_n 0, 1) := by decide +kernel
theorem dX7_dropWord_1 : decode cX7_dropWord 1 = .ok (.getfield 23, 3) := by decide +kernel
theorem dX7_dropWord_4 : decode cX7_dropWord 4 = .ok (.ifCond .le 29, 3) := by decide +kernel
theorem dX7_dropWord_7 : decode cX7_dropWord 7 = .ok (.aload_n 0, 1) := by decide +kernel
theorem dX7_dropWord_8 : decode cX7_dropWord 8 = .ok (.getfield 14, 3) := by decide +kernel
theorem dX7_dropWord_11 : decode cX7_dropWord 11 = .ok (.iload_n 1, 1) := by decide +kernel
theorem dX7_dropWord_12 : decode cX7_dropWord 12 = .ok (.invokevirtual 57, 3) := by decide +kernel
theorem dX7_dropWord_15 : decode cX7_dropWord 15 = .ok (.aload_n 0, 1) := by decide +kernel
theorem dX7_dropWord_16 : decode cX7_dropWord 16 = .ok (.getfield 20, 3) := by decide +kernel
theorem dX7_dropWord_19 : decode cX7_dropWord 19 = .ok (.iload_n 1, 1) := by decide +kernel
theorem dX7_dropWord_20 : decode cX7_dropWord 20 = .ok (.invokevirtual 57, 3) := by decide +kernel
theorem dX7_dropWord_23 : decode cX7_dropWord 23 = .ok (.aload_n 0, 1) := by decide +kernel
theorem dX7_dropWord_24 : decode cX7_dropWord 24 = .ok (.dup, 1) := by decide +kernel
theorem dX7_dropWord_25 : decode cX7_dropWord 25 = .ok (.getfield 23, 3) := by decide +kernel
theorem dX7_dropWord_28 : decode cX7_dropWord 28 = .ok (.iconst 1, 1) := by decide +kernel
theorem dX7_dropWord_29 : decode cX7_dropWord 29 = .ok (.isub, 1) := by decide +kernel
theorem dX7_dropWord_30 : decode cX7_dropWord 30 = .ok (.putfield 23, 3) := by decide +kernel
theorem dX7_dropWord_33 : decode cX7_dropWord 33 = .ok (.return_, 1) := by decide +kernel
set_option maxRecDepth 20000 in
theorem ggX7_endsParagraph_X6_at : GoodIn wsX7_endsParagraph wsX6_at := goodIn_r _ [7, 8, 19] (by decide +kernel) (by decide +kernel)
set_option maxRecDepth 20000 in
theorem gX7_endsParagraph_X6_at : GoodIn wsX7_endsParagraph (wsV RX7 60 RX6 yX6_at wsX6_at) := goodIn_app (goodIn_of _ (by decide +kernel)) ggX7_endsParagraph_X6_at
theorem dX7_endsParagraph_0 : decode cX7_endsParagraph 0 = .ok (.aload_n 0, 1) := by decide +kernel
theorem dX7_endsParagraph_1 : decode cX7_endsParagraph 1 = .ok (.getfield 20, 3) := by decide +kernel
theorem dX7_endsParagraph_4 : decode cX7_endsParagraph 4 = .ok (.iload_n 1, 1) := by decide +kernel
theorem dX7_endsParagraph_5 : decode cX7_endsParagraph 5 = .ok (.invokevirtual 60, 3) := by decide +kernel
theorem dX7_endsParagraph_8 : decode cX7_endsParagraph 8 = .ok (.iconst 2, 1) := by decide +kernel
theorem dX7_endsParagraph_9 : decode cX7_endsParagraph 9 = .ok (.if_icmp .eq 13, 3) := by decide +kernel
theorem dX7_endsParagraph_12 : decode cX7_endsParagraph 12 = .ok (.iload_n 1, 1) := by decide +kernel
theorem dX7_endsParagraph_13 : decode cX7_endsParagraph 13 = .ok (.aload_n 0, 1) := by decide +kernel
theorem dX7_endsParagraph_14 : decode cX7_endsParagraph 14 = .ok (.getfield 23, 3) := by decide +kernel
theorem dX7_endsParagraph_17 : decode cX7_endsParagraph 17 = .ok (.iconst 1, 1) := by decide +kernel
theorem dX7_endsParagraph_18 : decode cX7_endsParagraph 18 = .ok (.isub, 1) := by decide +kernel
theorem dX7_endsParagraph_19 : decode cX7_endsParagraph 19 = .ok (.if_icmp .ne 7, 3) := by decide +kernel
theorem dX7_endsParagraph_22 : decode cX7_endsParagraph 22 = .ok (.iconst 1, 1) := by decide +kernel
theorem dX7_endsParagraph_23 : decode cX7_endsParagraph 23 = .ok (.goto 4, 3) := by decide +kernel
theorem dX7_endsParagraph_26 : decode cX7_endsParagraph 26 = .ok (.iconst 0, 1) := by decide +kernel
theorem dX7_endsParagraph_27 : decode cX7_endsParagraph 27 = .ok (.ireturn, 1) := by decide +kernel
set_option maxRecDepth 20000 in
theorem ggX7_countParagraphs_X7_endsParagraph : GoodIn wsX7_countParagraphs wsX7_endsParagraph := goodIn_r _ [6, 7, 1, 8, 9, 10, 11, 12, 13, 14, 15, 16, 17, 18, 19, 20, 21, 22, 23, 24] (by decide +kernel) (by decide +kernel)
set_option maxRecDepth 20000 in
theorem gX7_countParagraphs_X7_endsParagraph : GoodIn wsX7_countParagraphs (wsV RX7 64 RX7 yX7_endsParagraph wsX7_endsParagraph) := goodIn_app (goodIn_of _ (by decide +kernel)) ggX7_countParagraphs_X7_endsParagraph
theorem dX7_countParagraphs_0 : decode cX7_countParagraphs 0 = .ok (.iconst 0, 1) := by decide +kernel
theorem dX7_countParagraphs_1 : decode cX7_countParagraphs 1 = .ok (.istore_n 1, 1) := by decide +kernel
theorem dX7_countParagraphs_2 : decode cX7_countParagraphs 2 = .ok (.iconst 0, 1) := by decide +kernel
theorem dX7_countParagraphs_3 : decode cX7_countParagraphs 3 = .ok (.istore_n 2, 1) := by decide +kernel
theorem dX7_countParagraphs_4 : decode cX7_countParagraphs 4 = .ok (.iload_n 2, 1) := by decide +kernel
theorem dX7_countParagraphs_5 : decode cX7_countParagraphs 5 = .ok (.aload_n 0, 1) := by decide +kernel
theorem dX7_countParagraphs_6 : decode cX7_countParagraphs 6 = .ok (.getfield 23, 3) := by decide +kernel
theorem dX7_countParagraphs_9 : decode cX7_countParagraphs 9 = .ok (.if_icmp .ge 20, 3) := by decide +kernel
theorem dX7_countParagraphs_12 : decode cX7_countParagraphs 12 = .ok (.aload_n 0, 1) := by decide +kernel
theorem dX7_countParagraphs_13 : decode cX7_countParagraphs 13 = .ok (.iload_n 2, 1) := by decide +kernel
theorem dX7_countParagraphs_14 : decode cX7_countParagraphs 14 = .ok (.invokevirtual 64, 3) := by decide +kernel
theorem dX7_countParagraphs_17 : decode cX7_countParagraphs 17 = .ok (.ifCond .eq 6, 3) := by decide +kernel
theorem dX7_countParagraphs_20 : decode cX7_countParagraphs 20 = .ok (.iinc 1 1, 3) := by decide +kernel
theorem dX7_countParagraphs_23 : decode cX7_countParagraphs 23 = .ok (.iinc 2 1, 3) := by decide +kernel
theorem dX7_countParagraphs_26 : decode cX7_countParagraphs 26 = .ok (.goto (-22), 3) := by decide +kernel
theorem dX7_countParagraphs_29 : decode cX7_countParagraphs 29 = .ok (.iload_n 1, 1) := by decide +kernel
theorem dX7_countParagraphs_30 : decode cX7_countParagraphs 30 = .ok (.ireturn, 1) := by decide +kernel
theorem dX7_slackCost_0 : decode cX7_slackCost 0 = .ok (.aload_n 0, 1) := by decide +kernel
theorem dX7_slackCost_1 : decode cX7_slackCost 1 = .ok (.getfield 27, 3) := by decide +kernel
theorem dX7_slackCost_4 : decode cX7_slackCost 4 = .ok (.iload_n 1, 1) := by decide +kernel
theorem dX7_slackCost_5 : decode cX7_slackCost 5 = .ok (.isub, 1) := by decide +kernel
theorem dX7_slackCost_6 : decode cX7_slackCost 6 = .ok (.istore_n 2, 1) := by decide +kernel
theorem dX7_slackCost_7 : decode cX7_slackCost 7 = .ok (.iload_n 2, 1) := by decide +kernel
theorem dX7_slackCost_8 : decode cX7_slackCost 8 = .ok (.iload_n 2, 1) := by decide +kernel
theorem dX7_slackCost_9 : decode cX7_slackCost 9 = .ok (.imul, 1) := by decide +kernel
theorem dX7_slackCost_10 : decode cX7_slackCost 10 = .ok (.ireturn, 1) := by decide +kernel
theorem dX7_lastLineCost_0 : decode cX7_lastLineCost 0 = .ok (.iload_n 2, 1) := by decide +kernel
theorem dX7_lastLineCost_1 : decode cX7_lastLineCost 1 = .ok (.ifCond .ne 20, 3) := by decide +kernel
theorem dX7_lastLineCost_4 : decode cX7_lastLineCost 4 = .ok (.iconst 4, 1) := by decide +kernel
theorem dX7_lastLineCost_5 : decode cX7_lastLineCost 5 = .ok (.iload_n 1, 1) := by decide +kernel
theorem dX7_lastLineCost_6 : decode cX7_lastLineCost 6 = .ok (.imul, 1) := by decide +kernel
theorem dX7_lastLineCost_7 : decode cX7_lastLineCost 7 = .ok (.aload_n 0, 1) := by decide +kernel
theorem dX7_lastLineCost_8 : decode cX7_lastLineCost 8 = .ok (.getfield 27, 3) := by decide +kernel
theorem dX7_lastLineCost_11 : decode cX7_lastLineCost 11 = .ok (.if_icmp .ge 10, 3) := by decide +kernel
theorem dX7_lastLineCost_14 : decode cX7_lastLineCost 14 = .ok (.aload_n 0, 1) := by decide +kernel
theorem dX7_lastLineCost_15 : decode cX7_lastLineCost 15 = .ok (.getfield 39, 3) := by decide +kernel
theorem dX7_lastLineCost_18 : decode cX7_lastLineCost 18 = .ok (.goto 4, 3) := by decide +kernel
theorem dX7_lastLineCost_21 : decode cX7_lastLineCost 21 = .ok (.iconst 0, 1) := by decide +kernel
theorem dX7_lastLineCost_22 : decode cX7_lastLineCost 22 = .ok (.ireturn, 1) := by decide +kernel
theorem dX7_turn_0 : decode cX7_turn 0 = .ok (.iload_n 2, 1) := by decide +kernel
theorem dX7_turn_1 : decode cX7_turn 1 = .ok (.iload_n 1, 1) := by decide +kernel
theorem dX7_turn_2 : decode cX7_turn 2 = .ok (.aload_n 0, 1) := by decide +kernel
theorem dX7_turn_3 : decode cX7_turn 3 = .ok (.getfield 33, 3) := by decide +kernel
theorem dX7_turn_6 : decode cX7_turn 6 = .ok (.isub, 1) := by decide +kernel
theorem dX7_turn_7 : decode cX7_turn 7 = .ok (.if_icmp .gt 5, 3) := by decide +kernel
theorem dX7_turn_10 : decode cX7_turn 10 = .ok (.iconst (-1), 1) := by decide +kernel
theorem dX7_turn_11 : decode cX7_turn 11 = .ok (.ireturn, 1) := by decide +kernel
theorem dX7_turn_12 : decode cX7_turn 12 = .ok (.iload_n 2, 1) := by decide +kernel
theorem dX7_turn_13 : decode cX7_turn 13 = .ok (.iload_n 1, 1) := by decide +kernel
theorem dX7_turn_14 : decode cX7_turn 14 = .ok (.aload_n 0, 1) := by decide +kernel
theorem dX7_turn_15 : decode cX7_turn 15 = .ok (.getfield 33, 3) := by decide +kernel
theorem dX7_turn_18 : decode cX7_turn 18 = .ok (.iadd, 1) := by decide +kernel
theorem dX7_turn_19 : decode cX7_turn 19 = .ok (.if_icmp .lt 7, 3) := by decide +kernel
theorem dX7_turn_22 : decode cX7_turn 22 = .ok (.iconst 1, 1) := by decide +kernel
theorem dX7_turn_23 : decode cX7_turn 23 = .ok (.goto 4, 3) := by decide +kernel
theorem dX7_turn_26 : decode cX7_turn 26 = .ok (.iconst 0, 1) := by decide +kernel
theorem dX7_turn_27 : decode cX7_turn 27 = .ok (.ireturn, 1) := by decide +kernel
set_option maxRecDepth 20000 in
theorem ggX8_init_X7_init : GoodIn wsX8_init wsX7_init := goodIn_r _ [28, 29, 2, 3, 30, 31, 32, 33, 34, 35, 36, 37, 38, 39, 40, 41, 42, 43, 44, 45, 46, 47, 48, 49, 50, 51, 52, 155, 119, 120, 121, 122, 123, 124, 125, 126, 127, 128] (by decide +kernel) (by decide +kernel)
set_option maxRecDepth 20000 in
theorem gX8_init_X7_init_n9 : GoodIn wsX8_init (wsX7_init) := ggX8_init_X7_init
set_option maxRecDepth 20000 in
theorem ggX8_init_X3_init : GoodIn wsX8_init wsX3_init := goodIn_r _ [55, 56, 2, 3, 57, 31, 32, 58, 59, 60, 61, 62, 63, 64, 65, 66, 67, 68, 69, 70, 44, 45, 46, 47, 48, 49, 50, 51, 52, 71, 72, 73, 74, 75, 76, 77, 78, 79, 80, 81, 82, 83, 84, 85, 86, 87, 88, 89, 90, 155, 137, 138, 139, 140, 141, 142, 156, 157, 158, 159, 160, 161, 162, 163] (by decide +kernel) (by decide +kernel)
set_option maxRecDepth 20000 in
theorem gX8_init_X3_init : GoodIn wsX8_init (wsX3_init) := ggX8_init_X3_init
set_option maxRecDepth 20000 in
theorem ggX8_init_X5_init : GoodIn wsX8_init wsX5_init := goodIn_r _ [93, 94, 2, 3, 95, 31, 32, 96, 97, 98, 99, 100, 101, 44, 45, 46, 47, 48, 49, 50, 51, 52, 155, 143, 144, 145, 146, 147] (by decide +kernel) (by decide +kernel)
set_option maxRecDepth 20000 in
theorem gX8_init_X5_init : GoodIn wsX8_init (wsX5_init) := ggX8_init_X5_init
set_option maxRecDepth 20000 in
theorem ggX8_init_X0_init : GoodIn wsX8_init wsX0_init := goodIn_r _ [103, 104, 2, 3, 105, 31, 32, 106, 107, 108, 109, 110, 111, 44, 45, 46, 47, 48, 49, 50, 51, 52, 155, 148, 149, 150, 151, 152] (by decide +kernel) (by decide +kernel)
set_option maxRecDepth 20000 in
theorem gX8_init_X0_init_n42 : GoodIn wsX8_init (wsX0_init) := ggX8_init_X0_init
set_option maxRecDepth 20000 in
theorem ggX8_init_X2_init : GoodIn wsX8_init wsX2_init := goodIn_r _ [114, 115, 2, 3, 116, 117, 118, 5, 6, 27, 28, 29, 30, 31, 32, 33, 34, 35, 36, 37, 38, 39, 40, 41, 42, 43, 44, 45, 46, 47, 48, 49, 50, 51, 52, 153, 154, 119, 120, 121, 122, 123, 124, 125, 126, 127, 128, 155] (by decide +kernel) (by decide +kernel)
set_option maxRecDepth 20000 in
theorem gX8_init_X2_init : GoodIn wsX8_init (wsX2_init) := ggX8_init_X2_init
theorem dX8_init_0 : decode cX8_init 0 = .ok (.aload_n 0, 1) := by decide +kernel
theorem dX8_init_1 : decode cX8_init 1 = .ok (.invokespecial 1, 3) := by decide +kernel
theorem dX8_init_4 : decode cX8_init 4 = .ok (.aload_n 0, 1) := by decide +kernel
theorem dX8_init_5 : decode cX8_init 5 = .ok (.new 7, 3) := by decide +kernel
theorem dX8_init_8 : decode cX8_init 8 = .ok (.dup, 1) := by decide +kernel
theorem dX8_init_9 : decode cX8_init 9 = .ok (.invokespecial 9, 3) := by decide +kernel
theorem dX8_init_12 : decode cX8_init 12 = .ok (.putfield 10, 3) := by decide +kernel
theorem dX8_init_15 : decode cX8_init 15 = .ok (.aload_n 0, 1) := by decide +kernel
theorem dX8_init_16 : decode cX8_init 16 = .ok (.new 16, 3) := by decide +kernel
theorem dX8_init_19 : decode cX8_init 19 = .ok (.dup, 1) := by decide +kernel
theorem dX8_init_20 : decode cX8_init 20 = .ok (.aload_n 0, 1) := by decide +kernel
theorem dX8_init_21 : decode cX8_init 21 = .ok (.getfield 10, 3) := by decide +kernel
theorem dX8_init_24 : decode cX8_init 24 = .ok (.invokespecial 18, 3) := by decide +kernel
theorem dX8_init_27 : decode cX8_init 27 = .ok (.putfield 21, 3) := by decide +kernel
theorem dX8_init_30 : decode cX8_init 30 = .ok (.aload_n 0, 1) := by decide +kernel
theorem dX8_init_31 : decode cX8_init 31 = .ok (.new 25, 3) := by decide +kernel
theorem dX8_init_34 : decode cX8_init 34 = .ok (.dup, 1) := by decide +kernel
theorem dX8_init_35 : decode cX8_init 35 = .ok (.aload_n 0, 1) := by decide +kernel
theorem dX8_init_36 : decode cX8_init 36 = .ok (.getfield 10, 3) := by decide +kernel
theorem dX8_init_39 : decode cX8_init 39 = .ok (.aload_n 0, 1) := by decide +kernel
theorem dX8_init_40 : decode cX8_init 40 = .ok (.getfield 21, 3) := by decide +kernel
theorem dX8_init_43 : decode cX8_init 43 = .ok (.invokespecial 27, 3) := by decide +kernel
theorem dX8_init_46 : decode cX8_init 46 = .ok (.putfield 30, 3) := by decide +kernel
theorem dX8_init_49 : decode cX8_init 49 = .ok (.aload_n 0, 1) := by decide +kernel
theorem dX8_init_50 : decode cX8_init 50 = .ok (.new 7, 3) := by decide +kernel
theorem dX8_init_53 : decode cX8_init 53 = .ok (.dup, 1) := by decide +kernel
theorem dX8_init_54 : decode cX8_init 54 = .ok (.invokespecial 9, 3) := by decide +kernel
theorem dX8_init_57 : decode cX8_init 57 = .ok (.putfield 34, 3) := by decide +kernel
theorem dX8_init_60 : decode cX8_init 60 = .ok (.aload_n 0, 1) := by decide +kernel
theorem dX8_init_61 : decode cX8_init 61 = .ok (.new 16, 3) := by decide +kernel
theorem dX8_init_64 : decode cX8_init 64 = .ok (.dup, 1) := by decide +kernel
theorem dX8_init_65 : decode cX8_init 65 = .ok (.aload_n 0, 1) := by decide +kernel
theorem dX8_init_66 : decode cX8_init 66 = .ok (.getfield 34, 3) := by decide +kernel
theorem dX8_init_69 : decode cX8_init 69 = .ok (.invokespecial 18, 3) := by decide +kernel
theorem dX8_init_72 : decode cX8_init 72 = .ok (.putfield 37, 3) := by decide +kernel
theorem dX8_init_75 : decode cX8_init 75 = .ok (.aload_n 0, 1) := by decide +kernel
theorem dX8_init_76 : decode cX8_init 76 = .ok (.new 40, 3) := by decide +kernel
theorem dX8_init_79 : decode cX8_init 79 = .ok (.dup, 1) := by decide +kernel
theorem dX8_init_80 : decode cX8_init 80 = .ok (.invokespecial 42, 3) := by decide +kernel
theorem dX8_init_83 : decode cX8_init 83 = .ok (.putfield 43, 3) := by decide +kernel
theorem dX8_init_86 : decode cX8_init 86 = .ok (.aload_n 0, 1) := by decide +kernel
theorem dX8_init_87 : decode cX8_init 87 = .ok (.new 47, 3) := by decide +kernel
theorem dX8_init_90 : decode cX8_init 90 = .ok (.dup, 1) := by decide +kernel
theorem dX8_init_91 : decode cX8_init 91 = .ok (.invokespecial 49, 3) := by decide +kernel
theorem dX8_init_94 : decode cX8_init 94 = .ok (.putfield 50, 3) := by decide +kernel
theorem dX8_init_97 : decode cX8_init 97 = .ok (.aload_n 0, 1) := by decide +kernel
theorem dX8_init_98 : decode cX8_init 98 = .ok (.iconst 1, 1) := by decide +kernel
theorem dX8_init_99 : decode cX8_init 99 = .ok (.putfield 54, 3) := by decide +kernel
theorem dX8_init_102 : decode cX8_init 102 = .ok (.return_, 1) := by decide +kernel
set_option maxRecDepth 20000 in
theorem ggX8_insert_X8_requireIndex : GoodIn wsX8_insert wsX8_requireIndex := goodIn_ca (goodIn_r _ [7, 8, 9] (by decide +kernel) (by decide +kernel)) (goodIn_sub (fun _ h => List.mem_cons_of_mem _ (List.mem_append_left _ (List.mem_append_right _ h))) (by decide +kernel))
set_option maxRecDepth 20000 in
theorem gX8_insert_X8_requireIndex : GoodIn wsX8_insert (va_wsS RX8 62 yX8_requireIndex wsX8_requireIndex) := goodIn_app (goodIn_of _ (by decide +kernel)) ggX8_insert_X8_requireIndex
set_option maxRecDepth 20000 in
theorem ggX8_insert_X8_requireRange : GoodIn wsX8_insert wsX8_requireRange := goodIn_ca (goodIn_r _ [12, 13, 14] (by decide +kernel) (by decide +kernel)) (goodIn_sub (fun _ h => List.mem_cons_of_mem _ (List.mem_append_right _ h)) (by decide +kernel))
set_option maxRecDepth 20000 in
theorem gX8_insert_X8_requireRange : GoodIn wsX8_insert (va_wsS RX8 66 yX8_requireRange wsX8_requireRange) := goodIn_app (goodIn_of _ (by decide +kernel)) ggX8_insert_X8_requireRange
set_option maxRecDepth 20000 in
theorem ggX8_insert_X8_prepareChange : GoodIn wsX8_insert wsX8_prepareChange := goodIn_r _ [18, 19, 3, 20, 21, 22, 23, 24, 25, 26, 27, 28, 29, 30, 31, 32, 33, 34, 35, 36, 37, 38, 39, 40, 41, 42, 43, 44, 45, 46, 47, 48, 49, 50, 51, 52, 53, 54, 55, 56, 57, 58, 59, 60, 73, 74, 75, 76, 77, 78, 79, 80, 91, 92, 81, 82, 83, 84, 85, 86, 87, 88, 89, 90, 93] (by decide +kernel) (by decide +kernel)
set_option maxRecDepth 20000 in
theorem gX8_insert_X8_prepareChange : GoodIn wsX8_insert (wsV RX8 77 RX8 yX8_prepareChange wsX8_prepareChange) := goodIn_app (goodIn_of _ (by decide +kernel)) ggX8_insert_X8_prepareChange
set_option maxRecDepth 20000 in
theorem ggX8_insert_X7_putWord : GoodIn wsX8_insert wsX7_putWord := goodIn_r _ [64, 43, 41, 42, 65, 66, 67, 54, 68, 56, 57, 58, 59, 60, 69, 70, 71, 72, 81, 82, 83, 84, 85, 86, 87, 88, 89, 90, 93] (by decide +kernel) (by decide +kernel)
set_option maxRecDepth 20000 in
theorem gX8_insert_X7_putWord : GoodIn wsX8_insert (wsV RX8 80 RX7 yX7_putWord wsX7_putWord) := goodIn_app (goodIn_of _ (by decide +kernel)) ggX8_insert_X7_putWord
theorem dX8_insert_0 : decode cX8_insert 0 = .ok (.iload_n 1, 1) := by decide +kernel
theorem dX8_insert_1 : decode cX8_insert 1 = .ok (.aload_n 0, 1) := by decide +kernel
theorem dX8_insert_2 : decode cX8_insert 2 = .ok (.getfield 10, 3) := by decide +kernel
theorem dX8_insert_5 : decode cX8_insert 5 = .ok (.getfield 58, 3) := by decide +kernel
theorem dX8_insert_8 : decode cX8_insert 8 = .ok (.iconst 1, 1) := by decide +kernel
theorem dX8_insert_9 : decode cX8_insert 9 = .ok (.iadd, 1) := by decide +kernel
theorem dX8_insert_10 : decode cX8_insert 10 = .ok (.invokestatic 62, 3) := by decide +kernel
theorem dX8_insert_13 : decode cX8_insert 13 = .ok (.iload_n 2, 1) := by decide +kernel
theorem dX8_insert_14 : decode cX8_insert 14 = .ok (.iconst 1, 1) := by decide +kernel
theorem dX8_insert_15 : decode cX8_insert 15 = .ok (.bipush 30, 2) := by decide +kernel
theorem dX8_insert_17 : decode cX8_insert 17 = .ok (.invokestatic 66, 3) := by decide +kernel
theorem dX8_insert_20 : decode cX8_insert 20 = .ok (.aload_n 0, 1) := by decide +kernel
theorem dX8_insert_21 : decode cX8_insert 21 = .ok (.getfield 10, 3) := by decide +kernel
theorem dX8_insert_24 : decode cX8_insert 24 = .ok (.getfield 58, 3) := by decide +kernel
theorem dX8_insert_27 : decode cX8_insert 27 = .ok (.bipush 40, 2) := by decide +kernel
theorem dX8_insert_29 : decode cX8_insert 29 = .ok (.if_icmp .lt 13, 3) := by decide +kernel
theorem dX8_insert_32 : decode cX8_insert 32 = .ok (.new 70, 3) := by decide +kernel
theorem dX8_insert_35 : decode cX8_insert 35 = .ok (.dup, 1) := by decide +kernel
theorem dX8_insert_36 : decode cX8_insert 36 = .ok (.ldc 72, 2) := by decide +kernel
theorem dX8_insert_38 : decode cX8_insert 38 = .ok (.invokespecial 74, 3) := by decide +kernel
theorem dX8_insert_41 : decode cX8_insert 41 = .ok (.athrow, 1) := by decide +kernel
theorem dX8_insert_42 : decode cX8_insert 42 = .ok (.aload_n 0, 1) := by decide +kernel
theorem dX8_insert_43 : decode cX8_insert 43 = .ok (.invokevirtual 77, 3) := by decide +kernel
theorem dX8_insert_46 : decode cX8_insert 46 = .ok (.aload_n 0, 1) := by decide +kernel
theorem dX8_insert_47 : decode cX8_insert 47 = .ok (.getfield 10, 3) := by decide +kernel
theorem dX8_insert_50 : decode cX8_insert 50 = .ok (.iload_n 1, 1) := by decide +kernel
theorem dX8_insert_51 : decode cX8_insert 51 = .ok (.iload_n 2, 1) := by decide +kernel
theorem dX8_insert_52 : decode cX8_insert 52 = .ok (.iconst 0, 1) := by decide +kernel
theorem dX8_insert_53 : decode cX8_insert 53 = .ok (.invokevirtual 80, 3) := by decide +kernel
theorem dX8_insert_56 : decode cX8_insert 56 = .ok (.aload_n 0, 1) := by decide +kernel
theorem dX8_insert_57 : decode cX8_insert 57 = .ok (.getfield 10, 3) := by decide +kernel
theorem dX8_insert_60 : decode cX8_insert 60 = .ok (.getfield 58, 3) := by decide +kernel
theorem dX8_insert_63 : decode cX8_insert 63 = .ok (.ireturn, 1) := by decide +kernel
set_option maxRecDepth 20000 in
theorem ggX8_remove_X8_requireIndex : GoodIn wsX8_remove wsX8_requireIndex := goodIn_ca (goodIn_r _ [5, 6, 7] (by decide +kernel) (by decide +kernel)) (goodIn_sub (fun _ h => List.mem_cons_of_mem _ (List.mem_append_right _ h)) (by decide +kernel))
set_option maxRecDepth 20000 in
theorem gX8_remove_X8_requireIndex : GoodIn wsX8_remove (va_wsS RX8 62 yX8_requireIndex wsX8_requireIndex) := goodIn_app (goodIn_of _ (by decide +kernel)) ggX8_remove_X8_requireIndex
set_option maxRecDepth 20000 in
theorem ggX8_remove_X8_prepareChange : GoodIn wsX8_remove wsX8_prepareChange := goodIn_r _ [11, 12, 1, 13, 14, 15, 16, 17, 18, 19, 20, 21, 22, 23, 24, 25, 26, 27, 28, 29, 30, 31, 32, 33, 34, 35, 36, 37, 38, 39, 40, 41, 42, 43, 44, 45, 46, 47, 48, 49, 50, 51, 52, 53, 67, 68, 69, 70, 71, 72, 73, 74, 85, 86, 75, 76, 77, 78, 79, 80, 81, 82, 83, 84, 87] (by decide +kernel) (by decide +kernel)
set_option maxRecDepth 20000 in
theorem gX8_remove_X8_prepareChange : GoodIn wsX8_remove (wsV RX8 77 RX8 yX8_prepareChange wsX8_prepareChange) := goodIn_app (goodIn_of _ (by decide +kernel)) ggX8_remove_X8_prepareChange
set_option maxRecDepth 20000 in
theorem ggX8_remove_X6_at : GoodIn wsX8_remove wsX6_at := goodIn_r _ [53, 49, 87] (by decide +kernel) (by decide +kernel)
set_option maxRecDepth 20000 in
theorem gX8_remove_X6_at : GoodIn wsX8_remove (wsV RX8 87 RX6 yX6_at wsX6_at) := goodIn_app (goodIn_of _ (by decide +kernel)) ggX8_remove_X6_at
set_option maxRecDepth 20000 in
theorem ggX8_remove_X7_dropWord : GoodIn wsX8_remove wsX7_dropWord := goodIn_r _ [58, 36, 34, 35, 59, 60, 61, 47, 62, 49, 50, 51, 52, 53, 63, 64, 65, 66, 75, 76, 77, 78, 79, 80, 81, 82, 83, 84, 87] (by decide +kernel) (by decide +kernel)
set_option maxRecDepth 20000 in
theorem gX8_remove_X7_dropWord : GoodIn wsX8_remove (wsV RX8 93 RX7 yX7_dropWord wsX7_dropWord) := goodIn_app (goodIn_of _ (by decide +kernel)) ggX8_remove_X7_dropWord
theorem dX8_remove_0 : decode cX8_remove 0 = .ok (.iload_n 1, 1) := by decide +kernel
theorem dX8_remove_1 : decode cX8_remove 1 = .ok (.aload_n 0, 1) := by decide +kernel
theorem dX8_remove_2 : decode cX8_remove 2 = .ok (.getfield 10, 3) := by decide +kernel
theorem dX8_remove_5 : decode cX8_remove 5 = .ok (.getfield 58, 3) := by decide +kernel
theorem dX8_remove_8 : decode cX8_remove 8 = .ok (.invokestatic 62, 3) := by decide +kernel
theorem dX8_remove_11 : decode cX8_remove 11 = .ok (.aload_n 0, 1) := by decide +kernel
theorem dX8_remove_12 : decode cX8_remove 12 = .ok (.invokevirtual 77, 3) := by decide +kernel
theorem dX8_remove_15 : decode cX8_remove 15 = .ok (.aload_n 0, 1) := by decide +kernel
theorem dX8_remove_16 : decode cX8_remove 16 = .ok (.getfield 10, 3) := by decide +kernel
theorem dX8_remove_19 : decode cX8_remove 19 = .ok (.getfield 83, 3) := by decide +kernel
theorem dX8_remove_22 : decode cX8_remove 22 = .ok (.iload_n 1, 1) := by decide +kernel
theorem dX8_remove_23 : decode cX8_remove 23 = .ok (.invokevirtual 87, 3) := by decide +kernel
theorem dX8_remove_26 : decode cX8_remove 26 = .ok (.istore_n 2, 1) := by decide +kernel
theorem dX8_remove_27 : decode cX8_remove 27 = .ok (.aload_n 0, 1) := by decide +kernel
theorem dX8_remove_28 : decode cX8_remove 28 = .ok (.getfield 10, 3) := by decide +kernel
theorem dX8_remove_31 : decode cX8_remove 31 = .ok (.iload_n 1, 1) := by decide +kernel
theorem dX8_remove_32 : decode cX8_remove 32 = .ok (.invokevirtual 93, 3) := by decide +kernel
theorem dX8_remove_35 : decode cX8_remove 35 = .ok (.iload_n 2, 1) := by decide +kernel
theorem dX8_remove_36 : decode cX8_remove 36 = .ok (.ireturn, 1) := by decide +kernel
set_option maxRecDepth 20000 in
theorem ggX8_setMark_X8_requireIndex : GoodIn wsX8_setMark wsX8_requireIndex := goodIn_ca (goodIn_r _ [5, 6, 7] (by decide +kernel) (by decide +kernel)) (goodIn_sub (fun _ h => List.mem_cons_of_mem _ (List.mem_append_left _ (List.mem_append_right _ h))) (by decide +kernel))
set_option maxRecDepth 20000 in
theorem gX8_setMark_X8_requireIndex : GoodIn wsX8_setMark (va_wsS RX8 62 yX8_requireIndex wsX8_requireIndex) := goodIn_app (goodIn_of _ (by decide +kernel)) ggX8_setMark_X8_requireIndex
set_option maxRecDepth 20000 in
theorem ggX8_setMark_X8_requireRange : GoodIn wsX8_setMark wsX8_requireRange := goodIn_ca (goodIn_r _ [10, 11, 12] (by decide +kernel) (by decide +kernel)) (goodIn_sub (fun _ h => List.mem_cons_of_mem _ (List.mem_append_right _ h)) (by decide +kernel))
set_option maxRecDepth 20000 in
theorem gX8_setMark_X8_requireRange : GoodIn wsX8_setMark (va_wsS RX8 66 yX8_requireRange wsX8_requireRange) := goodIn_app (goodIn_of _ (by decide +kernel)) ggX8_setMark_X8_requireRange
set_option maxRecDepth 20000 in
theorem ggX8_setMark_X8_prepareChange : GoodIn wsX8_setMark wsX8_prepareChange := goodIn_r _ [16, 17, 1, 18, 19, 20, 21, 22, 23, 24, 25, 26, 27, 28, 29, 30, 31, 32, 33, 34, 35, 36, 37, 38, 39, 40, 41, 42, 43, 44, 45, 46, 47, 48, 49, 50, 51, 52, 53, 54, 55, 56, 57, 58, 64, 65, 66, 67, 68, 69, 70, 71, 82, 83, 72, 73, 74, 75, 76, 77, 78, 79, 80, 81, 84] (by decide +kernel) (by decide +kernel)
set_option maxRecDepth 20000 in
theorem gX8_setMark_X8_prepareChange : GoodIn wsX8_setMark (wsV RX8 77 RX8 yX8_prepareChange wsX8_prepareChange) := goodIn_app (goodIn_of _ (by decide +kernel)) ggX8_setMark_X8_prepareChange
set_option maxRecDepth 20000 in
theorem ggX8_setMark_X6_at : GoodIn wsX8_setMark wsX6_at := goodIn_r _ [58, 54, 84] (by decide +kernel) (by decide +kernel)
set_option maxRecDepth 20000 in
theorem gX8_setMark_X6_at : GoodIn wsX8_setMark (wsV RX8 87 RX6 yX6_at wsX6_at) := goodIn_app (goodIn_of _ (by decide +kernel)) ggX8_setMark_X6_at
set_option maxRecDepth 20000 in
theorem ggX8_setMark_X6_put : GoodIn wsX8_setMark wsX6_put := goodIn_r _ [63, 54, 84] (by decide +kernel) (by decide +kernel)
set_option maxRecDepth 20000 in
theorem gX8_setMark_X6_put : GoodIn wsX8_setMark (wsV RX8 100 RX6 yX6_put wsX6_put) := goodIn_app (goodIn_of _ (by decide +kernel)) ggX8_setMark_X6_put
theorem dX8_setMark_0 : decode cX8_setMark 0 = .ok (.iload_n 1, 1) := by decide +kernel
theorem dX8_setMark_1 : decode cX8_setMark 1 = .ok (.aload_n 0, 1) := by decide +kernel
theorem dX8_setMark_2 : decode cX8_setMark 2 = .ok (.getfield 10, 3) := by decide +kernel
theorem dX8_setMark_5 : decode cX8_setMark 5 = .ok (.getfield 58, 3) := by decide +kernel
theorem dX8_setMark_8 : decode cX8_setMark 8 = .ok (.invokestatic 62, 3) := by decide +kernel
theorem dX8_setMark_11 : decode cX8_setMark 11 = .ok (.iload_n 2, 1) := by decide +kernel
theorem dX8_setMark_12 : decode cX8_setMark 12 = .ok (.iconst 0, 1) := by decide +kernel
theorem dX8_setMark_13 : decode cX8_setMark 13 = .ok (.iconst 2, 1) := by decide +kernel
theorem dX8_setMark_14 : decode cX8_setMark 14 = .ok (.invokestatic 66, 3) := by decide +kernel
theorem dX8_setMark_17 : decode cX8_setMark 17 = .ok (.aload_n 0, 1) := by decide +kernel
theorem dX8_setMark_18 : decode cX8_setMark 18 = .ok (.invokevirtual 77, 3) := by decide +kernel
theorem dX8_setMark_21 : decode cX8_setMark 21 = .ok (.aload_n 0, 1) := by decide +kernel
theorem dX8_setMark_22 : decode cX8_setMark 22 = .ok (.getfield 10, 3) := by decide +kernel
theorem dX8_setMark_25 : decode cX8_setMark 25 = .ok (.getfield 97, 3) := by decide +kernel
theorem dX8_setMark_28 : decode cX8_setMark 28 = .ok (.iload_n 1, 1) := by decide +kernel
theorem dX8_setMark_29 : decode cX8_setMark 29 = .ok (.invokevirtual 87, 3) := by decide +kernel
theorem dX8_setMark_32 : decode cX8_setMark 32 = .ok (.istore_n 3, 1) := by decide +kernel
theorem dX8_setMark_33 : decode cX8_setMark 33 = .ok (.aload_n 0, 1) := by decide +kernel
theorem dX8_setMark_34 : decode cX8_setMark 34 = .ok (.getfield 10, 3) := by decide +kernel
theorem dX8_setMark_37 : decode cX8_setMark 37 = .ok (.getfield 97, 3) := by decide +kernel
theorem dX8_setMark_40 : decode cX8_setMark 40 = .ok (.iload_n 1, 1) := by decide +kernel
theorem dX8_setMark_41 : decode cX8_setMark 41 = .ok (.iload_n 2, 1) := by decide +kernel
theorem dX8_setMark_42 : decode cX8_setMark 42 = .ok (.invokevirtual 100, 3) := by decide +kernel
theorem dX8_setMark_45 : decode cX8_setMark 45 = .ok (.iload_n 3, 1) := by decide +kernel
theorem dX8_setMark_46 : decode cX8_setMark 46 = .ok (.ireturn, 1) := by decide +kernel
theorem dX8_words_0 : decode cX8_words 0 = .ok (.aload_n 0, 1) := by decide +kernel
theorem dX8_words_1 : decode cX8_words 1 = .ok (.getfield 10, 3) := by decide +kernel
theorem dX8_words_4 : decode cX8_words 4 = .ok (.getfield 58, 3) := by decide +kernel
theorem dX8_words_7 : decode cX8_words 7 = .ok (.ireturn, 1) := by decide +kernel
set_option maxRecDepth 20000 in
theorem ggX8_wordWidth_X8_requireIndex : GoodIn wsX8_wordWidth wsX8_requireIndex := goodIn_ca (goodIn_r _ [5, 6, 7] (by decide +kernel) (by decide +kernel)) (goodIn_sub (fun _ h => List.mem_cons_of_mem _ (List.mem_append_right _ h)) (by decide +kernel))
set_option maxRecDepth 20000 in
theorem gX8_wordWidth_X8_requireIndex : GoodIn wsX8_wordWidth (va_wsS RX8 62 yX8_requireIndex wsX8_requireIndex) := goodIn_app (goodIn_of _ (by decide +kernel)) ggX8_wordWidth_X8_requireIndex
set_option maxRecDepth 20000 in
theorem ggX8_wordWidth_X6_at : GoodIn wsX8_wordWidth wsX6_at := goodIn_r _ [12, 13, 32] (by decide +kernel) (by decide +kernel)
set_option maxRecDepth 20000 in
theorem gX8_wordWidth_X6_at : GoodIn wsX8_wordWidth (wsV RX8 87 RX6 yX6_at wsX6_at) := goodIn_app (goodIn_of _ (by decide +kernel)) ggX8_wordWidth_X6_at
theorem dX8_wordWidth_0 : decode cX8_wordWidth 0 = .ok (.iload_n 1, 1) := by decide +kernel
theorem dX8_wordWidth_1 : decode cX8_wordWidth 1 = .ok (.aload_n 0, 1) := by decide +kernel
theorem dX8_wordWidth_2 : decode cX8_wordWidth 2 = .ok (.getfield 10, 3) := by decide +kernel
theorem dX8_wordWidth_5 : decode cX8_wordWidth 5 = .ok (.getfield 58, 3) := by decide +kernel
theorem dX8_wordWidth_8 : decode cX8_wordWidth 8 = .ok (.invokestatic 62, 3) := by decide +kernel
theorem dX8_wordWidth_11 : decode cX8_wordWidth 11 = .ok (.aload_n 0, 1) := by decide +kernel
theorem dX8_wordWidth_12 : decode cX8_wordWidth 12 = .ok (.getfield 10, 3) := by decide +kernel
theorem dX8_wordWidth_15 : decode cX8_wordWidth 15 = .ok (.getfield 83, 3) := by decide +kernel
theorem dX8_wordWidth_18 : decode cX8_wordWidth 18 = .ok (.iload_n 1, 1) := by decide +kernel
theorem dX8_wordWidth_19 : decode cX8_wordWidth 19 = .ok (.invokevirtual 87, 3) := by decide +kernel
theorem dX8_wordWidth_22 : decode cX8_wordWidth 22 = .ok (.ireturn, 1) := by decide +kernel
set_option maxRecDepth 20000 in
theorem ggX8_mark_X8_requireIndex : GoodIn wsX8_mark wsX8_requireIndex := goodIn_ca (goodIn_r _ [5, 6, 7] (by decide +kernel) (by decide +kernel)) (goodIn_sub (fun _ h => List.mem_cons_of_mem _ (List.mem_append_right _ h)) (by decide +kernel))
set_option maxRecDepth 20000 in
theorem gX8_mark_X8_requireIndex : GoodIn wsX8_mark (va_wsS RX8 62 yX8_requireIndex wsX8_requireIndex) := goodIn_app (goodIn_of _ (by decide +kernel)) ggX8_mark_X8_requireIndex
set_option maxRecDepth 20000 in
theorem ggX8_mark_X6_at : GoodIn wsX8_mark wsX6_at := goodIn_r _ [12, 13, 32] (by decide +kernel) (by decide +kernel)
set_option maxRecDepth 20000 in
theorem gX8_mark_X6_at : GoodIn wsX8_mark (wsV RX8 87 RX6 yX6_at wsX6_at) := goodIn_app (goodIn_of _ (by decide +kernel)) ggX8_mark_X6_at
theorem dX8_mark_0 : decode cX8_mark 0 = .ok (.iload_n 1, 1) := by decide +kernel
theorem dX8_mark_1 : decode cX8_mark 1 = .ok (.aload_n 0, 1) := by decide +kernel
theorem dX8_mark_2 : decode cX8_mark 2 = .ok (.getfield 10, 3) := by decide +kernel
theorem dX8_mark_5 : decode cX8_mark 5 = .ok (.getfield 58, 3) := by decide +kernel
theorem dX8_mark_8 : decode cX8_mark 8 = .ok (.invokestatic 62, 3) := by decide +kernel
theorem dX8_mark_11 : decode cX8_mark 11 = .ok (.aload_n 0, 1) := by decide +kernel
theorem dX8_mark_12 : decode cX8_mark 12 = .ok (.getfield 10, 3) := by decide +kernel
theorem dX8_mark_15 : decode cX8_mark 15 = .ok (.getfield 97, 3) := by decide +kernel
theorem dX8_mark_18 : decode cX8_mark 18 = .ok (.iload_n 1, 1) := by decide +kernel
theorem dX8_mark_19 : decode cX8_mark 19 = .ok (.invokevirtual 87, 3) := by decide +kernel
theorem dX8_mark_22 : decode cX8_mark 22 = .ok (.ireturn, 1) := by decide +kernel
set_option maxRecDepth 20000 in
theorem ggX8_setColumn_X8_requireRange : GoodIn wsX8_setColumn wsX8_requireRange := goodIn_ca (goodIn_r _ [5, 6, 7] (by decide +kernel) (by decide +kernel)) (goodIn_sub (fun _ h => List.mem_cons_of_mem _ (List.mem_append_right _ h)) (by decide +kernel))
set_option maxRecDepth 20000 in
theorem gX8_setColumn_X8_requireRange : GoodIn wsX8_setColumn (va_wsS RX8 66 yX8_requireRange wsX8_requireRange) := goodIn_app (goodIn_of _ (by decide +kernel)) ggX8_setColumn_X8_requireRange
set_option maxRecDepth 20000 in
theorem ggX8_setColumn_X8_prepareChange : GoodIn wsX8_setColumn wsX8_prepareChange := goodIn_r _ [11, 12, 1, 13, 14, 15, 16, 17, 18, 19, 20, 21, 22, 23, 24, 25, 26, 27, 28, 29, 30, 31, 32, 33, 34, 35, 36, 37, 38, 39, 40, 41, 42, 43, 44, 45, 46, 47, 48, 49, 50, 51, 52, 53, 54, 55, 56, 57, 58, 59, 60, 61, 72, 73, 62, 63, 64, 65, 66, 67, 68, 69, 70, 71, 74] (by decide +kernel) (by decide +kernel)
set_option maxRecDepth 20000 in
theorem gX8_setColumn_X8_prepareChange : GoodIn wsX8_setColumn (wsV RX8 77 RX8 yX8_prepareChange wsX8_prepareChange) := goodIn_app (goodIn_of _ (by decide +kernel)) ggX8_setColumn_X8_prepareChange
theorem dX8_setColumn_0 : decode cX8_setColumn 0 = .ok (.iload_n 1, 1) := by decide +kernel
theorem dX8_setColumn_1 : decode cX8_setColumn 1 = .ok (.bipush 30, 2) := by decide +kernel
theorem dX8_setColumn_3 : decode cX8_setColumn 3 = .ok (.bipush 100, 2) := by decide +kernel
theorem dX8_setColumn_5 : decode cX8_setColumn 5 = .ok (.invokestatic 66, 3) := by decide +kernel
theorem dX8_setColumn_8 : decode cX8_setColumn 8 = .ok (.aload_n 0, 1) := by decide +kernel
theorem dX8_setColumn_9 : decode cX8_setColumn 9 = .ok (.invokevirtual 77, 3) := by decide +kernel
theorem dX8_setColumn_12 : decode cX8_setColumn 12 = .ok (.aload_n 0, 1) := by decide +kernel
theorem dX8_setColumn_13 : decode cX8_setColumn 13 = .ok (.getfield 10, 3) := by decide +kernel
theorem dX8_setColumn_16 : decode cX8_setColumn 16 = .ok (.getfield 103, 3) := by decide +kernel
theorem dX8_setColumn_19 : decode cX8_setColumn 19 = .ok (.istore_n 2, 1) := by decide +kernel
theorem dX8_setColumn_20 : decode cX8_setColumn 20 = .ok (.aload_n 0, 1) := by decide +kernel
theorem dX8_setColumn_21 : decode cX8_setColumn 21 = .ok (.getfield 10, 3) := by decide +kernel
theorem dX8_setColumn_24 : decode cX8_setColumn 24 = .ok (.iload_n 1, 1) := by decide +kernel
theorem dX8_setColumn_25 : decode cX8_setColumn 25 = .ok (.putfield 103, 3) := by decide +kernel
theorem dX8_setColumn_28 : decode cX8_setColumn 28 = .ok (.iload_n 2, 1) := by decide +kernel
theorem dX8_setColumn_29 : decode cX8_setColumn 29 = .ok (.ireturn, 1) := by decide +kernel
set_option maxRecDepth 20000 in
theorem ggX8_setSpace_X8_requireRange : GoodIn wsX8_setSpace wsX8_requireRange := goodIn_ca (goodIn_r _ [5, 6, 7] (by decide +kernel) (by decide +kernel)) (goodIn_sub (fun _ h => List.mem_cons_of_mem _ (List.mem_append_right _ h)) (by decide +kernel))
set_option maxRecDepth 20000 in
theorem gX8_setSpace_X8_requireRange : GoodIn wsX8_setSpace (va_wsS RX8 66 yX8_requireRange wsX8_requireRange) := goodIn_app (goodIn_of _ (by decide +kernel)) ggX8_setSpace_X8_requireRange
set_option maxRecDepth 20000 in
theorem ggX8_setSpace_X8_prepareChange : GoodIn wsX8_setSpace wsX8_prepareChange := goodIn_r _ [11, 12, 1, 13, 14, 15, 16, 17, 18, 19, 20, 21, 22, 23, 24, 25, 26, 27, 28, 29, 30, 31, 32, 33, 34, 35, 36, 37, 38, 39, 40, 41, 42, 43, 44, 45, 46, 47, 48, 49, 50, 51, 52, 53, 54, 55, 56, 57, 58, 59, 60, 61, 72, 73, 62, 63, 64, 65, 66, 67, 68, 69, 70, 71, 74] (by decide +kernel) (by decide +kernel)
set_option maxRecDepth 20000 in
theorem gX8_setSpace_X8_prepareChange : GoodIn wsX8_setSpace (wsV RX8 77 RX8 yX8_prepareChange wsX8_prepareChange) := goodIn_app (goodIn_of _ (by decide +kernel)) ggX8_setSpace_X8_prepareChange
theorem dX8_setSpace_0 : decode cX8_setSpace 0 = .ok (.iload_n 1, 1) := by decide +kernel
theorem dX8_setSpace_1 : decode cX8_setSpace 1 = .ok (.iconst 1, 1) := by decide +kernel
theorem dX8_setSpace_2 : decode cX8_setSpace 2 = .ok (.iconst 5, 1) := by decide +kernel
theorem dX8_setSpace_3 : decode cX8_setSpace 3 = .ok (.invokestatic 66, 3) := by decide +kernel
theorem dX8_setSpace_6 : decode cX8_setSpace 6 = .ok (.aload_n 0, 1) := by decide +kernel
theorem dX8_setSpace_7 : decode cX8_setSpace 7 = .ok (.invokevirtual 77, 3) := by decide +kernel
theorem dX8_setSpace_10 : decode cX8_setSpace 10 = .ok (.aload_n 0, 1) := by decide +kernel
theorem dX8_setSpace_11 : decode cX8_setSpace 11 = .ok (.getfield 10, 3) := by decide +kernel
theorem dX8_setSpace_14 : decode cX8_setSpace 14 = .ok (.getfield 106, 3) := by decide +kernel
theorem dX8_setSpace_17 : decode cX8_setSpace 17 = .ok (.istore_n 2, 1) := by decide +kernel
theorem dX8_setSpace_18 : decode cX8_setSpace 18 = .ok (.aload_n 0, 1) := by decide +kernel
theorem dX8_setSpace_19 : decode cX8_setSpace 19 = .ok (.getfield 10, 3) := by decide +kernel
theorem dX8_setSpace_22 : decode cX8_setSpace 22 = .ok (.iload_n 1, 1) := by decide +kernel
theorem dX8_setSpace_23 : decode cX8_setSpace 23 = .ok (.putfield 106, 3) := by decide +kernel
theorem dX8_setSpace_26 : decode cX8_setSpace 26 = .ok (.iload_n 2, 1) := by decide +kernel
theorem dX8_setSpace_27 : decode cX8_setSpace 27 = .ok (.ireturn, 1) := by decide +kernel
set_option maxRecDepth 20000 in
theorem ggX8_setPenalties_X8_requireRange : GoodIn wsX8_setPenalties wsX8_requireRange := goodIn_ca (goodIn_r _ [5, 6, 7] (by decide +kernel) (by decide +kernel)) (goodIn_sub (fun _ h => List.mem_cons_of_mem _ (List.mem_append_right _ h)) (by decide +kernel))
set_option maxRecDepth 20000 in
theorem gX8_setPenalties_X8_requireRange : GoodIn wsX8_setPenalties (va_wsS RX8 66 yX8_requireRange wsX8_requireRange) := goodIn_app (goodIn_of _ (by decide +kernel)) ggX8_setPenalties_X8_requireRange
set_option maxRecDepth 20000 in
theorem ggX8_setPenalties_X8_prepareChange : GoodIn wsX8_setPenalties wsX8_prepareChange := goodIn_r _ [11, 12, 1, 13, 14, 15, 16, 17, 18, 19, 20, 21, 22, 23, 24, 25, 26, 27, 28, 29, 30, 31, 32, 33, 34, 35, 36, 37, 38, 39, 40, 41, 42, 43, 44, 45, 46, 47, 48, 49, 50, 51, 52, 53, 54, 55, 56, 57, 58, 59, 60, 61, 72, 73, 62, 63, 64, 65, 66, 67, 68, 69, 70, 71, 74] (by decide +kernel) (by decide +kernel)
set_option maxRecDepth 20000 in
theorem gX8_setPenalties_X8_prepareChange : GoodIn wsX8_setPenalties (wsV RX8 77 RX8 yX8_prepareChange wsX8_prepareChange) := goodIn_app (goodIn_of _ (by decide +kernel)) ggX8_setPenalties_X8_prepareChange
theorem dX8_setPenalties_0 : decode cX8_setPenalties 0 = .ok (.iload_n 1, 1) := by decide +kernel
theorem dX8_setPenalties_1 : decode cX8_setPenalties 1 = .ok (.iconst 1, 1) := by decide +kernel
theorem dX8_setPenalties_2 : decode cX8_setPenalties 2 = .ok (.bipush 20, 2) := by decide +kernel
theorem dX8_setPenalties_4 : decode cX8_setPenalties 4 = .ok (.invokestatic 66, 3) := by decide +kernel
theorem dX8_setPenalties_7 : decode cX8_setPenalties 7 = .ok (.iload_n 2, 1) := by decide +kernel
theorem dX8_setPenalties_8 : decode cX8_setPenalties 8 = .ok (.iconst 0, 1) := by decide +kernel
theorem dX8_setPenalties_9 : decode cX8_setPenalties 9 = .ok (.sipush 9999, 3) := by decide +kernel
theorem dX8_setPenalties_12 : decode cX8_setPenalties 12 = .ok (.invokestatic 66, 3) := by decide +kernel
theorem dX8_setPenalties_15 : decode cX8_setPenalties 15 = .ok (.iload_n 3, 1) := by decide +kernel
theorem dX8_setPenalties_16 : decode cX8_setPenalties 16 = .ok (.iconst 0, 1) := by decide +kernel
theorem dX8_setPenalties_17 : decode cX8_setPenalties 17 = .ok (.sipush 9999, 3) := by decide +kernel
theorem dX8_setPenalties_20 : decode cX8_setPenalties 20 = .ok (.invokestatic 66, 3) := by decide +kernel
theorem dX8_setPenalties_23 : decode cX8_setPenalties 23 = .ok (.aload_n 0, 1) := by decide +kernel
theorem dX8_setPenalties_24 : decode cX8_setPenalties 24 = .ok (.invokevirtual 77, 3) := by decide +kernel
theorem dX8_setPenalties_27 : decode cX8_setPenalties 27 = .ok (.aload_n 0, 1) := by decide +kernel
theorem dX8_setPenalties_28 : decode cX8_setPenalties 28 = .ok (.getfield 10, 3) := by decide +kernel
theorem dX8_setPenalties_31 : decode cX8_setPenalties 31 = .ok (.getfield 109, 3) := by decide +kernel
theorem dX8_setPenalties_34 : decode cX8_setPenalties 34 = .ok (.istore 4, 2) := by decide +kernel
theorem dX8_setPenalties_36 : decode cX8_setPenalties 36 = .ok (.aload_n 0, 1) := by decide +kernel
theorem dX8_setPenalties_37 : decode cX8_setPenalties 37 = .ok (.getfield 10, 3) := by decide +kernel
theorem dX8_setPenalties_40 : decode cX8_setPenalties 40 = .ok (.iload_n 1, 1) := by decide +kernel
theorem dX8_setPenalties_41 : decode cX8_setPenalties 41 = .ok (.putfield 109, 3) := by decide +kernel
theorem dX8_setPenalties_44 : decode cX8_setPenalties 44 = .ok (.aload_n 0, 1) := by decide +kernel
theorem dX8_setPenalties_45 : decode cX8_setPenalties 45 = .ok (.getfield 10, 3) := by decide +kernel
theorem dX8_setPenalties_48 : decode cX8_setPenalties 48 = .ok (.iload_n 2, 1) := by decide +kernel
theorem dX8_setPenalties_49 : decode cX8_setPenalties 49 = .ok (.putfield 112, 3) := by decide +kernel
theorem dX8_setPenalties_52 : decode cX8_setPenalties 52 = .ok (.aload_n 0, 1) := by decide +kernel
theorem dX8_setPenalties_53 : decode cX8_setPenalties 53 = .ok (.getfield 10, 3) := by decide +kernel
theorem dX8_setPenalties_56 : decode cX8_setPenalties 56 = .ok (.iload_n 3, 1) := by decide +kernel
theorem dX8_setPenalties_57 : decode cX8_setPenalties 57 = .ok (.putfield 115, 3) := by decide +kernel
theorem dX8_setPenalties_60 : decode cX8_setPenalties 60 = .ok (.iload 4, 2) := by decide +kernel
theorem dX8_setPenalties_62 : decode cX8_setPenalties 62 = .ok (.ireturn, 1) := by decide +kernel
set_option maxRecDepth 20000 in
theorem ggX8_setPage_X8_requireRange : GoodIn wsX8_setPage wsX8_requireRange := goodIn_ca (goodIn_r _ [5, 6, 7] (by decide +kernel) (by decide +kernel)) (goodIn_sub (fun _ h => List.mem_cons_of_mem _ (List.mem_append_right _ h)) (by decide +kernel))
set_option maxRecDepth 20000 in
theorem gX8_setPage_X8_requireRange : GoodIn wsX8_setPage (va_wsS RX8 66 yX8_requireRange wsX8_requireRange) := goodIn_app (goodIn_of _ (by decide +kernel)) ggX8_setPage_X8_requireRange
set_option maxRecDepth 20000 in
theorem ggX8_setPage_X8_prepareChange : GoodIn wsX8_setPage wsX8_prepareChange := goodIn_r _ [11, 12, 1, 13, 14, 15, 16, 17, 18, 19, 20, 21, 22, 23, 24, 25, 26, 27, 28, 29, 30, 31, 32, 33, 34, 35, 36, 37, 38, 39, 40, 41, 42, 43, 44, 45, 46, 47, 48, 49, 50, 51, 52, 53, 54, 55, 56, 57, 58, 59, 60, 61, 72, 73, 62, 63, 64, 65, 66, 67, 68, 69, 70, 71, 74] (by decide +kernel) (by decide +kernel)
set_option maxRecDepth 20000 in
theorem gX8_setPage_X8_prepareChange : GoodIn wsX8_setPage (wsV RX8 77 RX8 yX8_prepareChange wsX8_prepareChange) := goodIn_app (goodIn_of _ (by decide +kernel)) ggX8_setPage_X8_prepareChange
theorem dX8_setPage_0 : decode cX8_setPage 0 = .ok (.iload_n 1, 1) := by decide +kernel
theorem dX8_setPage_1 : decode cX8_setPage 1 = .ok (.iconst 2, 1) := by decide +kernel
theorem dX8_setPage_2 : decode cX8_setPage 2 = .ok (.bipush 20, 2) := by decide +kernel
theorem dX8_setPage_4 : decode cX8_setPage 4 = .ok (.invokestatic 66, 3) := by decide +kernel
theorem dX8_setPage_7 : decode cX8_setPage 7 = .ok (.aload_n 0, 1) := by decide +kernel
theorem dX8_setPage_8 : decode cX8_setPage 8 = .ok (.invokevirtual 77, 3) := by decide +kernel
theorem dX8_setPage_11 : decode cX8_setPage 11 = .ok (.aload_n 0, 1) := by decide +kernel
theorem dX8_setPage_12 : decode cX8_setPage 12 = .ok (.getfield 10, 3) := by decide +kernel
theorem dX8_setPage_15 : decode cX8_setPage 15 = .ok (.getfield 118, 3) := by decide +kernel
theorem dX8_setPage_18 : decode cX8_setPage 18 = .ok (.istore_n 2, 1) := by decide +kernel
theorem dX8_setPage_19 : decode cX8_setPage 19 = .ok (.aload_n 0, 1) := by decide +kernel
theorem dX8_setPage_20 : decode cX8_setPage 20 = .ok (.getfield 10, 3) := by decide +kernel
theorem dX8_setPage_23 : decode cX8_setPage 23 = .ok (.iload_n 1, 1) := by decide +kernel
theorem dX8_setPage_24 : decode cX8_setPage 24 = .ok (.putfield 118, 3) := by decide +kernel
theorem dX8_setPage_27 : decode cX8_setPage 27 = .ok (.iload_n 2, 1) := by decide +kernel
theorem dX8_setPage_28 : decode cX8_setPage 28 = .ok (.ireturn, 1) := by decide +kernel
set_option maxRecDepth 20000 in
theorem ggX8_setOptimal_X8_prepareChange : GoodIn wsX8_setOptimal wsX8_prepareChange := goodIn_r _ [6, 7, 1, 8, 9, 10, 11, 12, 13, 14, 15, 16, 17, 18, 19, 20, 21, 22, 23, 24, 25, 26, 27, 28, 29, 30, 31, 32, 33, 34, 35, 36, 37, 38, 39, 40, 41, 42, 43, 44, 45, 46, 47, 48, 49, 50, 51, 52, 53, 54, 55, 56, 67, 68, 57, 58, 59, 60, 61, 62, 63, 64, 65, 66, 69] (by decide +kernel) (by decide +kernel)
set_option maxRecDepth 20000 in
theorem gX8_setOptimal_X8_prepareChange : GoodIn wsX8_setOptimal (wsV RX8 77 RX8 yX8_prepareChange wsX8_prepareChange) := goodIn_app (goodIn_of _ (by decide +kernel)) ggX8_setOptimal_X8_prepareChange
theorem dX8_setOptimal_0 : decode cX8_setOptimal 0 = .ok (.aload_n 0, 1) := by decide +kernel
theorem dX8_setOptimal_1 : decode cX8_setOptimal 1 = .ok (.invokevirtual 77, 3) := by decide +kernel
theorem dX8_setOptimal_4 : decode cX8_setOptimal 4 = .ok (.aload_n 0, 1) := by decide +kernel
theorem dX8_setOptimal_5 : decode cX8_setOptimal 5 = .ok (.getfield 10, 3) := by decide +kernel
theorem dX8_setOptimal_8 : decode cX8_setOptimal 8 = .ok (.getfield 121, 3) := by decide +kernel
theorem dX8_setOptimal_11 : decode cX8_setOptimal 11 = .ok (.istore_n 2, 1) := by decide +kernel
theorem dX8_setOptimal_12 : decode cX8_setOptimal 12 = .ok (.aload_n 0, 1) := by decide +kernel
theorem dX8_setOptimal_13 : decode cX8_setOptimal 13 = .ok (.getfield 10, 3) := by decide +kernel
theorem dX8_setOptimal_16 : decode cX8_setOptimal 16 = .ok (.iload_n 1, 1) := by decide +kernel
theorem dX8_setOptimal_17 : decode cX8_setOptimal 17 = .ok (.putfield 121, 3) := by decide +kernel
theorem dX8_setOptimal_20 : decode cX8_setOptimal 20 = .ok (.iload_n 2, 1) := by decide +kernel
theorem dX8_setOptimal_21 : decode cX8_setOptimal 21 = .ok (.ireturn, 1) := by decide +kernel
set_option maxRecDepth 20000 in
theorem ggX8_lines_X8_refresh : GoodIn wsX8_lines wsX8_refresh := goodIn_r _ [6, 7, 1, 8, 9, 10, 11, 12, 13, 14, 15, 16, 17, 18, 19, 20, 21, 22, 23, 24, 25, 26, 27, 28, 29, 30, 31, 32, 33, 34, 35, 36, 37, 38, 39, 40, 41, 42, 43, 44, 45, 46, 47, 48, 49, 50, 51, 52, 53, 54, 55, 56, 57, 58, 59, 60, 61, 62, 63, 64, 65, 66, 67, 68, 69, 70, 71, 72, 73, 74, 75, 76, 77, 78, 79, 80, 81, 82, 83, 84, 85, 86, 87, 88, 89, 90, 91, 92, 93, 94, 95, 96, 97, 98, 99, 100, 101, 102, 103, 104, 105, 106, 107, 108, 109, 110, 111, 112, 113, 114, 115, 116, 117, 118, 119, 120, 121, 122, 123, 124, 125, 126, 127, 128, 129, 130, 131, 132, 133, 134, 135, 136, 137, 138, 139, 146, 147, 148, 149, 150, 151, 152, 153, 154, 155, 140, 141, 142, 143, 144, 145, 156, 157, 158, 159, 160, 161, 162, 163, 164, 165, 166, 167, 168, 169] (by decide +kernel) (by decide +kernel)
set_option maxRecDepth 20000 in
theorem gX8_lines_X8_refresh : GoodIn wsX8_lines (wsV RX8 124 RX8 yX8_refresh wsX8_refresh) := goodIn_app (goodIn_of _ (by decide +kernel)) ggX8_lines_X8_refresh
theorem dX8_lines_0 : decode cX8_lines 0 = .ok (.aload_n 0, 1) := by decide +kernel
theorem dX8_lines_1 : decode cX8_lines 1 = .ok (.invokevirtual 124, 3) := by decide +kernel
theorem dX8_lines_4 : decode cX8_lines 4 = .ok (.aload_n 0, 1) := by decide +kernel
theorem dX8_lines_5 : decode cX8_lines 5 = .ok (.getfield 21, 3) := by decide +kernel
theorem dX8_lines_8 : decode cX8_lines 8 = .ok (.getfield 127, 3) := by decide +kernel
theorem dX8_lines_11 : decode cX8_lines 11 = .ok (.ireturn, 1) := by decide +kernel
set_option maxRecDepth 20000 in
theorem ggX8_lineOf_X8_requireIndex : GoodIn wsX8_lineOf wsX8_requireIndex := goodIn_ca (goodIn_r _ [6, 7, 8] (by decide +kernel) (by decide +kernel)) (goodIn_sub (fun _ h => List.mem_cons_of_mem _ (List.mem_append_right _ h)) (by decide +kernel))
set_option maxRecDepth 20000 in
theorem gX8_lineOf_X8_requireIndex : GoodIn wsX8_lineOf (va_wsS RX8 62 yX8_requireIndex wsX8_requireIndex) := goodIn_app (goodIn_of _ (by decide +kernel)) ggX8_lineOf_X8_requireIndex
set_option maxRecDepth 20000 in
theorem ggX8_lineOf_X8_refresh : GoodIn wsX8_lineOf wsX8_refresh := goodIn_r _ [12, 13, 2, 1, 14, 15, 16, 17, 18, 19, 20, 21, 22, 23, 24, 25, 26, 27, 28, 29, 30, 31, 32, 33, 34, 35, 36, 37, 38, 39, 40, 41, 42, 43, 44, 45, 46, 47, 48, 49, 50, 51, 52, 53, 54, 55, 56, 57, 58, 59, 60, 61, 62, 63, 64, 65, 66, 67, 68, 69, 70, 71, 72, 73, 74, 75, 76, 77, 78, 79, 80, 81, 82, 83, 84, 85, 86, 87, 88, 89, 90, 91, 92, 93, 94, 95, 96, 97, 98, 99, 100, 101, 102, 103, 104, 105, 106, 107, 108, 109, 110, 111, 112, 113, 114, 115, 116, 117, 118, 119, 120, 121, 122, 123, 124, 125, 126, 127, 128, 129, 130, 131, 132, 133, 134, 135, 136, 138, 139, 140, 141, 142, 143, 144, 145, 146, 147, 148, 149, 150, 151, 152, 153, 154, 155, 156, 157, 158, 159, 160, 161, 162, 163, 164, 165, 166, 167, 168, 169, 170, 171, 172, 173, 174, 175] (by decide +kernel) (by decide +kernel)
set_option maxRecDepth 20000 in
theorem gX8_lineOf_X8_refresh : GoodIn wsX8_lineOf (wsV RX8 124 RX8 yX8_refresh wsX8_refresh) := goodIn_app (goodIn_of _ (by decide +kernel)) ggX8_lineOf_X8_refresh
set_option maxRecDepth 20000 in
theorem ggX8_lineOf_X6_at : GoodIn wsX8_lineOf wsX6_at := goodIn_r _ [35, 36, 170] (by decide +kernel) (by decide +kernel)
set_option maxRecDepth 20000 in
theorem gX8_lineOf_X6_at : GoodIn wsX8_lineOf (wsV RX8 87 RX6 yX6_at wsX6_at) := goodIn_app (goodIn_of _ (by decide +kernel)) ggX8_lineOf_X6_at
theorem dX8_lineOf_0 : decode cX8_lineOf 0 = .ok (.iload_n 1, 1) := by decide +kernel
theorem dX8_lineOf_1 : decode cX8_lineOf 1 = .ok (.aload_n 0, 1) := by decide +kernel
theorem dX8_lineOf_2 : decode cX8_lineOf 2 = .ok (.getfield 10, 3) := by decide +kernel
theorem dX8_lineOf_5 : decode cX8_lineOf 5 = .ok (.getfield 58, 3) := by decide +kernel
theorem dX8_lineOf_8 : decode cX8_lineOf 8 = .ok (.invokestatic 62, 3) := by decide +kernel
theorem dX8_lineOf_11 : decode cX8_lineOf 11 = .ok (.aload_n 0, 1) := by decide +kernel
theorem dX8_lineOf_12 : decode cX8_lineOf 12 = .ok (.invokevirtual 124, 3) := by decide +kernel
theorem dX8_lineOf_15 : decode cX8_lineOf 15 = .ok (.aload_n 0, 1) := by decide +kernel
theorem dX8_lineOf_16 : decode cX8_lineOf 16 = .ok (.getfield 21, 3) := by decide +kernel
theorem dX8_lineOf_19 : decode cX8_lineOf 19 = .ok (.getfield 128, 3) := by decide +kernel
theorem dX8_lineOf_22 : decode cX8_lineOf 22 = .ok (.iload_n 1, 1) := by decide +kernel
theorem dX8_lineOf_23 : decode cX8_lineOf 23 = .ok (.invokevirtual 87, 3) := by decide +kernel
theorem dX8_lineOf_26 : decode cX8_lineOf 26 = .ok (.ireturn, 1) := by decide +kernel
set_option maxRecDepth 20000 in
theorem ggX8_firstWord_X8_refresh : GoodIn wsX8_firstWord wsX8_refresh := goodIn_r _ [6, 7, 1, 8, 9, 10, 11, 12, 13, 14, 15, 16, 17, 18, 19, 20, 21, 22, 23, 24, 25, 26, 27, 28, 29, 30, 31, 32, 33, 34, 35, 36, 37, 38, 39, 40, 41, 42, 43, 44, 45, 46, 47, 48, 49, 50, 51, 52, 53, 54, 55, 56, 57, 58, 59, 60, 61, 62, 63, 64, 65, 66, 67, 68, 69, 70, 71, 72, 73, 74, 75, 76, 77, 78, 79, 80, 81, 82, 83, 84, 85, 86, 87, 88, 89, 90, 91, 92, 93, 94, 95, 96, 97, 98, 99, 100, 101, 102, 103, 104, 105, 106, 107, 108, 109, 110, 111, 112, 113, 114, 115, 116, 117, 118, 119, 120, 121, 122, 123, 124, 125, 126, 127, 128, 129, 130, 131, 138, 139, 140, 141, 142, 143, 144, 145, 152, 153, 154, 155, 156, 157, 158, 159, 160, 161, 146, 147, 148, 149, 150, 151, 162, 163, 164, 165, 166, 167, 168, 169, 170, 171, 172, 173, 174, 175] (by decide +kernel) (by decide +kernel)
set_option maxRecDepth 20000 in
theorem gX8_firstWord_X8_refresh : GoodIn wsX8_firstWord (wsV RX8 124 RX8 yX8_refresh wsX8_refresh) := goodIn_app (goodIn_of _ (by decide +kernel)) ggX8_firstWord_X8_refresh
set_option maxRecDepth 20000 in
theorem ggX8_firstWord_X8_requireIndex : GoodIn wsX8_firstWord wsX8_requireIndex := goodIn_ca (goodIn_r _ [134, 135, 136] (by decide +kernel) (by decide +kernel)) (goodIn_sub (fun _ h => List.mem_cons_of_mem _ (List.mem_append_right _ h)) (by decide +kernel))
set_option maxRecDepth 20000 in
theorem gX8_firstWord_X8_requireIndex : GoodIn wsX8_firstWord (va_wsS RX8 62 yX8_requireIndex wsX8_requireIndex) := goodIn_app (goodIn_of _ (by decide +kernel)) ggX8_firstWord_X8_requireIndex
set_option maxRecDepth 20000 in
theorem ggX8_firstWord_X6_at : GoodIn wsX8_firstWord wsX6_at := goodIn_r _ [30, 31, 170] (by decide +kernel) (by decide +kernel)
set_option maxRecDepth 20000 in
theorem gX8_firstWord_X6_at : GoodIn wsX8_firstWord (wsV RX8 87 RX6 yX6_at wsX6_at) := goodIn_app (goodIn_of _ (by decide +kernel)) ggX8_firstWord_X6_at
theorem dX8_firstWord_0 : decode cX8_firstWord 0 = .ok (.aload_n 0, 1) := by decide +kernel
theorem dX8_firstWord_1 : decode cX8_firstWord 1 = .ok (.invokevirtual 124, 3) := by decide +kernel
theorem dX8_firstWord_4 : decode cX8_firstWord 4 = .ok (.iload_n 1, 1) := by decide +kernel
theorem dX8_firstWord_5 : decode cX8_firstWord 5 = .ok (.aload_n 0, 1) := by decide +kernel
theorem dX8_firstWord_6 : decode cX8_firstWord 6 = .ok (.getfield 21, 3) := by decide +kernel
theorem dX8_firstWord_9 : decode cX8_firstWord 9 = .ok (.getfield 127, 3) := by decide +kernel
theorem dX8_firstWord_12 : decode cX8_firstWord 12 = .ok (.invokestatic 62, 3) := by decide +kernel
theorem dX8_firstWord_15 : decode cX8_firstWord 15 = .ok (.aload_n 0, 1) := by decide +kernel
theorem dX8_firstWord_16 : decode cX8_firstWord 16 = .ok (.getfield 21, 3) := by decide +kernel
theorem dX8_firstWord_19 : decode cX8_firstWord 19 = .ok (.getfield 131, 3) := by decide +kernel
theorem dX8_firstWord_22 : decode cX8_firstWord 22 = .ok (.iload_n 1, 1) := by decide +kernel
theorem dX8_firstWord_23 : decode cX8_firstWord 23 = .ok (.invokevirtual 87, 3) := by decide +kernel
theorem dX8_firstWord_26 : decode cX8_firstWord 26 = .ok (.ireturn, 1) := by decide +kernel
set_option maxRecDepth 20000 in
theorem ggX8_lineWidth_X8_refresh : GoodIn wsX8_lineWidth wsX8_refresh := goodIn_r _ [6, 7, 1, 8, 9, 10, 11, 12, 13, 14, 15, 16, 17, 18, 19, 20, 21, 22, 23, 24, 25, 26, 27, 28, 29, 30, 31, 32, 33, 34, 35, 36, 37, 38, 39, 40, 41, 42, 43, 44, 45, 46, 47, 48, 49, 50, 51, 52, 53, 54, 55, 56, 57, 58, 59, 60, 61, 62, 63, 64, 65, 66, 67, 68, 69, 70, 71, 72, 73, 74, 75, 76, 77, 78, 79, 80, 81, 82, 83, 84, 85, 86, 87, 88, 89, 90, 91, 92, 93, 94, 95, 96, 97, 98, 99, 100, 101, 102, 103, 104, 105, 106, 107, 108, 109, 110, 111, 112, 113, 114, 115, 116, 117, 118, 119, 120, 121, 122, 123, 124, 125, 126, 127, 128, 129, 130, 131, 142, 143, 144, 145, 146, 147, 148, 149, 156, 157, 158, 159, 160, 161, 162, 163, 164, 165, 150, 151, 152, 153, 154, 155, 166, 167, 168, 169, 170, 171, 172, 173, 174, 175, 176, 177, 178, 179] (by decide +kernel) (by decide +kernel)
set_option maxRecDepth 20000 in
theorem gX8_lineWidth_X8_refresh : GoodIn wsX8_lineWidth (wsV RX8 124 RX8 yX8_refresh wsX8_refresh) := goodIn_app (goodIn_of _ (by decide +kernel)) ggX8_lineWidth_X8_refresh
set_option maxRecDepth 20000 in
theorem ggX8_lineWidth_X8_requireIndex : GoodIn wsX8_lineWidth wsX8_requireIndex := goodIn_ca (goodIn_r _ [134, 135, 136] (by decide +kernel) (by decide +kernel)) (goodIn_sub (fun _ h => List.mem_cons_of_mem _ (List.mem_append_right _ h)) (by decide +kernel))
set_option maxRecDepth 20000 in
theorem gX8_lineWidth_X8_requireIndex : GoodIn wsX8_lineWidth (va_wsS RX8 62 yX8_requireIndex wsX8_requireIndex) := goodIn_app (goodIn_of _ (by decide +kernel)) ggX8_lineWidth_X8_requireIndex
set_option maxRecDepth 20000 in
theorem ggX8_lineWidth_X3_widthOfLine : GoodIn wsX8_lineWidth wsX3_widthOfLine := goodIn_r _ [140, 15, 101, 104, 27, 28, 29, 30, 31, 141, 41, 42, 21, 43, 24, 23, 26, 150, 151, 152, 153, 154, 155, 174, 171, 172, 173, 156, 157, 158, 159, 160, 161, 162, 163, 164, 165] (by decide +kernel) (by decide +kernel)
set_option maxRecDepth 20000 in
theorem gX8_lineWidth_X3_widthOfLine : GoodIn wsX8_lineWidth (wsV RX8 134 RX3 yX3_widthOfLine wsX3_widthOfLine) := goodIn_app (goodIn_of _ (by decide +kernel)) ggX8_lineWidth_X3_widthOfLine
theorem dX8_lineWidth_0 : decode cX8_lineWidth 0 = .ok (.aload_n 0, 1) := by decide +kernel
theorem dX8_lineWidth_1 : decode cX8_lineWidth 1 = .ok (.invokevirtual 124, 3) := by decide +kernel
theorem dX8_lineWidth_4 : decode cX8_lineWidth 4 = .ok (.iload_n 1, 1) := by decide +kernel
theorem dX8_lineWidth_5 : decode cX8_lineWidth 5 = .ok (.aload_n 0, 1) := by decide +kernel
theorem dX8_lineWidth_6 : decode cX8_lineWidth 6 = .ok (.getfield 21, 3) := by decide +kernel
theorem dX8_lineWidth_9 : decode cX8_lineWidth 9 = .ok (.getfield 127, 3) := by decide +kernel
theorem dX8_lineWidth_12 : decode cX8_lineWidth 12 = .ok (.invokestatic 62, 3) := by decide +kernel
theorem dX8_lineWidth_15 : decode cX8_lineWidth 15 = .ok (.aload_n 0, 1) := by decide +kernel
theorem dX8_lineWidth_16 : decode cX8_lineWidth 16 = .ok (.getfield 21, 3) := by decide +kernel
theorem dX8_lineWidth_19 : decode cX8_lineWidth 19 = .ok (.iload_n 1, 1) := by decide +kernel
theorem dX8_lineWidth_20 : decode cX8_lineWidth 20 = .ok (.invokevirtual 134, 3) := by decide +kernel
theorem dX8_lineWidth_23 : decode cX8_lineWidth 23 = .ok (.ireturn, 1) := by decide +kernel
set_option maxRecDepth 20000 in
theorem ggX8_stairAt_X8_refresh : GoodIn wsX8_stairAt wsX8_refresh := goodIn_r _ [6, 7, 1, 8, 9, 10, 11, 12, 13, 14, 15, 16, 17, 18, 19, 20, 21, 22, 23, 24, 25, 26, 27, 28, 29, 30, 31, 32, 33, 34, 35, 36, 37, 38, 39, 40, 41, 42, 43, 44, 45, 46, 47, 48, 49, 50, 51, 52, 53, 54, 55, 56, 57, 58, 59, 60, 61, 62, 63, 64, 65, 66, 67, 68, 69, 70, 71, 72, 73, 74, 75, 76, 77, 78, 79, 80, 81, 82, 83, 84, 85, 86, 87, 88, 89, 90, 91, 92, 93, 94, 95, 96, 97, 98, 99, 100, 101, 102, 103, 104, 105, 106, 107, 108, 109, 110, 111, 112, 113, 114, 115, 116, 117, 118, 119, 120, 121, 122, 123, 124, 125, 126, 127, 128, 129, 130, 131, 147, 148, 149, 150, 151, 152, 153, 154, 161, 162, 163, 164, 165, 166, 167, 168, 169, 170, 155, 156, 157, 158, 159, 160, 171, 172, 173, 174, 175, 176, 177, 178, 179, 180, 181, 182, 183, 184] (by decide +kernel) (by decide +kernel)
set_option maxRecDepth 20000 in
theorem gX8_stairAt_X8_refresh : GoodIn wsX8_stairAt (wsV RX8 124 RX8 yX8_refresh wsX8_refresh) := goodIn_app (goodIn_of _ (by decide +kernel)) ggX8_stairAt_X8_refresh
set_option maxRecDepth 20000 in
theorem ggX8_stairAt_X8_requireIndex : GoodIn wsX8_stairAt wsX8_requireIndex := goodIn_ca (goodIn_r _ [134, 135, 136] (by decide +kernel) (by decide +kernel)) (goodIn_sub (fun _ h => List.mem_cons_of_mem _ (List.mem_append_right _ h)) (by decide +kernel))
set_option maxRecDepth 20000 in
theorem gX8_stairAt_X8_requireIndex : GoodIn wsX8_stairAt (va_wsS RX8 62 yX8_requireIndex wsX8_requireIndex) := goodIn_app (goodIn_of _ (by decide +kernel)) ggX8_stairAt_X8_requireIndex
set_option maxRecDepth 20000 in
theorem ggX8_stairAt_X3_stairAround : GoodIn wsX8_stairAt wsX3_stairAround := goodIn_r _ [140, 16, 120, 121, 122, 13, 123, 101, 104, 27, 28, 29, 30, 31, 44, 45, 46, 47, 48, 49, 50, 51, 124, 125, 126, 127, 141, 142, 143, 144, 15, 145, 41, 42, 21, 43, 24, 23, 26, 146, 78, 79, 80, 81, 155, 156, 157, 158, 159, 160, 179, 161, 162, 163, 164, 165, 166, 167, 168, 169, 170, 176, 177, 178] (by decide +kernel) (by decide +kernel)
set_option maxRecDepth 20000 in
theorem gX8_stairAt_X3_stairAround : GoodIn wsX8_stairAt (wsV RX8 137 RX3 yX3_stairAround wsX3_stairAround) := goodIn_app (goodIn_of _ (by decide +kernel)) ggX8_stairAt_X3_stairAround
theorem dX8_stairAt_0 : decode cX8_stairAt 0 = .ok (.aload_n 0, 1) := by decide +kernel
theorem dX8_stairAt_1 : decode cX8_stairAt 1 = .ok (.invokevirtual 124, 3) := by decide +kernel
theorem dX8_stairAt_4 : decode cX8_stairAt 4 = .ok (.iload_n 1, 1) := by decide +kernel
theorem dX8_stairAt_5 : decode cX8_stairAt 5 = .ok (.aload_n 0, 1) := by decide +kernel
theorem dX8_stairAt_6 : decode cX8_stairAt 6 = .ok (.getfield 21, 3) := by decide +kernel
theorem dX8_stairAt_9 : decode cX8_stairAt 9 = .ok (.getfield 127, 3) := by decide +kernel
theorem dX8_stairAt_12 : decode cX8_stairAt 12 = .ok (.invokestatic 62, 3) := by decide +kernel
theorem dX8_stairAt_15 : decode cX8_stairAt 15 = .ok (.aload_n 0, 1) := by decide +kernel
theorem dX8_stairAt_16 : decode cX8_stairAt 16 = .ok (.getfield 21, 3) := by decide +kernel
theorem dX8_stairAt_19 : decode cX8_stairAt 19 = .ok (.iload_n 1, 1) := by decide +kernel
theorem dX8_stairAt_20 : decode cX8_stairAt 20 = .ok (.invokevirtual 137, 3) := by decide +kernel
theorem dX8_stairAt_23 : decode cX8_stairAt 23 = .ok (.ireturn, 1) := by decide +kernel
set_option maxRecDepth 20000 in
theorem ggX8_reason_X8_requireIndex : GoodIn wsX8_reason wsX8_requireIndex := goodIn_ca (goodIn_r _ [6, 7, 8] (by decide +kernel) (by decide +kernel)) (goodIn_sub (fun _ h => List.mem_cons_of_mem _ (List.mem_append_right _ h)) (by decide +kernel))
set_option maxRecDepth 20000 in
theorem gX8_reason_X8_requireIndex : GoodIn wsX8_reason (va_wsS RX8 62 yX8_requireIndex wsX8_requireIndex) := goodIn_app (goodIn_of _ (by decide +kernel)) ggX8_reason_X8_requireIndex
set_option maxRecDepth 20000 in
theorem ggX8_reason_X8_refresh : GoodIn wsX8_reason wsX8_refresh := goodIn_r _ [12, 13, 2, 1, 14, 15, 16, 17, 18, 19, 20, 21, 22, 23, 24, 25, 26, 27, 28, 29, 30, 31, 32, 33, 34, 35, 36, 37, 38, 39, 40, 41, 42, 43, 44, 45, 46, 47, 48, 49, 50, 51, 52, 53, 54, 55, 56, 57, 58, 59, 60, 61, 62, 63, 64, 65, 66, 67, 68, 69, 70, 71, 72, 73, 74, 75, 76, 77, 78, 79, 80, 81, 82, 83, 84, 85, 86, 87, 88, 89, 90, 91, 92, 93, 94, 95, 96, 97, 98, 99, 100, 101, 102, 103, 104, 105, 106, 107, 108, 109, 110, 111, 112, 113, 114, 115, 116, 117, 118, 119, 120, 121, 122, 123, 124, 125, 126, 127, 128, 129, 130, 131, 132, 133, 134, 135, 136, 142, 143, 144, 145, 146, 147, 148, 149, 150, 151, 152, 153, 154, 155, 156, 157, 158, 159, 160, 161, 162, 163, 164, 165, 166, 167, 168, 169, 170, 171, 172, 173, 174, 175, 176, 177, 178, 179] (by decide +kernel) (by decide +kernel)
set_option maxRecDepth 20000 in
theorem gX8_reason_X8_refresh : GoodIn wsX8_reason (wsV RX8 124 RX8 yX8_refresh wsX8_refresh) := goodIn_app (goodIn_of _ (by decide +kernel)) ggX8_reason_X8_refresh
set_option maxRecDepth 20000 in
theorem ggX8_reason_X3_reasonBehind : GoodIn wsX8_reason wsX3_reasonBehind := goodIn_r _ [140, 107, 106, 21, 20, 109, 32, 33, 34, 35, 36, 49, 50, 51, 52, 53, 54, 55, 56, 141, 46, 47, 26, 48, 29, 28, 31, 160, 161, 162, 163, 164, 165, 150, 151, 152, 153, 154, 155, 156, 157, 158, 159, 174, 171, 172, 173] (by decide +kernel) (by decide +kernel)
set_option maxRecDepth 20000 in
theorem gX8_reason_X3_reasonBehind : GoodIn wsX8_reason (wsV RX8 140 RX3 yX3_reasonBehind wsX3_reasonBehind) := goodIn_app (goodIn_of _ (by decide +kernel)) ggX8_reason_X3_reasonBehind
theorem dX8_reason_0 : decode cX8_reason 0 = .ok (.iload_n 1, 1) := by decide +kernel
theorem dX8_reason_1 : decode cX8_reason 1 = .ok (.aload_n 0, 1) := by decide +kernel
theorem dX8_reason_2 : decode cX8_reason 2 = .ok (.getfield 10, 3) := by decide +kernel
theorem dX8_reason_5 : decode cX8_reason 5 = .ok (.getfield 58, 3) := by decide +kernel
theorem dX8_reason_8 : decode cX8_reason 8 = .ok (.invokestatic 62, 3) := by decide +kernel
theorem dX8_reason_11 : decode cX8_reason 11 = .ok (.aload_n 0, 1) := by decide +kernel
theorem dX8_reason_12 : decode cX8_reason 12 = .ok (.invokevirtual 124, 3) := by decide +kernel
theorem dX8_reason_15 : decode cX8_reason 15 = .ok (.aload_n 0, 1) := by decide +kernel
theorem dX8_reason_16 : decode cX8_reason 16 = .ok (.getfield 21, 3) := by decide +kernel
theorem dX8_reason_19 : decode cX8_reason 19 = .ok (.iload_n 1, 1) := by decide +kernel
theorem dX8_reason_20 : decode cX8_reason 20 = .ok (.invokevirtual 140, 3) := by decide +kernel
theorem dX8_reason_23 : decode cX8_reason 23 = .ok (.ireturn, 1) := by decide +kernel
set_option maxRecDepth 20000 in
theorem ggX8_paragraphs_X7_countParagraphs : GoodIn wsX8_paragraphs wsX7_countParagraphs := goodIn_r _ [6, 7, 8, 9, 10, 5, 11, 12, 13, 14, 15, 16, 17, 18, 27, 28, 29, 30, 31, 32, 33, 34, 35, 36, 37] (by decide +kernel) (by decide +kernel)
set_option maxRecDepth 20000 in
theorem gX8_paragraphs_X7_countParagraphs : GoodIn wsX8_paragraphs (wsV RX8 143 RX7 yX7_countParagraphs wsX7_countParagraphs) := goodIn_app (goodIn_of _ (by decide +kernel)) ggX8_paragraphs_X7_countParagraphs
theorem dX8_paragraphs_0 : decode cX8_paragraphs 0 = .ok (.aload_n 0, 1) := by decide +kernel
theorem dX8_paragraphs_1 : decode cX8_paragraphs 1 = .ok (.getfield 10, 3) := by decide +kernel
theorem dX8_paragraphs_4 : decode cX8_paragraphs 4 = .ok (.invokevirtual 143, 3) := by decide +kernel
theorem dX8_paragraphs_7 : decode cX8_paragraphs 7 = .ok (.ireturn, 1) := by decide +kernel
set_option maxRecDepth 20000 in
theorem ggX8_stairs_X8_refresh : GoodIn wsX8_stairs wsX8_refresh := goodIn_r _ [6, 7, 1, 8, 9, 10, 11, 12, 13, 14, 15, 16, 17, 18, 19, 20, 21, 22, 23, 24, 25, 26, 27, 28, 29, 30, 31, 32, 33, 34, 35, 36, 37, 38, 39, 40, 41, 42, 43, 44, 45, 46, 47, 48, 49, 50, 51, 52, 53, 54, 55, 56, 57, 58, 59, 60, 61, 62, 63, 64, 65, 66, 67, 68, 69, 70, 71, 72, 73, 74, 75, 76, 77, 78, 79, 80, 81, 82, 83, 84, 85, 86, 87, 88, 89, 90, 91, 92, 93, 94, 95, 96, 97, 98, 99, 100, 101, 102, 103, 104, 105, 106, 107, 108, 109, 110, 111, 112, 113, 114, 115, 116, 117, 118, 119, 120, 121, 122, 123, 124, 125, 126, 127, 128, 129, 130, 131, 146, 147, 148, 149, 150, 151, 152, 153, 154, 155, 156, 157, 158, 159, 160, 161, 162, 163, 164, 165, 166, 167, 168, 169, 170, 171, 172, 173, 174, 175, 176, 177, 178, 179, 180, 181, 182, 183] (by decide +kernel) (by decide +kernel)
set_option maxRecDepth 20000 in
theorem gX8_stairs_X8_refresh : GoodIn wsX8_stairs (wsV RX8 124 RX8 yX8_refresh wsX8_refresh) := goodIn_app (goodIn_of _ (by decide +kernel)) ggX8_stairs_X8_refresh
set_option maxRecDepth 20000 in
theorem ggX8_stairs_X3_countStairs : GoodIn wsX8_stairs wsX3_countStairs := goodIn_r _ [135, 100, 136, 137, 138, 13, 139, 16, 120, 121, 122, 123, 101, 104, 27, 28, 29, 30, 31, 44, 45, 46, 47, 48, 49, 50, 51, 124, 125, 126, 127, 140, 141, 142, 143, 15, 144, 41, 42, 21, 43, 24, 23, 26, 145, 78, 79, 80, 81, 164, 165, 166, 167, 168, 169, 178, 154, 155, 156, 157, 158, 159, 160, 161, 162, 163, 175, 176, 177] (by decide +kernel) (by decide +kernel)
set_option maxRecDepth 20000 in
theorem gX8_stairs_X3_countStairs : GoodIn wsX8_stairs (wsV RX8 147 RX3 yX3_countStairs wsX3_countStairs) := goodIn_app (goodIn_of _ (by decide +kernel)) ggX8_stairs_X3_countStairs
theorem dX8_stairs_0 : decode cX8_stairs 0 = .ok (.aload_n 0, 1) := by decide +kernel
theorem dX8_stairs_1 : decode cX8_stairs 1 = .ok (.invokevirtual 124, 3) := by decide +kernel
theorem dX8_stairs_4 : decode cX8_stairs 4 = .ok (.aload_n 0, 1) := by decide +kernel
theorem dX8_stairs_5 : decode cX8_stairs 5 = .ok (.getfield 21, 3) := by decide +kernel
theorem dX8_stairs_8 : decode cX8_stairs 8 = .ok (.invokevirtual 147, 3) := by decide +kernel
theorem dX8_stairs_11 : decode cX8_stairs 11 = .ok (.ireturn, 1) := by decide +kernel
set_option maxRecDepth 20000 in
theorem ggX8_cost_X8_refresh : GoodIn wsX8_cost wsX8_refresh := goodIn_r _ [6, 7, 1, 8, 9, 10, 11, 12, 13, 14, 15, 16, 17, 18, 19, 20, 21, 22, 23, 24, 25, 26, 27, 28, 29, 30, 31, 32, 33, 34, 35, 36, 37, 38, 39, 40, 41, 42, 43, 44, 45, 46, 47, 48, 49, 50, 51, 52, 53, 54, 55, 56, 57, 58, 59, 60, 61, 62, 63, 64, 65, 66, 67, 68, 69, 70, 71, 72, 73, 74, 75, 76, 77, 78, 79, 80, 81, 82, 83, 84, 85, 86, 87, 88, 89, 90, 91, 92, 93, 94, 95, 96, 97, 98, 99, 100, 101, 102, 103, 104, 105, 106, 107, 108, 109, 110, 111, 112, 113, 114, 115, 116, 117, 118, 119, 120, 121, 122, 123, 124, 125, 126, 127, 128, 129, 130, 131, 148, 149, 150, 151, 152, 153, 154, 155, 156, 157, 158, 159, 160, 161, 162, 163, 164, 165, 166, 167, 168, 169, 170, 171, 172, 173, 174, 175, 176, 177, 178, 179, 180, 181, 182, 183, 184, 185] (by decide +kernel) (by decide +kernel)
set_option maxRecDepth 20000 in
theorem gX8_cost_X8_refresh : GoodIn wsX8_cost (wsV RX8 124 RX8 yX8_refresh wsX8_refresh) := goodIn_app (goodIn_of _ (by decide +kernel)) ggX8_cost_X8_refresh
set_option maxRecDepth 20000 in
theorem ggX8_cost_X3_totalCost : GoodIn wsX8_cost wsX3_totalCost := goodIn_r _ [135, 100, 16, 136, 137, 138, 13, 139, 15, 101, 104, 27, 28, 29, 30, 31, 140, 41, 42, 21, 43, 24, 23, 26, 124, 125, 126, 127, 44, 45, 46, 47, 48, 49, 50, 51, 120, 121, 122, 123, 141, 72, 73, 74, 75, 76, 142, 83, 84, 85, 143, 144, 145, 146, 147, 78, 79, 80, 81, 166, 167, 168, 169, 170, 171, 156, 157, 158, 159, 160, 161, 162, 163, 164, 165, 180, 177, 178, 179] (by decide +kernel) (by decide +kernel)
set_option maxRecDepth 20000 in
theorem gX8_cost_X3_totalCost : GoodIn wsX8_cost (wsV RX8 150 RX3 yX3_totalCost wsX3_totalCost) := goodIn_app (goodIn_of _ (by decide +kernel)) ggX8_cost_X3_totalCost
theorem dX8_cost_0 : decode cX8_cost 0 = .ok (.aload_n 0, 1) := by decide +kernel
theorem dX8_cost_1 : decode cX8_cost 1 = .ok (.invokevirtual 124, 3) := by decide +kernel
theorem dX8_cost_4 : decode cX8_cost 4 = .ok (.aload_n 0, 1) := by decide +kernel
theorem dX8_cost_5 : decode cX8_cost 5 = .ok (.getfield 21, 3) := by decide +kernel
theorem dX8_cost_8 : decode cX8_cost 8 = .ok (.invokevirtual 150, 3) := by decide +kernel
theorem dX8_cost_11 : decode cX8_cost 11 = .ok (.ireturn, 1) := by decide +kernel
set_option maxRecDepth 20000 in
theorem ggX8_pages_X8_refresh : GoodIn wsX8_pages wsX8_refresh := goodIn_r _ [6, 7, 8, 9, 1, 10, 11, 12, 13, 14, 15, 16, 17, 18, 19, 20, 21, 22, 23, 24, 25, 26, 27, 28, 29, 30, 31, 32, 33, 34, 35, 36, 37, 38, 39, 40, 41, 42, 43, 44, 45, 46, 47, 48, 49, 50, 51, 52, 53, 54, 55, 56, 57, 58, 59, 60, 61, 62, 63, 64, 65, 66, 67, 68, 69, 70, 71, 72, 73, 74, 75, 76, 77, 78, 79, 80, 81, 82, 83, 84, 85, 86, 87, 88, 89, 90, 91, 92, 93, 94, 95, 96, 97, 98, 99, 100, 101, 102, 103, 104, 105, 106, 107, 108, 109, 110, 111, 112, 113, 114, 115, 116, 117, 118, 119, 120, 121, 122, 123, 124, 125, 126, 127, 128, 129, 130, 131, 132, 133, 134, 135, 136, 137, 138, 139, 145, 146, 147, 148, 149, 150, 151, 152, 153, 154, 155, 156, 157, 158, 159, 160, 161, 162, 163, 164, 165, 166, 167, 168, 169, 140, 141, 142, 143, 144] (by decide +kernel) (by decide +kernel)
set_option maxRecDepth 20000 in
theorem gX8_pages_X8_refresh : GoodIn wsX8_pages (wsV RX8 124 RX8 yX8_refresh wsX8_refresh) := goodIn_app (goodIn_of _ (by decide +kernel)) ggX8_pages_X8_refresh
theorem dX8_pages_0 : decode cX8_pages 0 = .ok (.aload_n 0, 1) := by decide +kernel
theorem dX8_pages_1 : decode cX8_pages 1 = .ok (.invokevirtual 124, 3) := by decide +kernel
theorem dX8_pages_4 : decode cX8_pages 4 = .ok (.aload_n 0, 1) := by decide +kernel
theorem dX8_pages_5 : decode cX8_pages 5 = .ok (.getfield 30, 3) := by decide +kernel
theorem dX8_pages_8 : decode cX8_pages 8 = .ok (.getfield 153, 3) := by decide +kernel
theorem dX8_pages_11 : decode cX8_pages 11 = .ok (.ireturn, 1) := by decide +kernel
set_option maxRecDepth 20000 in
theorem ggX8_pageOf_X8_refresh : GoodIn wsX8_pageOf wsX8_refresh := goodIn_r _ [7, 8, 1, 9, 2, 10, 11, 12, 13, 14, 15, 16, 17, 18, 19, 20, 21, 22, 23, 24, 25, 26, 27, 28, 29, 30, 31, 32, 33, 34, 35, 36, 37, 38, 39, 40, 41, 42, 43, 44, 45, 46, 47, 48, 49, 50, 51, 52, 53, 54, 55, 56, 57, 58, 59, 60, 61, 62, 63, 64, 65, 66, 67, 68, 69, 70, 71, 72, 73, 74, 75, 76, 77, 78, 79, 80, 81, 82, 83, 84, 85, 86, 87, 88, 89, 90, 91, 92, 93, 94, 95, 96, 97, 98, 99, 100, 101, 102, 103, 104, 105, 106, 107, 108, 109, 110, 111, 112, 113, 114, 115, 116, 117, 118, 119, 120, 121, 122, 123, 124, 125, 126, 127, 128, 129, 130, 131, 138, 139, 140, 141, 142, 143, 144, 145, 157, 158, 159, 160, 161, 162, 163, 164, 165, 166, 146, 147, 148, 149, 150, 151, 167, 168, 169, 170, 171, 172, 173, 174, 175, 152, 153, 154, 155, 156] (by decide +kernel) (by decide +kernel)
set_option maxRecDepth 20000 in
theorem gX8_pageOf_X8_refresh : GoodIn wsX8_pageOf (wsV RX8 124 RX8 yX8_refresh wsX8_refresh) := goodIn_app (goodIn_of _ (by decide +kernel)) ggX8_pageOf_X8_refresh
set_option maxRecDepth 20000 in
theorem ggX8_pageOf_X8_requireIndex : GoodIn wsX8_pageOf wsX8_requireIndex := goodIn_ca (goodIn_r _ [134, 135, 136] (by decide +kernel) (by decide +kernel)) (goodIn_sub (fun _ h => List.mem_cons_of_mem _ (List.mem_append_right _ h)) (by decide +kernel))
set_option maxRecDepth 20000 in
theorem gX8_pageOf_X8_requireIndex : GoodIn wsX8_pageOf (va_wsS RX8 62 yX8_requireIndex wsX8_requireIndex) := goodIn_app (goodIn_of _ (by decide +kernel)) ggX8_pageOf_X8_requireIndex
set_option maxRecDepth 20000 in
theorem ggX8_pageOf_X6_at : GoodIn wsX8_pageOf wsX6_at := goodIn_r _ [30, 31, 175] (by decide +kernel) (by decide +kernel)
set_option maxRecDepth 20000 in
theorem gX8_pageOf_X6_at : GoodIn wsX8_pageOf (wsV RX8 87 RX6 yX6_at wsX6_at) := goodIn_app (goodIn_of _ (by decide +kernel)) ggX8_pageOf_X6_at
theorem dX8_pageOf_0 : decode cX8_pageOf 0 = .ok (.aload_n 0, 1) := by decide +kernel
theorem dX8_pageOf_1 : decode cX8_pageOf 1 = .ok (.invokevirtual 124, 3) := by decide +kernel
theorem dX8_pageOf_4 : decode cX8_pageOf 4 = .ok (.iload_n 1, 1) := by decide +kernel
theorem dX8_pageOf_5 : decode cX8_pageOf 5 = .ok (.aload_n 0, 1) := by decide +kernel
theorem dX8_pageOf_6 : decode cX8_pageOf 6 = .ok (.getfield 21, 3) := by decide +kernel
theorem dX8_pageOf_9 : decode cX8_pageOf 9 = .ok (.getfield 127, 3) := by decide +kernel
theorem dX8_pageOf_12 : decode cX8_pageOf 12 = .ok (.invokestatic 62, 3) := by decide +kernel
theorem dX8_pageOf_15 : decode cX8_pageOf 15 = .ok (.aload_n 0, 1) := by decide +kernel
theorem dX8_pageOf_16 : decode cX8_pageOf 16 = .ok (.getfield 30, 3) := by decide +kernel
theorem dX8_pageOf_19 : decode cX8_pageOf 19 = .ok (.getfield 154, 3) := by decide +kernel
theorem dX8_pageOf_22 : decode cX8_pageOf 22 = .ok (.iload_n 1, 1) := by decide +kernel
theorem dX8_pageOf_23 : decode cX8_pageOf 23 = .ok (.invokevirtual 87, 3) := by decide +kernel
theorem dX8_pageOf_26 : decode cX8_pageOf 26 = .ok (.ireturn, 1) := by decide +kernel
set_option maxRecDepth 20000 in
theorem ggX8_linesOn_X8_refresh : GoodIn wsX8_linesOn wsX8_refresh := goodIn_r _ [6, 7, 8, 9, 1, 10, 11, 12, 13, 14, 15, 16, 17, 18, 19, 20, 21, 22, 23, 24, 25, 26, 27, 28, 29, 30, 31, 32, 33, 34, 35, 36, 37, 38, 39, 40, 41, 42, 43, 44, 45, 46, 47, 48, 49, 50, 51, 52, 53, 54, 55, 56, 57, 58, 59, 60, 61, 62, 63, 64, 65, 66, 67, 68, 69, 70, 71, 72, 73, 74, 75, 76, 77, 78, 79, 80, 81, 82, 83, 84, 85, 86, 87, 88, 89, 90, 91, 92, 93, 94, 95, 96, 97, 98, 99, 100, 101, 102, 103, 104, 105, 106, 107, 108, 109, 110, 111, 112, 113, 114, 115, 116, 117, 118, 119, 120, 121, 122, 123, 124, 125, 126, 127, 128, 129, 130, 131, 138, 139, 140, 141, 142, 143, 144, 145, 151, 152, 153, 154, 155, 156, 157, 158, 159, 160, 161, 162, 163, 164, 165, 166, 167, 168, 169, 170, 171, 172, 173, 174, 175, 146, 147, 148, 149, 150] (by decide +kernel) (by decide +kernel)
set_option maxRecDepth 20000 in
theorem gX8_linesOn_X8_refresh : GoodIn wsX8_linesOn (wsV RX8 124 RX8 yX8_refresh wsX8_refresh) := goodIn_app (goodIn_of _ (by decide +kernel)) ggX8_linesOn_X8_refresh
set_option maxRecDepth 20000 in
theorem ggX8_linesOn_X8_requireIndex : GoodIn wsX8_linesOn wsX8_requireIndex := goodIn_ca (goodIn_r _ [134, 135, 136] (by decide +kernel) (by decide +kernel)) (goodIn_sub (fun _ h => List.mem_cons_of_mem _ (List.mem_append_right _ h)) (by decide +kernel))
set_option maxRecDepth 20000 in
theorem gX8_linesOn_X8_requireIndex : GoodIn wsX8_linesOn (va_wsS RX8 62 yX8_requireIndex wsX8_requireIndex) := goodIn_app (goodIn_of _ (by decide +kernel)) ggX8_linesOn_X8_requireIndex
set_option maxRecDepth 20000 in
theorem ggX8_linesOn_X6_at : GoodIn wsX8_linesOn wsX6_at := goodIn_r _ [30, 31, 175] (by decide +kernel) (by decide +kernel)
set_option maxRecDepth 20000 in
theorem gX8_linesOn_X6_at : GoodIn wsX8_linesOn (wsV RX8 87 RX6 yX6_at wsX6_at) := goodIn_app (goodIn_of _ (by decide +kernel)) ggX8_linesOn_X6_at
theorem dX8_linesOn_0 : decode cX8_linesOn 0 = .ok (.aload_n 0, 1) := by decide +kernel
theorem dX8_linesOn_1 : decode cX8_linesOn 1 = .ok (.invokevirtual 124, 3) := by decide +kernel
theorem dX8_linesOn_4 : decode cX8_linesOn 4 = .ok (.iload_n 1, 1) := by decide +kernel
theorem dX8_linesOn_5 : decode cX8_linesOn 5 = .ok (.aload_n 0, 1) := by decide +kernel
theorem dX8_linesOn_6 : decode cX8_linesOn 6 = .ok (.getfield 30, 3) := by decide +kernel
theorem dX8_linesOn_9 : decode cX8_linesOn 9 = .ok (.getfield 153, 3) := by decide +kernel
theorem dX8_linesOn_12 : decode cX8_linesOn 12 = .ok (.invokestatic 62, 3) := by decide +kernel
theorem dX8_linesOn_15 : decode cX8_linesOn 15 = .ok (.aload_n 0, 1) := by decide +kernel
theorem dX8_linesOn_16 : decode cX8_linesOn 16 = .ok (.getfield 30, 3) := by decide +kernel
theorem dX8_linesOn_19 : decode cX8_linesOn 19 = .ok (.getfield 157, 3) := by decide +kernel
theorem dX8_linesOn_22 : decode cX8_linesOn 22 = .ok (.iload_n 1, 1) := by decide +kernel
theorem dX8_linesOn_23 : decode cX8_linesOn 23 = .ok (.iconst 1, 1) := by decide +kernel
theorem dX8_linesOn_24 : decode cX8_linesOn 24 = .ok (.iadd, 1) := by decide +kernel
theorem dX8_linesOn_25 : decode cX8_linesOn 25 = .ok (.invokevirtual 87, 3) := by decide +kernel
theorem dX8_linesOn_28 : decode cX8_linesOn 28 = .ok (.aload_n 0, 1) := by decide +kernel
theorem dX8_linesOn_29 : decode cX8_linesOn 29 = .ok (.getfield 30, 3) := by decide +kernel
theorem dX8_linesOn_32 : decode cX8_linesOn 32 = .ok (.getfield 157, 3) := by decide +kernel
theorem dX8_linesOn_35 : decode cX8_linesOn 35 = .ok (.iload_n 1, 1) := by decide +kernel
theorem dX8_linesOn_36 : decode cX8_linesOn 36 = .ok (.invokevirtual 87, 3) := by decide +kernel
theorem dX8_linesOn_39 : decode cX8_linesOn 39 = .ok (.isub, 1) := by decide +kernel
theorem dX8_linesOn_40 : decode cX8_linesOn 40 = .ok (.ireturn, 1) := by decide +kernel
set_option maxRecDepth 20000 in
theorem ggX8_widows_X8_refresh : GoodIn wsX8_widows wsX8_refresh := goodIn_r _ [6, 7, 8, 9, 1, 10, 11, 12, 13, 14, 15, 16, 17, 18, 19, 20, 21, 22, 23, 24, 25, 26, 27, 28, 29, 30, 31, 32, 33, 34, 35, 36, 37, 38, 39, 40, 41, 42, 43, 44, 45, 46, 47, 48, 49, 50, 51, 52, 53, 54, 55, 56, 57, 58, 59, 60, 61, 62, 63, 64, 65, 66, 67, 68, 69, 70, 71, 72, 73, 74, 75, 76, 77, 78, 79, 80, 81, 82, 83, 84, 85, 86, 87, 88, 89, 90, 91, 92, 93, 94, 95, 96, 97, 98, 99, 100, 101, 102, 103, 104, 105, 106, 107, 108, 109, 110, 111, 112, 113, 114, 115, 116, 117, 118, 119, 120, 121, 122, 123, 124, 125, 126, 127, 128, 129, 130, 131, 137, 138, 139, 140, 141, 142, 143, 144, 145, 146, 147, 148, 149, 150, 151, 152, 153, 154, 155, 156, 157, 158, 159, 160, 161, 162, 163, 164, 165, 166, 167, 168, 169, 170, 171, 172, 173, 174] (by decide +kernel) (by decide +kernel)
set_option maxRecDepth 20000 in
theorem gX8_widows_X8_refresh : GoodIn wsX8_widows (wsV RX8 124 RX8 yX8_refresh wsX8_refresh) := goodIn_app (goodIn_of _ (by decide +kernel)) ggX8_widows_X8_refresh
set_option maxRecDepth 20000 in
theorem ggX8_widows_X5_countWidows : GoodIn wsX8_widows wsX5_countWidows := goodIn_r _ [135, 110, 111, 112, 136, 27, 28, 29, 30, 31, 128, 129, 130, 13, 131, 124, 125, 126, 127, 16, 101, 104, 44, 45, 46, 47, 48, 49, 50, 51, 120, 121, 122, 123, 170, 171, 172, 173, 174, 169, 155, 156, 157, 158, 159, 160, 145, 146, 147, 148, 149, 150, 151, 152, 153, 154] (by decide +kernel) (by decide +kernel)
set_option maxRecDepth 20000 in
theorem gX8_widows_X5_countWidows : GoodIn wsX8_widows (wsV RX8 158 RX5 yX5_countWidows wsX5_countWidows) := goodIn_app (goodIn_of _ (by decide +kernel)) ggX8_widows_X5_countWidows
theorem dX8_widows_0 : decode cX8_widows 0 = .ok (.aload_n 0, 1) := by decide +kernel
theorem dX8_widows_1 : decode cX8_widows 1 = .ok (.invokevirtual 124, 3) := by decide +kernel
theorem dX8_widows_4 : decode cX8_widows 4 = .ok (.aload_n 0, 1) := by decide +kernel
theorem dX8_widows_5 : decode cX8_widows 5 = .ok (.getfield 30, 3) := by decide +kernel
theorem dX8_widows_8 : decode cX8_widows 8 = .ok (.invokevirtual 158, 3) := by decide +kernel
theorem dX8_widows_11 : decode cX8_widows 11 = .ok (.ireturn, 1) := by decide +kernel
set_option maxRecDepth 20000 in
theorem ggX8_orphans_X8_refresh : GoodIn wsX8_orphans wsX8_refresh := goodIn_r _ [6, 7, 8, 9, 1, 10, 11, 12, 13, 14, 15, 16, 17, 18, 19, 20, 21, 22, 23, 24, 25, 26, 27, 28, 29, 30, 31, 32, 33, 34, 35, 36, 37, 38, 39, 40, 41, 42, 43, 44, 45, 46, 47, 48, 49, 50, 51, 52, 53, 54, 55, 56, 57, 58, 59, 60, 61, 62, 63, 64, 65, 66, 67, 68, 69, 70, 71, 72, 73, 74, 75, 76, 77, 78, 79, 80, 81, 82, 83, 84, 85, 86, 87, 88, 89, 90, 91, 92, 93, 94, 95, 96, 97, 98, 99, 100, 101, 102, 103, 104, 105, 106, 107, 108, 109, 110, 111, 112, 113, 114, 115, 116, 117, 118, 119, 120, 121, 122, 123, 124, 125, 126, 127, 128, 129, 130, 131, 137, 138, 139, 140, 141, 142, 143, 144, 145, 146, 147, 148, 149, 150, 151, 152, 153, 154, 155, 156, 157, 158, 159, 160, 161, 162, 163, 164, 165, 166, 167, 168, 169, 170, 171, 172, 173, 174] (by decide +kernel) (by decide +kernel)
set_option maxRecDepth 20000 in
theorem gX8_orphans_X8_refresh : GoodIn wsX8_orphans (wsV RX8 124 RX8 yX8_refresh wsX8_refresh) := goodIn_app (goodIn_of _ (by decide +kernel)) ggX8_orphans_X8_refresh
set_option maxRecDepth 20000 in
theorem ggX8_orphans_X5_countOrphans : GoodIn wsX8_orphans wsX5_countOrphans := goodIn_r _ [135, 110, 111, 112, 136, 27, 28, 29, 30, 31, 116, 117, 118, 13, 119, 120, 121, 122, 123, 101, 16, 104, 44, 45, 46, 47, 48, 49, 50, 51, 124, 125, 126, 127, 170, 171, 172, 173, 174, 169, 155, 156, 157, 158, 159, 160, 145, 146, 147, 148, 149, 150, 151, 152, 153, 154] (by decide +kernel) (by decide +kernel)
set_option maxRecDepth 20000 in
theorem gX8_orphans_X5_countOrphans : GoodIn wsX8_orphans (wsV RX8 161 RX5 yX5_countOrphans wsX5_countOrphans) := goodIn_app (goodIn_of _ (by decide +kernel)) ggX8_orphans_X5_countOrphans
theorem dX8_orphans_0 : decode cX8_orphans 0 = .ok (.aload_n 0, 1) := by decide +kernel
theorem dX8_orphans_1 : decode cX8_orphans 1 = .ok (.invokevirtual 124, 3) := by decide +kernel
theorem dX8_orphans_4 : decode cX8_orphans 4 = .ok (.aload_n 0, 1) := by decide +kernel
theorem dX8_orphans_5 : decode cX8_orphans 5 = .ok (.getfield 30, 3) := by decide +kernel
theorem dX8_orphans_8 : decode cX8_orphans 8 = .ok (.invokevirtual 161, 3) := by decide +kernel
theorem dX8_orphans_11 : decode cX8_orphans 11 = .ok (.ireturn, 1) := by decide +kernel
set_option maxRecDepth 20000 in
theorem ggX8_costFor_X8_requireRange : GoodIn wsX8_costFor wsX8_requireRange := goodIn_ca (goodIn_r _ [7, 8, 9] (by decide +kernel) (by decide +kernel)) (goodIn_sub (fun _ h => List.mem_cons_of_mem _ (List.mem_append_right _ h)) (by decide +kernel))
set_option maxRecDepth 20000 in
theorem gX8_costFor_X8_requireRange : GoodIn wsX8_costFor (va_wsS RX8 66 yX8_requireRange wsX8_requireRange) := goodIn_app (goodIn_of _ (by decide +kernel)) ggX8_costFor_X8_requireRange
set_option maxRecDepth 20000 in
theorem ggX8_costFor_X7_copyFrom : GoodIn wsX8_costFor wsX7_copyFrom := goodIn_r _ [14, 15, 16, 17, 18, 19, 20, 21, 22, 23, 24, 25, 26, 27, 28, 29, 30, 31, 32, 33, 34, 151, 152, 153, 154, 155, 156, 157, 158, 159, 160, 161] (by decide +kernel) (by decide +kernel)
set_option maxRecDepth 20000 in
theorem gX8_costFor_X7_copyFrom : GoodIn wsX8_costFor (wsV RX8 164 RX7 yX7_copyFrom wsX7_copyFrom) := goodIn_app (goodIn_of _ (by decide +kernel)) ggX8_costFor_X7_copyFrom
set_option maxRecDepth 20000 in
theorem ggX8_costFor_X3_arrange : GoodIn wsX8_costFor wsX3_arrange := goodIn_r _ [39, 40, 41, 42, 43, 44, 45, 46, 47, 48, 49, 50, 51, 32, 33, 28, 34, 30, 52, 53, 54, 55, 56, 57, 58, 59, 60, 61, 62, 63, 64, 65, 66, 13, 67, 16, 17, 68, 69, 70, 71, 72, 73, 74, 75, 76, 77, 78, 79, 80, 81, 82, 83, 84, 85, 86, 87, 88, 89, 90, 91, 18, 22, 92, 93, 94, 95, 20, 96, 97, 98, 99, 100, 101, 102, 103, 104, 105, 106, 107, 108, 109, 110, 111, 112, 38, 113, 114, 115, 116, 117, 118, 162, 163, 164, 165, 166, 167, 151, 152, 153, 154, 155, 156, 157, 158, 159, 160, 168, 169, 170, 171, 172, 173, 174, 175, 161] (by decide +kernel) (by decide +kernel)
set_option maxRecDepth 20000 in
theorem gX8_costFor_X3_arrange : GoodIn wsX8_costFor (wsV RX8 167 RX3 yX3_arrange wsX3_arrange) := goodIn_app (goodIn_of _ (by decide +kernel)) ggX8_costFor_X3_arrange
set_option maxRecDepth 20000 in
theorem ggX8_costFor_X3_totalCost : GoodIn wsX8_costFor wsX3_totalCost := goodIn_r _ [122, 114, 41, 123, 124, 125, 38, 126, 40, 115, 118, 32, 33, 28, 34, 30, 127, 61, 62, 46, 63, 49, 48, 51, 128, 129, 130, 131, 64, 65, 66, 13, 67, 16, 17, 68, 132, 133, 134, 135, 136, 89, 90, 91, 18, 22, 137, 97, 98, 99, 138, 139, 140, 141, 142, 93, 94, 95, 20, 162, 163, 164, 165, 166, 167, 151, 152, 153, 154, 155, 156, 157, 158, 159, 160, 161, 173, 174, 175] (by decide +kernel) (by decide +kernel)
set_option maxRecDepth 20000 in
theorem gX8_costFor_X3_totalCost : GoodIn wsX8_costFor (wsV RX8 150 RX3 yX3_totalCost wsX3_totalCost) := goodIn_app (goodIn_of _ (by decide +kernel)) ggX8_costFor_X3_totalCost
theorem dX8_costFor_0 : decode cX8_costFor 0 = .ok (.iload_n 1, 1) := by decide +kernel
theorem dX8_costFor_1 : decode cX8_costFor 1 = .ok (.bipush 30, 2) := by decide +kernel
theorem dX8_costFor_3 : decode cX8_costFor 3 = .ok (.bipush 100, 2) := by decide +kernel
theorem dX8_costFor_5 : decode cX8_costFor 5 = .ok (.invokestatic 66, 3) := by decide +kernel
theorem dX8_costFor_8 : decode cX8_costFor 8 = .ok (.aload_n 0, 1) := by decide +kernel
theorem dX8_costFor_9 : decode cX8_costFor 9 = .ok (.getfield 34, 3) := by decide +kernel
theorem dX8_costFor_12 : decode cX8_costFor 12 = .ok (.aload_n 0, 1) := by decide +kernel
theorem dX8_costFor_13 : decode cX8_costFor 13 = .ok (.getfield 10, 3) := by decide +kernel
theorem dX8_costFor_16 : decode cX8_costFor 16 = .ok (.invokevirtual 164, 3) := by decide +kernel
theorem dX8_costFor_19 : decode cX8_costFor 19 = .ok (.aload_n 0, 1) := by decide +kernel
theorem dX8_costFor_20 : decode cX8_costFor 20 = .ok (.getfield 34, 3) := by decide +kernel
theorem dX8_costFor_23 : decode cX8_costFor 23 = .ok (.iload_n 1, 1) := by decide +kernel
theorem dX8_costFor_24 : decode cX8_costFor 24 = .ok (.putfield 103, 3) := by decide +kernel
theorem dX8_costFor_27 : decode cX8_costFor 27 = .ok (.aload_n 0, 1) := by decide +kernel
theorem dX8_costFor_28 : decode cX8_costFor 28 = .ok (.getfield 37, 3) := by decide +kernel
theorem dX8_costFor_31 : decode cX8_costFor 31 = .ok (.iload_n 2, 1) := by decide +kernel
theorem dX8_costFor_32 : decode cX8_costFor 32 = .ok (.invokevirtual 167, 3) := by decide +kernel
theorem dX8_costFor_35 : decode cX8_costFor 35 = .ok (.aload_n 0, 1) := by decide +kernel
theorem dX8_costFor_36 : decode cX8_costFor 36 = .ok (.getfield 37, 3) := by decide +kernel
theorem dX8_costFor_39 : decode cX8_costFor 39 = .ok (.invokevirtual 150, 3) := by decide +kernel
theorem dX8_costFor_42 : decode cX8_costFor 42 = .ok (.ireturn, 1) := by decide +kernel
set_option maxRecDepth 20000 in
theorem ggX8_bestColumn_X8_requireRange : GoodIn wsX8_bestColumn wsX8_requireRange := goodIn_ca (goodIn_r _ [8, 9, 10] (by decide +kernel) (by decide +kernel)) (goodIn_sub (fun _ h => List.mem_cons_of_mem _ (List.mem_append_right _ h)) (by decide +kernel))
set_option maxRecDepth 20000 in
theorem gX8_bestColumn_X8_requireRange : GoodIn wsX8_bestColumn (va_wsS RX8 66 yX8_requireRange wsX8_requireRange) := goodIn_app (goodIn_of _ (by decide +kernel)) ggX8_bestColumn_X8_requireRange
set_option maxRecDepth 20000 in
theorem ggX8_bestColumn_X7_copyFrom : GoodIn wsX8_bestColumn wsX7_copyFrom := goodIn_r _ [15, 16, 17, 18, 19, 20, 21, 22, 23, 24, 25, 26, 27, 28, 29, 30, 31, 32, 33, 34, 35, 152, 153, 154, 155, 156, 157, 158, 159, 160, 161, 162] (by decide +kernel) (by decide +kernel)
set_option maxRecDepth 20000 in
theorem gX8_bestColumn_X7_copyFrom : GoodIn wsX8_bestColumn (wsV RX8 164 RX7 yX7_copyFrom wsX7_copyFrom) := goodIn_app (goodIn_of _ (by decide +kernel)) ggX8_bestColumn_X7_copyFrom
set_option maxRecDepth 20000 in
theorem ggX8_bestColumn_X3_arrange : GoodIn wsX8_bestColumn wsX3_arrange := goodIn_r _ [40, 41, 42, 43, 44, 45, 46, 47, 48, 49, 50, 51, 52, 33, 34, 29, 35, 31, 53, 54, 55, 56, 57, 58, 59, 60, 61, 62, 63, 64, 65, 66, 67, 14, 68, 17, 18, 69, 70, 71, 72, 73, 74, 75, 76, 77, 78, 79, 80, 81, 82, 83, 84, 85, 86, 87, 88, 89, 90, 91, 92, 19, 23, 93, 94, 95, 96, 21, 97, 98, 99, 100, 101, 102, 103, 104, 105, 106, 107, 108, 109, 110, 111, 112, 113, 39, 114, 115, 116, 117, 118, 119, 163, 164, 165, 166, 167, 168, 152, 153, 154, 155, 156, 157, 158, 159, 160, 161, 169, 170, 171, 172, 173, 174, 175, 176, 162] (by decide +kernel) (by decide +kernel)
set_option maxRecDepth 20000 in
theorem gX8_bestColumn_X3_arrange : GoodIn wsX8_bestColumn (wsV RX8 167 RX3 yX3_arrange wsX3_arrange) := goodIn_app (goodIn_of _ (by decide +kernel)) ggX8_bestColumn_X3_arrange
set_option maxRecDepth 20000 in
theorem ggX8_bestColumn_X3_totalCost : GoodIn wsX8_bestColumn wsX3_totalCost := goodIn_r _ [123, 115, 42, 124, 125, 126, 39, 127, 41, 116, 119, 33, 34, 29, 35, 31, 128, 62, 63, 47, 64, 50, 49, 52, 129, 130, 131, 132, 65, 66, 67, 14, 68, 17, 18, 69, 133, 134, 135, 136, 137, 90, 91, 92, 19, 23, 138, 98, 99, 100, 139, 140, 141, 142, 143, 94, 95, 96, 21, 163, 164, 165, 166, 167, 168, 152, 153, 154, 155, 156, 157, 158, 159, 160, 161, 162, 174, 175, 176] (by decide +kernel) (by decide +kernel)
set_option maxRecDepth 20000 in
theorem gX8_bestColumn_X3_totalCost : GoodIn wsX8_bestColumn (wsV RX8 150 RX3 yX3_totalCost wsX3_totalCost) := goodIn_app (goodIn_of _ (by decide +kernel)) ggX8_bestColumn_X3_totalCost
theorem dX8_bestColumn_0 : decode cX8_bestColumn 0 = .ok (.iload_n 1, 1) := by decide +kernel
theorem dX8_bestColumn_1 : decode cX8_bestColumn 1 = .ok (.bipush 30, 2) := by decide +kernel
theorem dX8_bestColumn_3 : decode cX8_bestColumn 3 = .ok (.bipush 100, 2) := by decide +kernel
theorem dX8_bestColumn_5 : decode cX8_bestColumn 5 = .ok (.invokestatic 66, 3) := by decide +kernel
theorem dX8_bestColumn_8 : decode cX8_bestColumn 8 = .ok (.iload_n 2, 1) := by decide +kernel
theorem dX8_bestColumn_9 : decode cX8_bestColumn 9 = .ok (.iload_n 1, 1) := by decide +kernel
theorem dX8_bestColumn_10 : decode cX8_bestColumn 10 = .ok (.bipush 100, 2) := by decide +kernel
theorem dX8_bestColumn_12 : decode cX8_bestColumn 12 = .ok (.invokestatic 66, 3) := by decide +kernel
theorem dX8_bestColumn_15 : decode cX8_bestColumn 15 = .ok (.aload_n 0, 1) := by decide +kernel
theorem dX8_bestColumn_16 : decode cX8_bestColumn 16 = .ok (.getfield 34, 3) := by decide +kernel
theorem dX8_bestColumn_19 : decode cX8_bestColumn 19 = .ok (.aload_n 0, 1) := by decide +kernel
theorem dX8_bestColumn_20 : decode cX8_bestColumn 20 = .ok (.getfield 10, 3) := by decide +kernel
theorem dX8_bestColumn_23 : decode cX8_bestColumn 23 = .ok (.invokevirtual 164, 3) := by decide +kernel
theorem dX8_bestColumn_26 : decode cX8_bestColumn 26 = .ok (.iload_n 1, 1) := by decide +kernel
theorem dX8_bestColumn_27 : decode cX8_bestColumn 27 = .ok (.istore_n 3, 1) := by decide +kernel
theorem dX8_bestColumn_28 : decode cX8_bestColumn 28 = .ok (.ldc 173, 2) := by decide +kernel
theorem dX8_bestColumn_30 : decode cX8_bestColumn 30 = .ok (.istore 4, 2) := by decide +kernel
theorem dX8_bestColumn_32 : decode cX8_bestColumn 32 = .ok (.iload_n 1, 1) := by decide +kernel
theorem dX8_bestColumn_33 : decode cX8_bestColumn 33 = .ok (.istore 5, 2) := by decide +kernel
theorem dX8_bestColumn_35 : decode cX8_bestColumn 35 = .ok (.iload 5, 2) := by decide +kernel
theorem dX8_bestColumn_37 : decode cX8_bestColumn 37 = .ok (.iload_n 2, 1) := by decide +kernel
theorem dX8_bestColumn_38 : decode cX8_bestColumn 38 = .ok (.if_icmp .gt 54, 3) := by decide +kernel
theorem dX8_bestColumn_41 : decode cX8_bestColumn 41 = .ok (.iload 4, 2) := by decide +kernel
theorem dX8_bestColumn_43 : decode cX8_bestColumn 43 = .ok (.ifCond .le 49, 3) := by decide +kernel
theorem dX8_bestColumn_46 : decode cX8_bestColumn 46 = .ok (.aload_n 0, 1) := by decide +kernel
theorem dX8_bestColumn_47 : decode cX8_bestColumn 47 = .ok (.getfield 34, 3) := by decide +kernel
theorem dX8_bestColumn_50 : decode cX8_bestColumn 50 = .ok (.iload 5, 2) := by decide +kernel
theorem dX8_bestColumn_52 : decode cX8_bestColumn 52 = .ok (.putfield 103, 3) := by decide +kernel
theorem dX8_bestColumn_55 : decode cX8_bestColumn 55 = .ok (.aload_n 0, 1) := by decide +kernel
theorem dX8_bestColumn_56 : decode cX8_bestColumn 56 = .ok (.getfield 37, 3) := by decide +kernel
theorem dX8_bestColumn_59 : decode cX8_bestColumn 59 = .ok (.iconst 1, 1) := by decide +kernel
theorem dX8_bestColumn_60 : decode cX8_bestColumn 60 = .ok (.invokevirtual 167, 3) := by decide +kernel
theorem dX8_bestColumn_63 : decode cX8_bestColumn 63 = .ok (.aload_n 0, 1) := by decide +kernel
theorem dX8_bestColumn_64 : decode cX8_bestColumn 64 = .ok (.getfield 37, 3) := by decide +kernel
theorem dX8_bestColumn_67 : decode cX8_bestColumn 67 = .ok (.invokevirtual 150, 3) := by decide +kernel
theorem dX8_bestColumn_70 : decode cX8_bestColumn 70 = .ok (.istore 6, 2) := by decide +kernel
theorem dX8_bestColumn_72 : decode cX8_bestColumn 72 = .ok (.iload 6, 2) := by decide +kernel
theorem dX8_bestColumn_74 : decode cX8_bestColumn 74 = .ok (.iload 4, 2) := by decide +kernel
theorem dX8_bestColumn_76 : decode cX8_bestColumn 76 = .ok (.if_icmp .ge 10, 3) := by decide +kernel
theorem dX8_bestColumn_79 : decode cX8_bestColumn 79 = .ok (.iload 6, 2) := by decide +kernel
theorem dX8_bestColumn_81 : decode cX8_bestColumn 81 = .ok (.istore 4, 2) := by decide +kernel
theorem dX8_bestColumn_83 : decode cX8_bestColumn 83 = .ok (.iload 5, 2) := by decide +kernel
theorem dX8_bestColumn_85 : decode cX8_bestColumn 85 = .ok (.istore_n 3, 1) := by decide +kernel
theorem dX8_bestColumn_86 : decode cX8_bestColumn 86 = .ok (.iinc 5 1, 3) := by decide +kernel
theorem dX8_bestColumn_89 : decode cX8_bestColumn 89 = .ok (.goto (-54), 3) := by decide +kernel
theorem dX8_bestColumn_92 : decode cX8_bestColumn 92 = .ok (.iload_n 3, 1) := by decide +kernel
theorem dX8_bestColumn_93 : decode cX8_bestColumn 93 = .ok (.ireturn, 1) := by decide +kernel
set_option maxRecDepth 20000 in
theorem ggX8_saving_X7_copyFrom : GoodIn wsX8_saving wsX7_copyFrom := goodIn_r _ [8, 9, 10, 11, 12, 13, 14, 15, 16, 17, 18, 19, 20, 21, 22, 23, 24, 25, 26, 27, 28, 145, 146, 147, 148, 149, 150, 151, 152, 153, 154, 155] (by decide +kernel) (by decide +kernel)
set_option maxRecDepth 20000 in
theorem gX8_saving_X7_copyFrom : GoodIn wsX8_saving (wsV RX8 164 RX7 yX7_copyFrom wsX7_copyFrom) := goodIn_app (goodIn_of _ (by decide +kernel)) ggX8_saving_X7_copyFrom
set_option maxRecDepth 20000 in
theorem ggX8_saving_X3_arrange : GoodIn wsX8_saving wsX3_arrange := goodIn_r _ [33, 34, 35, 36, 37, 38, 39, 40, 41, 42, 43, 44, 45, 26, 27, 22, 28, 24, 46, 47, 48, 49, 50, 51, 52, 53, 54, 55, 56, 57, 58, 59, 60, 7, 61, 10, 11, 62, 63, 64, 65, 66, 67, 68, 69, 70, 71, 72, 73, 74, 75, 76, 77, 78, 79, 80, 81, 82, 83, 84, 85, 12, 16, 86, 87, 88, 89, 14, 90, 91, 92, 93, 94, 95, 96, 97, 98, 99, 100, 101, 102, 103, 104, 105, 106, 32, 107, 108, 109, 110, 111, 112, 156, 157, 158, 159, 160, 161, 145, 146, 147, 148, 149, 150, 151, 152, 153, 154, 162, 163, 164, 165, 166, 167, 168, 169, 155] (by decide +kernel) (by decide +kernel)
set_option maxRecDepth 20000 in
theorem gX8_saving_X3_arrange : GoodIn wsX8_saving (wsV RX8 167 RX3 yX3_arrange wsX3_arrange) := goodIn_app (goodIn_of _ (by decide +kernel)) ggX8_saving_X3_arrange
set_option maxRecDepth 20000 in
theorem ggX8_saving_X3_totalCost : GoodIn wsX8_saving wsX3_totalCost := goodIn_r _ [116, 108, 35, 117, 118, 119, 32, 120, 34, 109, 112, 26, 27, 22, 28, 24, 121, 55, 56, 40, 57, 43, 42, 45, 122, 123, 124, 125, 58, 59, 60, 7, 61, 10, 11, 62, 126, 127, 128, 129, 130, 83, 84, 85, 12, 16, 131, 91, 92, 93, 132, 133, 134, 135, 136, 87, 88, 89, 14, 156, 157, 158, 159, 160, 161, 145, 146, 147, 148, 149, 150, 151, 152, 153, 154, 155, 167, 168, 169] (by decide +kernel) (by decide +kernel)
set_option maxRecDepth 20000 in
theorem gX8_saving_X3_totalCost : GoodIn wsX8_saving (wsV RX8 150 RX3 yX3_totalCost wsX3_totalCost) := goodIn_app (goodIn_of _ (by decide +kernel)) ggX8_saving_X3_totalCost
theorem dX8_saving_0 : decode cX8_saving 0 = .ok (.aload_n 0, 1) := by decide +kernel
theorem dX8_saving_1 : decode cX8_saving 1 = .ok (.getfield 34, 3) := by decide +kernel
theorem dX8_saving_4 : decode cX8_saving 4 = .ok (.aload_n 0, 1) := by decide +kernel
theorem dX8_saving_5 : decode cX8_saving 5 = .ok (.getfield 10, 3) := by decide +kernel
theorem dX8_saving_8 : decode cX8_saving 8 = .ok (.invokevirtual 164, 3) := by decide +kernel
theorem dX8_saving_11 : decode cX8_saving 11 = .ok (.aload_n 0, 1) := by decide +kernel
theorem dX8_saving_12 : decode cX8_saving 12 = .ok (.getfield 37, 3) := by decide +kernel
theorem dX8_saving_15 : decode cX8_saving 15 = .ok (.iconst 0, 1) := by decide +kernel
theorem dX8_saving_16 : decode cX8_saving 16 = .ok (.invokevirtual 167, 3) := by decide +kernel
theorem dX8_saving_19 : decode cX8_saving 19 = .ok (.aload_n 0, 1) := by decide +kernel
theorem dX8_saving_20 : decode cX8_saving 20 = .ok (.getfield 37, 3) := by decide +kernel
theorem dX8_saving_23 : decode cX8_saving 23 = .ok (.invokevirtual 150, 3) := by decide +kernel
theorem dX8_saving_26 : decode cX8_saving 26 = .ok (.istore_n 1, 1) := by decide +kernel
theorem dX8_saving_27 : decode cX8_saving 27 = .ok (.aload_n 0, 1) := by decide +kernel
theorem dX8_saving_28 : decode cX8_saving 28 = .ok (.getfield 37, 3) := by decide +kernel
theorem dX8_saving_31 : decode cX8_saving 31 = .ok (.iconst 1, 1) := by decide +kernel
theorem dX8_saving_32 : decode cX8_saving 32 = .ok (.invokevirtual 167, 3) := by decide +kernel
theorem dX8_saving_35 : decode cX8_saving 35 = .ok (.iload_n 1, 1) := by decide +kernel
theorem dX8_saving_36 : decode cX8_saving 36 = .ok (.aload_n 0, 1) := by decide +kernel
theorem dX8_saving_37 : decode cX8_saving 37 = .ok (.getfield 37, 3) := by decide +kernel
theorem dX8_saving_40 : decode cX8_saving 40 = .ok (.invokevirtual 150, 3) := by decide +kernel
theorem dX8_saving_43 : decode cX8_saving 43 = .ok (.isub, 1) := by decide +kernel
theorem dX8_saving_44 : decode cX8_saving 44 = .ok (.ireturn, 1) := by decide +kernel
set_option maxRecDepth 20000 in
theorem ggX8_costIfMarked_X8_requireIndex : GoodIn wsX8_costIfMarked wsX8_requireIndex := goodIn_ca (goodIn_r _ [7, 8, 9] (by decide +kernel) (by decide +kernel)) (goodIn_sub (fun _ h => List.mem_cons_of_mem _ (List.mem_append_left _ (List.mem_append_right _ h))) (by decide +kernel))
set_option maxRecDepth 20000 in
theorem gX8_costIfMarked_X8_requireIndex : GoodIn wsX8_costIfMarked (va_wsS RX8 62 yX8_requireIndex wsX8_requireIndex) := goodIn_app (goodIn_of _ (by decide +kernel)) ggX8_costIfMarked_X8_requireIndex
set_option maxRecDepth 20000 in
theorem ggX8_costIfMarked_X8_requireRange : GoodIn wsX8_costIfMarked wsX8_requireRange := goodIn_ca (goodIn_r _ [12, 13, 14] (by decide +kernel) (by decide +kernel)) (goodIn_sub (fun _ h => List.mem_cons_of_mem _ (List.mem_append_right _ h)) (by decide +kernel))
set_option maxRecDepth 20000 in
theorem gX8_costIfMarked_X8_requireRange : GoodIn wsX8_costIfMarked (va_wsS RX8 66 yX8_requireRange wsX8_requireRange) := goodIn_app (goodIn_of _ (by decide +kernel)) ggX8_costIfMarked_X8_requireRange
set_option maxRecDepth 20000 in
theorem ggX8_costIfMarked_X7_copyFrom : GoodIn wsX8_costIfMarked wsX7_copyFrom := goodIn_r _ [19, 20, 21, 22, 23, 24, 25, 26, 27, 28, 29, 30, 31, 32, 33, 34, 35, 36, 37, 38, 39, 157, 158, 159, 160, 161, 162, 163, 164, 165, 166, 167] (by decide +kernel) (by decide +kernel)
set_option maxRecDepth 20000 in
theorem gX8_costIfMarked_X7_copyFrom : GoodIn wsX8_costIfMarked (wsV RX8 164 RX7 yX7_copyFrom wsX7_copyFrom) := goodIn_app (goodIn_of _ (by decide +kernel)) ggX8_costIfMarked_X7_copyFrom
set_option maxRecDepth 20000 in
theorem ggX8_costIfMarked_X6_put : GoodIn wsX8_costIfMarked wsX6_put := goodIn_r _ [43, 35, 167] (by decide +kernel) (by decide +kernel)
set_option maxRecDepth 20000 in
theorem gX8_costIfMarked_X6_put : GoodIn wsX8_costIfMarked (wsV RX8 100 RX6 yX6_put wsX6_put) := goodIn_app (goodIn_of _ (by decide +kernel)) ggX8_costIfMarked_X6_put
set_option maxRecDepth 20000 in
theorem ggX8_costIfMarked_X3_arrange : GoodIn wsX8_costIfMarked wsX3_arrange := goodIn_r _ [48, 49, 50, 51, 52, 53, 54, 55, 56, 57, 58, 59, 60, 37, 38, 33, 39, 35, 61, 41, 42, 43, 62, 63, 64, 65, 66, 67, 68, 69, 70, 71, 72, 18, 73, 21, 22, 74, 75, 76, 77, 78, 79, 80, 81, 82, 83, 84, 85, 86, 87, 88, 89, 90, 91, 92, 93, 94, 95, 96, 97, 23, 27, 98, 99, 100, 101, 25, 102, 103, 104, 105, 106, 107, 108, 109, 110, 111, 112, 113, 114, 115, 116, 117, 118, 47, 119, 120, 121, 122, 123, 124, 168, 169, 170, 171, 172, 173, 157, 158, 159, 160, 161, 162, 163, 164, 165, 166, 174, 175, 176, 177, 178, 179, 180, 181, 167] (by decide +kernel) (by decide +kernel)
set_option maxRecDepth 20000 in
theorem gX8_costIfMarked_X3_arrange : GoodIn wsX8_costIfMarked (wsV RX8 167 RX3 yX3_arrange wsX3_arrange) := goodIn_app (goodIn_of _ (by decide +kernel)) ggX8_costIfMarked_X3_arrange
set_option maxRecDepth 20000 in
theorem ggX8_costIfMarked_X3_totalCost : GoodIn wsX8_costIfMarked wsX3_totalCost := goodIn_r _ [128, 120, 50, 129, 130, 131, 47, 132, 49, 121, 124, 37, 38, 33, 39, 35, 133, 67, 68, 55, 69, 58, 57, 60, 134, 135, 136, 137, 70, 71, 72, 18, 73, 21, 22, 74, 138, 139, 140, 141, 142, 95, 96, 97, 23, 27, 143, 103, 104, 105, 144, 145, 146, 147, 148, 99, 100, 101, 25, 168, 169, 170, 171, 172, 173, 157, 158, 159, 160, 161, 162, 163, 164, 165, 166, 167, 179, 180, 181] (by decide +kernel) (by decide +kernel)
set_option maxRecDepth 20000 in
theorem gX8_costIfMarked_X3_totalCost : GoodIn wsX8_costIfMarked (wsV RX8 150 RX3 yX3_totalCost wsX3_totalCost) := goodIn_app (goodIn_of _ (by decide +kernel)) ggX8_costIfMarked_X3_totalCost
theorem dX8_costIfMarked_0 : decode cX8_costIfMarked 0 = .ok (.iload_n 1, 1) := by decide +kernel
theorem dX8_costIfMarked_1 : decode cX8_costIfMarked 1 = .ok (.aload_n 0, 1) := by decide +kernel
theorem dX8_costIfMarked_2 : decode cX8_costIfMarked 2 = .ok (.getfield 10, 3) := by decide +kernel
theorem dX8_costIfMarked_5 : decode cX8_costIfMarked 5 = .ok (.getfield 58, 3) := by decide +kernel
theorem dX8_costIfMarked_8 : decode cX8_costIfMarked 8 = .ok (.invokestatic 62, 3) := by decide +kernel
theorem dX8_costIfMarked_11 : decode cX8_costIfMarked 11 = .ok (.iload_n 2, 1) := by decide +kernel
theorem dX8_costIfMarked_12 : decode cX8_costIfMarked 12 = .ok (.iconst 0, 1) := by decide +kernel
theorem dX8_costIfMarked_13 : decode cX8_costIfMarked 13 = .ok (.iconst 2, 1) := by decide +kernel
theorem dX8_costIfMarked_14 : decode cX8_costIfMarked 14 = .ok (.invokestatic 66, 3) := by decide +kernel
theorem dX8_costIfMarked_17 : decode cX8_costIfMarked 17 = .ok (.aload_n 0, 1) := by decide +kernel
theorem dX8_costIfMarked_18 : decode cX8_costIfMarked 18 = .ok (.getfield 34, 3) := by decide +kernel
theorem dX8_costIfMarked_21 : decode cX8_costIfMarked 21 = .ok (.aload_n 0, 1) := by decide +kernel
theorem dX8_costIfMarked_22 : decode cX8_costIfMarked 22 = .ok (.getfield 10, 3) := by decide +kernel
theorem dX8_costIfMarked_25 : decode cX8_costIfMarked 25 = .ok (.invokevirtual 164, 3) := by decide +kernel
theorem dX8_costIfMarked_28 : decode cX8_costIfMarked 28 = .ok (.aload_n 0, 1) := by decide +kernel
theorem dX8_costIfMarked_29 : decode cX8_costIfMarked 29 = .ok (.getfield 34, 3) := by decide +kernel
theorem dX8_costIfMarked_32 : decode cX8_costIfMarked 32 = .ok (.getfield 97, 3) := by decide +kernel
theorem dX8_costIfMarked_35 : decode cX8_costIfMarked 35 = .ok (.iload_n 1, 1) := by decide +kernel
theorem dX8_costIfMarked_36 : decode cX8_costIfMarked 36 = .ok (.iload_n 2, 1) := by decide +kernel
theorem dX8_costIfMarked_37 : decode cX8_costIfMarked 37 = .ok (.invokevirtual 100, 3) := by decide +kernel
theorem dX8_costIfMarked_40 : decode cX8_costIfMarked 40 = .ok (.aload_n 0, 1) := by decide +kernel
theorem dX8_costIfMarked_41 : decode cX8_costIfMarked 41 = .ok (.getfield 37, 3) := by decide +kernel
theorem dX8_costIfMarked_44 : decode cX8_costIfMarked 44 = .ok (.aload_n 0, 1) := by decide +kernel
theorem dX8_costIfMarked_45 : decode cX8_costIfMarked 45 = .ok (.getfield 34, 3) := by decide +kernel
theorem dX8_costIfMarked_48 : decode cX8_costIfMarked 48 = .ok (.getfield 121, 3) := by decide +kernel
theorem dX8_costIfMarked_51 : decode cX8_costIfMarked 51 = .ok (.invokevirtual 167, 3) := by decide +kernel
theorem dX8_costIfMarked_54 : decode cX8_costIfMarked 54 = .ok (.aload_n 0, 1) := by decide +kernel
theorem dX8_costIfMarked_55 : decode cX8_costIfMarked 55 = .ok (.getfield 37, 3) := by decide +kernel
theorem dX8_costIfMarked_58 : decode cX8_costIfMarked 58 = .ok (.invokevirtual 150, 3) := by decide +kernel
theorem dX8_costIfMarked_61 : decode cX8_costIfMarked 61 = .ok (.ireturn, 1) := by decide +kernel
set_option maxRecDepth 20000 in
theorem ggX8_append_X8_requireRange : GoodIn wsX8_append wsX8_requireRange := goodIn_ca (goodIn_r _ [7, 8, 9] (by decide +kernel) (by decide +kernel)) (goodIn_sub (fun _ h => List.mem_cons_of_mem _ (List.mem_append_right _ h)) (by decide +kernel))
set_option maxRecDepth 20000 in
theorem gX8_append_X8_requireRange : GoodIn wsX8_append (va_wsS RX8 66 yX8_requireRange wsX8_requireRange) := goodIn_app (goodIn_of _ (by decide +kernel)) ggX8_append_X8_requireRange
set_option maxRecDepth 20000 in
theorem ggX8_append_X0_add : GoodIn wsX8_append wsX0_add := goodIn_r _ [14, 15, 16, 17, 18, 19, 20, 21, 22, 31, 32, 33, 34, 35, 36] (by decide +kernel) (by decide +kernel)
set_option maxRecDepth 20000 in
theorem gX8_append_X0_add : GoodIn wsX8_append (wsV RX8 179 RX0 yX0_add wsX0_add) := goodIn_app (goodIn_of _ (by decide +kernel)) ggX8_append_X0_add
theorem dX8_append_0 : decode cX8_append 0 = .ok (.iload_n 1, 1) := by decide +kernel
theorem dX8_append_1 : decode cX8_append 1 = .ok (.bipush 33, 2) := by decide +kernel
theorem dX8_append_3 : decode cX8_append 3 = .ok (.bipush 126, 2) := by decide +kernel
theorem dX8_append_5 : decode cX8_append 5 = .ok (.invokestatic 66, 3) := by decide +kernel
theorem dX8_append_8 : decode cX8_append 8 = .ok (.aload_n 0, 1) := by decide +kernel
theorem dX8_append_9 : decode cX8_append 9 = .ok (.getfield 43, 3) := by decide +kernel
theorem dX8_append_12 : decode cX8_append 12 = .ok (.getfield 174, 3) := by decide +kernel
theorem dX8_append_15 : decode cX8_append 15 = .ok (.bipush 60, 2) := by decide +kernel
theorem dX8_append_17 : decode cX8_append 17 = .ok (.if_icmp .lt 13, 3) := by decide +kernel
theorem dX8_append_20 : decode cX8_append 20 = .ok (.new 70, 3) := by decide +kernel
theorem dX8_append_23 : decode cX8_append 23 = .ok (.dup, 1) := by decide +kernel
theorem dX8_append_24 : decode cX8_append 24 = .ok (.ldc 177, 2) := by decide +kernel
theorem dX8_append_26 : decode cX8_append 26 = .ok (.invokespecial 74, 3) := by decide +kernel
theorem dX8_append_29 : decode cX8_append 29 = .ok (.athrow, 1) := by decide +kernel
theorem dX8_append_30 : decode cX8_append 30 = .ok (.aload_n 0, 1) := by decide +kernel
theorem dX8_append_31 : decode cX8_append 31 = .ok (.getfield 43, 3) := by decide +kernel
theorem dX8_append_34 : decode cX8_append 34 = .ok (.iload_n 1, 1) := by decide +kernel
theorem dX8_append_35 : decode cX8_append 35 = .ok (.invokevirtual 179, 3) := by decide +kernel
theorem dX8_append_38 : decode cX8_append 38 = .ok (.aload_n 0, 1) := by decide +kernel
theorem dX8_append_39 : decode cX8_append 39 = .ok (.getfield 43, 3) := by decide +kernel
theorem dX8_append_42 : decode cX8_append 42 = .ok (.getfield 174, 3) := by decide +kernel
theorem dX8_append_45 : decode cX8_append 45 = .ok (.ireturn, 1) := by decide +kernel
theorem dX8_clearText_0 : decode cX8_clearText 0 = .ok (.aload_n 0, 1) := by decide +kernel
theorem dX8_clearText_1 : decode cX8_clearText 1 = .ok (.getfield 43, 3) := by decide +kernel
theorem dX8_clearText_4 : decode cX8_clearText 4 = .ok (.getfield 174, 3) := by decide +kernel
theorem dX8_clearText_7 : decode cX8_clearText 7 = .ok (.istore_n 1, 1) := by decide +kernel
theorem dX8_clearText_8 : decode cX8_clearText 8 = .ok (.aload_n 0, 1) := by decide +kernel
theorem dX8_clearText_9 : decode cX8_clearText 9 = .ok (.getfield 43, 3) := by decide +kernel
theorem dX8_clearText_12 : decode cX8_clearText 12 = .ok (.iconst 0, 1) := by decide +kernel
theorem dX8_clearText_13 : decode cX8_clearText 13 = .ok (.putfield 174, 3) := by decide +kernel
theorem dX8_clearText_16 : decode cX8_clearText 16 = .ok (.iload_n 1, 1) := by decide +kernel
theorem dX8_clearText_17 : decode cX8_clearText 17 = .ok (.ireturn, 1) := by decide +kernel
set_option maxRecDepth 20000 in
theorem ggX8_firstError_X0_scan : GoodIn wsX8_firstError wsX0_scan := goodIn_r _ [6, 7, 8, 9, 10, 11, 5, 12, 13, 14, 15, 16, 17, 18, 19, 20, 21, 22, 23, 24, 25, 26, 27, 28, 29, 30, 31, 32, 33, 34, 35, 36, 37, 38, 39, 40, 41, 50, 51, 52, 53, 54, 55] (by decide +kernel) (by decide +kernel)
set_option maxRecDepth 20000 in
theorem gX8_firstError_X0_scan : GoodIn wsX8_firstError (wsV RX8 182 RX0 yX0_scan wsX0_scan) := goodIn_app (goodIn_of _ (by decide +kernel)) ggX8_firstError_X0_scan
theorem dX8_firstError_0 : decode cX8_firstError 0 = .ok (.aload_n 0, 1) := by decide +kernel
theorem dX8_firstError_1 : decode cX8_firstError 1 = .ok (.getfield 43, 3) := by decide +kernel
theorem dX8_firstError_4 : decode cX8_firstError 4 = .ok (.invokevirtual 182, 3) := by decide +kernel
theorem dX8_firstError_7 : decode cX8_firstError 7 = .ok (.ireturn, 1) := by decide +kernel
set_option maxRecDepth 20000 in
theorem ggX8_load_X0_scan : GoodIn wsX8_load wsX0_scan := goodIn_r _ [11, 12, 13, 14, 15, 16, 10, 17, 18, 19, 20, 21, 22, 23, 24, 25, 26, 27, 28, 29, 30, 31, 32, 33, 34, 35, 36, 37, 38, 39, 40, 41, 42, 43, 44, 45, 46, 112, 113, 114, 115, 116, 127] (by decide +kernel) (by decide +kernel)
set_option maxRecDepth 20000 in
theorem gX8_load_X0_scan : GoodIn wsX8_load (wsV RX8 182 RX0 yX0_scan wsX0_scan) := goodIn_app (goodIn_of _ (by decide +kernel)) ggX8_load_X0_scan
set_option maxRecDepth 20000 in
theorem ggX8_load_X0_endsInWord : GoodIn wsX8_load wsX0_endsInWord := goodIn_r _ [42, 19, 18, 27, 28, 29, 24, 30, 26, 112, 113, 114, 115, 116, 127] (by decide +kernel) (by decide +kernel)
set_option maxRecDepth 20000 in
theorem gX8_load_X0_endsInWord : GoodIn wsX8_load (wsV RX8 185 RX0 yX0_endsInWord wsX0_endsInWord) := goodIn_app (goodIn_of _ (by decide +kernel)) ggX8_load_X0_endsInWord
set_option maxRecDepth 20000 in
theorem ggX8_load_X0_countWords : GoodIn wsX8_load wsX0_countWords := goodIn_r _ [51, 18, 112, 113, 114, 115, 116] (by decide +kernel) (by decide +kernel)
set_option maxRecDepth 20000 in
theorem gX8_load_X0_countWords : GoodIn wsX8_load (wsV RX8 194 RX0 yX0_countWords wsX0_countWords) := goodIn_app (goodIn_of _ (by decide +kernel)) ggX8_load_X0_countWords
set_option maxRecDepth 20000 in
theorem ggX8_load_X8_prepareChange : GoodIn wsX8_load wsX8_prepareChange := goodIn_r _ [56, 57, 6, 58, 59, 60, 61, 62, 63, 64, 65, 66, 67, 68, 69, 70, 71, 72, 73, 74, 75, 76, 77, 78, 79, 80, 81, 82, 83, 84, 85, 86, 87, 88, 89, 90, 91, 24, 92, 26, 93, 28, 29, 30, 104, 105, 106, 107, 108, 109, 110, 111, 128, 129, 117, 118, 119, 120, 121, 122, 123, 124, 125, 126, 127] (by decide +kernel) (by decide +kernel)
set_option maxRecDepth 20000 in
theorem gX8_load_X8_prepareChange : GoodIn wsX8_load (wsV RX8 77 RX8 yX8_prepareChange wsX8_prepareChange) := goodIn_app (goodIn_of _ (by decide +kernel)) ggX8_load_X8_prepareChange
set_option maxRecDepth 20000 in
theorem ggX8_load_X6_at : GoodIn wsX8_load wsX6_at := goodIn_r _ [30, 26, 127] (by decide +kernel) (by decide +kernel)
set_option maxRecDepth 20000 in
theorem gX8_load_X6_at : GoodIn wsX8_load (wsV RX8 87 RX6 yX6_at wsX6_at) := goodIn_app (goodIn_of _ (by decide +kernel)) ggX8_load_X6_at
set_option maxRecDepth 20000 in
theorem ggX8_load_X7_putWord : GoodIn wsX8_load wsX7_putWord := goodIn_r _ [98, 81, 79, 80, 99, 100, 101, 24, 102, 26, 93, 28, 29, 30, 103, 22, 23, 25, 117, 118, 119, 120, 121, 122, 123, 124, 125, 126, 127] (by decide +kernel) (by decide +kernel)
set_option maxRecDepth 20000 in
theorem gX8_load_X7_putWord : GoodIn wsX8_load (wsV RX8 80 RX7 yX7_putWord wsX7_putWord) := goodIn_app (goodIn_of _ (by decide +kernel)) ggX8_load_X7_putWord
theorem dX8_load_0 : decode cX8_load 0 = .ok (.aload_n 0, 1) := by decide +kernel
theorem dX8_load_1 : decode cX8_load 1 = .ok (.getfield 43, 3) := by decide +kernel
theorem dX8_load_4 : decode cX8_load 4 = .ok (.invokevirtual 182, 3) := by decide +kernel
theorem dX8_load_7 : decode cX8_load 7 = .ok (.aload_n 0, 1) := by decide +kernel
theorem dX8_load_8 : decode cX8_load 8 = .ok (.getfield 43, 3) := by decide +kernel
theorem dX8_load_11 : decode cX8_load 11 = .ok (.getfield 174, 3) := by decide +kernel
theorem dX8_load_14 : decode cX8_load 14 = .ok (.if_icmp .lt 13, 3) := by decide +kernel
theorem dX8_load_17 : decode cX8_load 17 = .ok (.aload_n 0, 1) := by decide +kernel
theorem dX8_load_18 : decode cX8_load 18 = .ok (.getfield 43, 3) := by decide +kernel
theorem dX8_load_21 : decode cX8_load 21 = .ok (.invokevirtual 185, 3) := by decide +kernel
theorem dX8_load_24 : decode cX8_load 24 = .ok (.ifCond .ne 13, 3) := by decide +kernel
theorem dX8_load_27 : decode cX8_load 27 = .ok (.new 189, 3) := by decide +kernel
theorem dX8_load_30 : decode cX8_load 30 = .ok (.dup, 1) := by decide +kernel
theorem dX8_load_31 : decode cX8_load 31 = .ok (.ldc 191, 2) := by decide +kernel
theorem dX8_load_33 : decode cX8_load 33 = .ok (.invokespecial 193, 3) := by decide +kernel
theorem dX8_load_36 : decode cX8_load 36 = .ok (.athrow, 1) := by decide +kernel
theorem dX8_load_37 : decode cX8_load 37 = .ok (.aload_n 0, 1) := by decide +kernel
theorem dX8_load_38 : decode cX8_load 38 = .ok (.getfield 10, 3) := by decide +kernel
theorem dX8_load_41 : decode cX8_load 41 = .ok (.getfield 58, 3) := by decide +kernel
theorem dX8_load_44 : decode cX8_load 44 = .ok (.aload_n 0, 1) := by decide +kernel
theorem dX8_load_45 : decode cX8_load 45 = .ok (.getfield 43, 3) := by decide +kernel
theorem dX8_load_48 : decode cX8_load 48 = .ok (.invokevirtual 194, 3) := by decide +kernel
theorem dX8_load_51 : decode cX8_load 51 = .ok (.iadd, 1) := by decide +kernel
theorem dX8_load_52 : decode cX8_load 52 = .ok (.bipush 40, 2) := by decide +kernel
theorem dX8_load_54 : decode cX8_load 54 = .ok (.if_icmp .le 13, 3) := by decide +kernel
theorem dX8_load_57 : decode cX8_load 57 = .ok (.new 70, 3) := by decide +kernel
theorem dX8_load_60 : decode cX8_load 60 = .ok (.dup, 1) := by decide +kernel
theorem dX8_load_61 : decode cX8_load 61 = .ok (.ldc 197, 2) := by decide +kernel
theorem dX8_load_63 : decode cX8_load 63 = .ok (.invokespecial 74, 3) := by decide +kernel
theorem dX8_load_66 : decode cX8_load 66 = .ok (.athrow, 1) := by decide +kernel
theorem dX8_load_67 : decode cX8_load 67 = .ok (.aload_n 0, 1) := by decide +kernel
theorem dX8_load_68 : decode cX8_load 68 = .ok (.invokevirtual 77, 3) := by decide +kernel
theorem dX8_load_71 : decode cX8_load 71 = .ok (.iconst 0, 1) := by decide +kernel
theorem dX8_load_72 : decode cX8_load 72 = .ok (.istore_n 1, 1) := by decide +kernel
theorem dX8_load_73 : decode cX8_load 73 = .ok (.iload_n 1, 1) := by decide +kernel
theorem dX8_load_74 : decode cX8_load 74 = .ok (.aload_n 0, 1) := by decide +kernel
theorem dX8_load_75 : decode cX8_load 75 = .ok (.getfield 43, 3) := by decide +kernel
theorem dX8_load_78 : decode cX8_load 78 = .ok (.invokevirtual 194, 3) := by decide +kernel
theorem dX8_load_81 : decode cX8_load 81 = .ok (.if_icmp .ge 45, 3) := by decide +kernel
theorem dX8_load_84 : decode cX8_load 84 = .ok (.aload_n 0, 1) := by decide +kernel
theorem dX8_load_85 : decode cX8_load 85 = .ok (.getfield 10, 3) := by decide +kernel
theorem dX8_load_88 : decode cX8_load 88 = .ok (.aload_n 0, 1) := by decide +kernel
theorem dX8_load_89 : decode cX8_load 89 = .ok (.getfield 10, 3) := by decide +kernel
theorem dX8_load_92 : decode cX8_load 92 = .ok (.getfield 58, 3) := by decide +kernel
theorem dX8_load_95 : decode cX8_load 95 = .ok (.aload_n 0, 1) := by decide +kernel
theorem dX8_load_96 : decode cX8_load 96 = .ok (.getfield 43, 3) := by decide +kernel
theorem dX8_load_99 : decode cX8_load 99 = .ok (.getfield 199, 3) := by decide +kernel
theorem dX8_load_102 : decode cX8_load 102 = .ok (.iload_n 1, 1) := by decide +kernel
theorem dX8_load_103 : decode cX8_load 103 = .ok (.invokevirtual 87, 3) := by decide +kernel
theorem dX8_load_106 : decode cX8_load 106 = .ok (.aload_n 0, 1) := by decide +kernel
theorem dX8_load_107 : decode cX8_load 107 = .ok (.getfield 43, 3) := by decide +kernel
theorem dX8_load_110 : decode cX8_load 110 = .ok (.getfield 200, 3) := by decide +kernel
theorem dX8_load_113 : decode cX8_load 113 = .ok (.iload_n 1, 1) := by decide +kernel
theorem dX8_load_114 : decode cX8_load 114 = .ok (.invokevirtual 87, 3) := by decide +kernel
theorem dX8_load_117 : decode cX8_load 117 = .ok (.invokevirtual 80, 3) := by decide +kernel
theorem dX8_load_120 : decode cX8_load 120 = .ok (.iinc 1 1, 3) := by decide +kernel
theorem dX8_load_123 : decode cX8_load 123 = .ok (.goto (-50), 3) := by decide +kernel
theorem dX8_load_126 : decode cX8_load 126 = .ok (.aload_n 0, 1) := by decide +kernel
theorem dX8_load_127 : decode cX8_load 127 = .ok (.getfield 43, 3) := by decide +kernel
theorem dX8_load_130 : decode cX8_load 130 = .ok (.iconst 0, 1) := by decide +kernel
theorem dX8_load_131 : decode cX8_load 131 = .ok (.putfield 174, 3) := by decide +kernel
theorem dX8_load_134 : decode cX8_load 134 = .ok (.aload_n 0, 1) := by decide +kernel
theorem dX8_load_135 : decode cX8_load 135 = .ok (.getfield 10, 3) := by decide +kernel
theorem dX8_load_138 : decode cX8_load 138 = .ok (.getfield 58, 3) := by decide +kernel
theorem dX8_load_141 : decode cX8_load 141 = .ok (.ireturn, 1) := by decide +kernel
set_option maxRecDepth 20000 in
theorem ggX8_undo_X2_restore : GoodIn wsX8_undo wsX2_restore := goodIn_r _ [10, 11, 12, 13, 14, 9, 15, 16, 17, 18, 19, 20, 21, 22, 23, 24, 25, 26, 27, 28, 29, 30, 31, 32, 33, 34, 35, 36, 37, 38, 39, 40, 41, 50, 51, 52, 53, 54, 55, 56, 57, 58, 59, 60, 61, 62] (by decide +kernel) (by decide +kernel)
set_option maxRecDepth 20000 in
theorem gX8_undo_X2_restore : GoodIn wsX8_undo (wsV RX8 204 RX2 yX2_restore wsX2_restore) := goodIn_app (goodIn_of _ (by decide +kernel)) ggX8_undo_X2_restore
theorem dX8_undo_0 : decode cX8_undo 0 = .ok (.aload_n 0, 1) := by decide +kernel
theorem dX8_undo_1 : decode cX8_undo 1 = .ok (.getfield 50, 3) := by decide +kernel
theorem dX8_undo_4 : decode cX8_undo 4 = .ok (.getfield 201, 3) := by decide +kernel
theorem dX8_undo_7 : decode cX8_undo 7 = .ok (.ifCond .gt 13, 3) := by decide +kernel
theorem dX8_undo_10 : decode cX8_undo 10 = .ok (.new 70, 3) := by decide +kernel
theorem dX8_undo_13 : decode cX8_undo 13 = .ok (.dup, 1) := by decide +kernel
theorem dX8_undo_14 : decode cX8_undo 14 = .ok (.ldc 202, 2) := by decide +kernel
theorem dX8_undo_16 : decode cX8_undo 16 = .ok (.invokespecial 74, 3) := by decide +kernel
theorem dX8_undo_19 : decode cX8_undo 19 = .ok (.athrow, 1) := by decide +kernel
theorem dX8_undo_20 : decode cX8_undo 20 = .ok (.aload_n 0, 1) := by decide +kernel
theorem dX8_undo_21 : decode cX8_undo 21 = .ok (.getfield 50, 3) := by decide +kernel
theorem dX8_undo_24 : decode cX8_undo 24 = .ok (.aload_n 0, 1) := by decide +kernel
theorem dX8_undo_25 : decode cX8_undo 25 = .ok (.getfield 10, 3) := by decide +kernel
theorem dX8_undo_28 : decode cX8_undo 28 = .ok (.invokevirtual 204, 3) := by decide +kernel
theorem dX8_undo_31 : decode cX8_undo 31 = .ok (.aload_n 0, 1) := by decide +kernel
theorem dX8_undo_32 : decode cX8_undo 32 = .ok (.iconst 1, 1) := by decide +kernel
theorem dX8_undo_33 : decode cX8_undo 33 = .ok (.putfield 54, 3) := by decide +kernel
theorem dX8_undo_36 : decode cX8_undo 36 = .ok (.aload_n 0, 1) := by decide +kernel
theorem dX8_undo_37 : decode cX8_undo 37 = .ok (.getfield 50, 3) := by decide +kernel
theorem dX8_undo_40 : decode cX8_undo 40 = .ok (.getfield 201, 3) := by decide +kernel
theorem dX8_undo_43 : decode cX8_undo 43 = .ok (.ireturn, 1) := by decide +kernel
theorem dX8_savedStates_0 : decode cX8_savedStates 0 = .ok (.aload_n 0, 1) := by decide +kernel
theorem dX8_savedStates_1 : decode cX8_savedStates 1 = .ok (.getfield 50, 3) := by decide +kernel
theorem dX8_savedStates_4 : decode cX8_savedStates 4 = .ok (.getfield 201, 3) := by decide +kernel
theorem dX8_savedStates_7 : decode cX8_savedStates 7 = .ok (.ireturn, 1) := by decide +kernel
set_option maxRecDepth 20000 in
theorem ggX8_digest_X8_refresh : GoodIn wsX8_digest wsX8_refresh := goodIn_r _ [9, 10, 3, 2, 4, 11, 12, 13, 14, 15, 16, 17, 18, 19, 20, 21, 22, 23, 24, 25, 26, 27, 28, 29, 30, 31, 32, 33, 34, 35, 36, 37, 38, 39, 40, 41, 42, 43, 44, 45, 46, 47, 48, 49, 50, 51, 52, 53, 54, 55, 56, 57, 58, 59, 60, 61, 62, 63, 64, 65, 66, 67, 68, 69, 70, 71, 72, 73, 74, 75, 76, 77, 78, 79, 80, 81, 82, 83, 84, 85, 86, 87, 88, 89, 90, 91, 92, 93, 94, 95, 96, 97, 98, 99, 100, 101, 102, 103, 104, 105, 106, 107, 108, 109, 110, 111, 112, 113, 114, 115, 116, 117, 118, 119, 120, 121, 122, 123, 124, 125, 126, 127, 128, 129, 130, 131, 132, 197, 198, 199, 200, 201, 202, 203, 204, 205, 206, 207, 208, 209, 210, 211, 212, 213, 214, 215, 216, 217, 218, 219, 220, 226, 227, 228, 229, 230, 231, 232, 233, 234, 221, 222, 223, 224, 225] (by decide +kernel) (by decide +kernel)
set_option maxRecDepth 20000 in
theorem gX8_digest_X8_refresh : GoodIn wsX8_digest (wsV RX8 124 RX8 yX8_refresh wsX8_refresh) := goodIn_app (goodIn_of _ (by decide +kernel)) ggX8_digest_X8_refresh
set_option maxRecDepth 20000 in
theorem ggX8_digest_X8_mix : GoodIn wsX8_digest wsX8_mix := goodIn_r _ [135, 136] (by decide +kernel) (by decide +kernel)
set_option maxRecDepth 20000 in
theorem gX8_digest_X8_mix : GoodIn wsX8_digest (va_wsS RX8 209 yX8_mix wsX8_mix) := goodIn_app (goodIn_of _ (by decide +kernel)) ggX8_digest_X8_mix
set_option maxRecDepth 20000 in
theorem ggX8_digest_X7_countParagraphs : GoodIn wsX8_digest wsX7_countParagraphs := goodIn_r _ [140, 51, 141, 46, 47, 48, 49, 50, 52, 28, 29, 30, 31, 32, 205, 206, 207, 208, 209, 210, 211, 212, 213, 214, 234] (by decide +kernel) (by decide +kernel)
set_option maxRecDepth 20000 in
theorem gX8_digest_X7_countParagraphs : GoodIn wsX8_digest (wsV RX8 143 RX7 yX7_countParagraphs wsX7_countParagraphs) := goodIn_app (goodIn_of _ (by decide +kernel)) ggX8_digest_X7_countParagraphs
set_option maxRecDepth 20000 in
theorem ggX8_digest_X3_countStairs : GoodIn wsX8_digest wsX3_countStairs := goodIn_r _ [145, 101, 146, 147, 148, 14, 149, 17, 121, 122, 123, 124, 102, 105, 28, 29, 30, 31, 32, 45, 46, 47, 48, 49, 50, 51, 52, 125, 126, 127, 128, 150, 151, 152, 153, 16, 154, 42, 43, 22, 44, 25, 24, 27, 155, 79, 80, 81, 82, 215, 216, 217, 218, 219, 220, 234, 205, 206, 207, 208, 209, 210, 211, 212, 213, 214, 231, 232, 233] (by decide +kernel) (by decide +kernel)
set_option maxRecDepth 20000 in
theorem gX8_digest_X3_countStairs : GoodIn wsX8_digest (wsV RX8 147 RX3 yX3_countStairs wsX3_countStairs) := goodIn_app (goodIn_of _ (by decide +kernel)) ggX8_digest_X3_countStairs
set_option maxRecDepth 20000 in
theorem ggX8_digest_X3_totalCost : GoodIn wsX8_digest wsX3_totalCost := goodIn_r _ [159, 101, 17, 150, 151, 152, 14, 153, 16, 102, 105, 28, 29, 30, 31, 32, 154, 42, 43, 22, 44, 25, 24, 27, 125, 126, 127, 128, 45, 46, 47, 48, 49, 50, 51, 52, 121, 122, 123, 124, 160, 73, 74, 75, 76, 77, 161, 84, 85, 86, 146, 147, 148, 149, 155, 79, 80, 81, 82, 215, 216, 217, 218, 219, 220, 205, 206, 207, 208, 209, 210, 211, 212, 213, 214, 234, 231, 232, 233] (by decide +kernel) (by decide +kernel)
set_option maxRecDepth 20000 in
theorem gX8_digest_X3_totalCost : GoodIn wsX8_digest (wsV RX8 150 RX3 yX3_totalCost wsX3_totalCost) := goodIn_app (goodIn_of _ (by decide +kernel)) ggX8_digest_X3_totalCost
set_option maxRecDepth 20000 in
theorem ggX8_digest_X5_countWidows : GoodIn wsX8_digest wsX5_countWidows := goodIn_r _ [165, 111, 112, 113, 166, 28, 29, 30, 31, 32, 129, 130, 131, 14, 132, 125, 126, 127, 128, 17, 102, 105, 45, 46, 47, 48, 49, 50, 51, 52, 121, 122, 123, 124, 221, 222, 223, 224, 225, 234, 215, 216, 217, 218, 219, 220, 205, 206, 207, 208, 209, 210, 211, 212, 213, 214] (by decide +kernel) (by decide +kernel)
set_option maxRecDepth 20000 in
theorem gX8_digest_X5_countWidows : GoodIn wsX8_digest (wsV RX8 158 RX5 yX5_countWidows wsX5_countWidows) := goodIn_app (goodIn_of _ (by decide +kernel)) ggX8_digest_X5_countWidows
set_option maxRecDepth 20000 in
theorem ggX8_digest_X5_countOrphans : GoodIn wsX8_digest wsX5_countOrphans := goodIn_r _ [170, 111, 112, 113, 166, 28, 29, 30, 31, 32, 117, 118, 119, 14, 120, 121, 122, 123, 124, 102, 17, 105, 45, 46, 47, 48, 49, 50, 51, 52, 125, 126, 127, 128, 221, 222, 223, 224, 225, 234, 215, 216, 217, 218, 219, 220, 205, 206, 207, 208, 209, 210, 211, 212, 213, 214] (by decide +kernel) (by decide +kernel)
set_option maxRecDepth 20000 in
theorem gX8_digest_X5_countOrphans : GoodIn wsX8_digest (wsV RX8 161 RX5 yX5_countOrphans wsX5_countOrphans) := goodIn_app (goodIn_of _ (by decide +kernel)) ggX8_digest_X5_countOrphans
set_option maxRecDepth 20000 in
theorem ggX8_digest_X8_saving : GoodIn wsX8_digest wsX8_saving := goodIn_r _ [174, 175, 2, 176, 177, 178, 179, 48, 180, 181, 50, 51, 76, 182, 82, 183, 77, 184, 185, 186, 187, 188, 30, 189, 32, 190, 28, 29, 31, 11, 12, 13, 14, 15, 16, 17, 18, 19, 20, 21, 22, 23, 24, 25, 26, 27, 33, 34, 35, 36, 37, 38, 39, 40, 41, 42, 43, 44, 45, 46, 47, 49, 52, 53, 54, 55, 56, 57, 58, 59, 60, 61, 62, 63, 64, 65, 66, 67, 68, 69, 70, 71, 72, 73, 74, 75, 78, 79, 80, 81, 83, 84, 85, 86, 87, 88, 89, 90, 91, 92, 93, 94, 95, 96, 97, 98, 99, 100, 101, 102, 103, 104, 105, 156, 157, 158, 159, 150, 151, 152, 153, 154, 125, 126, 127, 128, 121, 122, 123, 124, 160, 161, 146, 147, 148, 149, 155, 197, 198, 199, 200, 201, 202, 203, 204, 205, 206, 207, 208, 209, 210, 211, 212, 213, 214, 234, 215, 216, 217, 218, 219, 220, 226, 227, 228, 229, 230, 231, 232, 233] (by decide +kernel) (by decide +kernel)
set_option maxRecDepth 20000 in
theorem gX8_digest_X8_saving : GoodIn wsX8_digest (wsV RX8 213 RX8 yX8_saving wsX8_saving) := goodIn_app (goodIn_of _ (by decide +kernel)) ggX8_digest_X8_saving
set_option maxRecDepth 20000 in
theorem ggX8_digest_X6_at : GoodIn wsX8_digest wsX6_at := goodIn_r _ [31, 32, 234] (by decide +kernel) (by decide +kernel)
set_option maxRecDepth 20000 in
theorem gX8_digest_X6_at : GoodIn wsX8_digest (wsV RX8 87 RX6 yX6_at wsX6_at) := goodIn_app (goodIn_of _ (by decide +kernel)) ggX8_digest_X6_at
set_option maxRecDepth 20000 in
theorem ggX8_digest_X3_reasonBehind : GoodIn wsX8_digest wsX3_reasonBehind := goodIn_r _ [195, 103, 102, 17, 16, 105, 28, 29, 30, 31, 32, 45, 46, 47, 48, 49, 50, 51, 52, 154, 42, 43, 22, 44, 25, 24, 27, 215, 216, 217, 218, 219, 220, 205, 206, 207, 208, 209, 210, 211, 212, 213, 214, 234, 231, 232, 233] (by decide +kernel) (by decide +kernel)
set_option maxRecDepth 20000 in
theorem gX8_digest_X3_reasonBehind : GoodIn wsX8_digest (wsV RX8 140 RX3 yX3_reasonBehind wsX3_reasonBehind) := goodIn_app (goodIn_of _ (by decide +kernel)) ggX8_digest_X3_reasonBehind
set_option maxRecDepth 20000 in
theorem ggX8_digest_X3_widthOfLine : GoodIn wsX8_digest wsX3_widthOfLine := goodIn_r _ [153, 16, 102, 105, 28, 29, 30, 31, 32, 154, 42, 43, 22, 44, 25, 24, 27, 215, 216, 217, 218, 219, 220, 234, 231, 232, 233, 205, 206, 207, 208, 209, 210, 211, 212, 213, 214] (by decide +kernel) (by decide +kernel)
set_option maxRecDepth 20000 in
theorem gX8_digest_X3_widthOfLine : GoodIn wsX8_digest (wsV RX8 134 RX3 yX3_widthOfLine wsX3_widthOfLine) := goodIn_app (goodIn_of _ (by decide +kernel)) ggX8_digest_X3_widthOfLine
theorem dX8_digest_0 : decode cX8_digest 0 = .ok (.aload_n 0, 1) := by decide +kernel
theorem dX8_digest_1 : decode cX8_digest 1 = .ok (.invokevirtual 124, 3) := by decide +kernel
theorem dX8_digest_4 : decode cX8_digest 4 = .ok (.ldc2_w 207, 3) := by decide +kernel
theorem dX8_digest_7 : decode cX8_digest 7 = .ok (.lstore_n 1, 1) := by decide +kernel
theorem dX8_digest_8 : decode cX8_digest 8 = .ok (.lload_n 1, 1) := by decide +kernel
theorem dX8_digest_9 : decode cX8_digest 9 = .ok (.aload_n 0, 1) := by decide +kernel
theorem dX8_digest_10 : decode cX8_digest 10 = .ok (.getfield 10, 3) := by decide +kernel
theorem dX8_digest_13 : decode cX8_digest 13 = .ok (.getfield 58, 3) := by decide +kernel
theorem dX8_digest_16 : decode cX8_digest 16 = .ok (.invokestatic 209, 3) := by decide +kernel
theorem dX8_digest_19 : decode cX8_digest 19 = .ok (.lstore_n 1, 1) := by decide +kernel
theorem dX8_digest_20 : decode cX8_digest 20 = .ok (.lload_n 1, 1) := by decide +kernel
theorem dX8_digest_21 : decode cX8_digest 21 = .ok (.aload_n 0, 1) := by decide +kernel
theorem dX8_digest_22 : decode cX8_digest 22 = .ok (.getfield 21, 3) := by decide +kernel
theorem dX8_digest_25 : decode cX8_digest 25 = .ok (.getfield 127, 3) := by decide +kernel
theorem dX8_digest_28 : decode cX8_digest 28 = .ok (.invokestatic 209, 3) := by decide +kernel
theorem dX8_digest_31 : decode cX8_digest 31 = .ok (.lstore_n 1, 1) := by decide +kernel
theorem dX8_digest_32 : decode cX8_digest 32 = .ok (.lload_n 1, 1) := by decide +kernel
theorem dX8_digest_33 : decode cX8_digest 33 = .ok (.aload_n 0, 1) := by decide +kernel
theorem dX8_digest_34 : decode cX8_digest 34 = .ok (.getfield 10, 3) := by decide +kernel
theorem dX8_digest_37 : decode cX8_digest 37 = .ok (.invokevirtual 143, 3) := by decide +kernel
theorem dX8_digest_40 : decode cX8_digest 40 = .ok (.invokestatic 209, 3) := by decide +kernel
theorem dX8_digest_43 : decode cX8_digest 43 = .ok (.lstore_n 1, 1) := by decide +kernel
theorem dX8_digest_44 : decode cX8_digest 44 = .ok (.lload_n 1, 1) := by decide +kernel
theorem dX8_digest_45 : decode cX8_digest 45 = .ok (.aload_n 0, 1) := by decide +kernel
theorem dX8_digest_46 : decode cX8_digest 46 = .ok (.getfield 21, 3) := by decide +kernel
theorem dX8_digest_49 : decode cX8_digest 49 = .ok (.invokevirtual 147, 3) := by decide +kernel
theorem dX8_digest_52 : decode cX8_digest 52 = .ok (.invokestatic 209, 3) := by decide +kernel
theorem dX8_digest_55 : decode cX8_digest 55 = .ok (.lstore_n 1, 1) := by decide +kernel
theorem dX8_digest_56 : decode cX8_digest 56 = .ok (.lload_n 1, 1) := by decide +kernel
theorem dX8_digest_57 : decode cX8_digest 57 = .ok (.aload_n 0, 1) := by decide +kernel
theorem dX8_digest_58 : decode cX8_digest 58 = .ok (.getfield 21, 3) := by decide +kernel
theorem dX8_digest_61 : decode cX8_digest 61 = .ok (.invokevirtual 150, 3) := by decide +kernel
theorem dX8_digest_64 : decode cX8_digest 64 = .ok (.invokestatic 209, 3) := by decide +kernel
theorem dX8_digest_67 : decode cX8_digest 67 = .ok (.lstore_n 1, 1) := by decide +kernel
theorem dX8_digest_68 : decode cX8_digest 68 = .ok (.lload_n 1, 1) := by decide +kernel
theorem dX8_digest_69 : decode cX8_digest 69 = .ok (.aload_n 0, 1) := by decide +kernel
theorem dX8_digest_70 : decode cX8_digest 70 = .ok (.getfield 30, 3) := by decide +kernel
theorem dX8_digest_73 : decode cX8_digest 73 = .ok (.getfield 153, 3) := by decide +kernel
theorem dX8_digest_76 : decode cX8_digest 76 = .ok (.invokestatic 209, 3) := by decide +kernel
theorem dX8_digest_79 : decode cX8_digest 79 = .ok (.lstore_n 1, 1) := by decide +kernel
theorem dX8_digest_80 : decode cX8_digest 80 = .ok (.lload_n 1, 1) := by decide +kernel
theorem dX8_digest_81 : decode cX8_digest 81 = .ok (.aload_n 0, 1) := by decide +kernel
theorem dX8_digest_82 : decode cX8_digest 82 = .ok (.getfield 30, 3) := by decide +kernel
theorem dX8_digest_85 : decode cX8_digest 85 = .ok (.invokevirtual 158, 3) := by decide +kernel
theorem dX8_digest_88 : decode cX8_digest 88 = .ok (.invokestatic 209, 3) := by decide +kernel
theorem dX8_digest_91 : decode cX8_digest 91 = .ok (.lstore_n 1, 1) := by decide +kernel
theorem dX8_digest_92 : decode cX8_digest 92 = .ok (.lload_n 1, 1) := by decide +kernel
theorem dX8_digest_93 : decode cX8_digest 93 = .ok (.aload_n 0, 1) := by decide +kernel
theorem dX8_digest_94 : decode cX8_digest 94 = .ok (.getfield 30, 3) := by decide +kernel
theorem dX8_digest_97 : decode cX8_digest 97 = .ok (.invokevirtual 161, 3) := by decide +kernel
theorem dX8_digest_100 : decode cX8_digest 100 = .ok (.invokestatic 209, 3) := by decide +kernel
theorem dX8_digest_103 : decode cX8_digest 103 = .ok (.lstore_n 1, 1) := by decide +kernel
theorem dX8_digest_104 : decode cX8_digest 104 = .ok (.lload_n 1, 1) := by decide +kernel
theorem dX8_digest_105 : decode cX8_digest 105 = .ok (.aload_n 0, 1) := by decide +kernel
theorem dX8_digest_106 : decode cX8_digest 106 = .ok (.invokevirtual 213, 3) := by decide +kernel
theorem dX8_digest_109 : decode cX8_digest 109 = .ok (.invokestatic 209, 3) := by decide +kernel
theorem dX8_digest_112 : decode cX8_digest 112 = .ok (.lstore_n 1, 1) := by decide +kernel
theorem dX8_digest_113 : decode cX8_digest 113 = .ok (.iconst 0, 1) := by decide +kernel
theorem dX8_digest_114 : decode cX8_digest 114 = .ok (.istore_n 3, 1) := by decide +kernel
theorem dX8_digest_115 : decode cX8_digest 115 = .ok (.iload_n 3, 1) := by decide +kernel
theorem dX8_digest_116 : decode cX8_digest 116 = .ok (.aload_n 0, 1) := by decide +kernel
theorem dX8_digest_117 : decode cX8_digest 117 = .ok (.getfield 10, 3) := by decide +kernel
theorem dX8_digest_120 : decode cX8_digest 120 = .ok (.getfield 58, 3) := by decide +kernel
theorem dX8_digest_123 : decode cX8_digest 123 = .ok (.if_icmp .ge 70, 3) := by decide +kernel
theorem dX8_digest_126 : decode cX8_digest 126 = .ok (.lload_n 1, 1) := by decide +kernel
theorem dX8_digest_127 : decode cX8_digest 127 = .ok (.aload_n 0, 1) := by decide +kernel
theorem dX8_digest_128 : decode cX8_digest 128 = .ok (.getfield 10, 3) := by decide +kernel
theorem dX8_digest_131 : decode cX8_digest 131 = .ok (.getfield 83, 3) := by decide +kernel
theorem dX8_digest_134 : decode cX8_digest 134 = .ok (.iload_n 3, 1) := by decide +kernel
theorem dX8_digest_135 : decode cX8_digest 135 = .ok (.invokevirtual 87, 3) := by decide +kernel
theorem dX8_digest_138 : decode cX8_digest 138 = .ok (.invokestatic 209, 3) := by decide +kernel
theorem dX8_digest_141 : decode cX8_digest 141 = .ok (.lstore_n 1, 1) := by decide +kernel
theorem dX8_digest_142 : decode cX8_digest 142 = .ok (.lload_n 1, 1) := by decide +kernel
theorem dX8_digest_143 : decode cX8_digest 143 = .ok (.aload_n 0, 1) := by decide +kernel
theorem dX8_digest_144 : decode cX8_digest 144 = .ok (.getfield 10, 3) := by decide +kernel
theorem dX8_digest_147 : decode cX8_digest 147 = .ok (.getfield 97, 3) := by decide +kernel
theorem dX8_digest_150 : decode cX8_digest 150 = .ok (.iload_n 3, 1) := by decide +kernel
theorem dX8_digest_151 : decode cX8_digest 151 = .ok (.invokevirtual 87, 3) := by decide +kernel
theorem dX8_digest_154 : decode cX8_digest 154 = .ok (.invokestatic 209, 3) := by decide +kernel
theorem dX8_digest_157 : decode cX8_digest 157 = .ok (.lstore_n 1, 1) := by decide +kernel
theorem dX8_digest_158 : decode cX8_digest 158 = .ok (.lload_n 1, 1) := by decide +kernel
theorem dX8_digest_159 : decode cX8_digest 159 = .ok (.aload_n 0, 1) := by decide +kernel
theorem dX8_digest_160 : decode cX8_digest 160 = .ok (.getfield 21, 3) := by decide +kernel
theorem dX8_digest_163 : decode cX8_digest 163 = .ok (.getfield 128, 3) := by decide +kernel
theorem dX8_digest_166 : decode cX8_digest 166 = .ok (.iload_n 3, 1) := by decide +kernel
theorem dX8_digest_167 : decode cX8_digest 167 = .ok (.invokevirtual 87, 3) := by decide +kernel
theorem dX8_digest_170 : decode cX8_digest 170 = .ok (.invokestatic 209, 3) := by decide +kernel
theorem dX8_digest_173 : decode cX8_digest 173 = .ok (.lstore_n 1, 1) := by decide +kernel
theorem dX8_digest_174 : decode cX8_digest 174 = .ok (.lload_n 1, 1) := by decide +kernel
theorem dX8_digest_175 : decode cX8_digest 175 = .ok (.aload_n 0, 1) := by decide +kernel
theorem dX8_digest_176 : decode cX8_digest 176 = .ok (.getfield 21, 3) := by decide +kernel
theorem dX8_digest_179 : decode cX8_digest 179 = .ok (.iload_n 3, 1) := by decide +kernel
theorem dX8_digest_180 : decode cX8_digest 180 = .ok (.invokevirtual 140, 3) := by decide +kernel
theorem dX8_digest_183 : decode cX8_digest 183 = .ok (.invokestatic 209, 3) := by decide +kernel
theorem dX8_digest_186 : decode cX8_digest 186 = .ok (.lstore_n 1, 1) := by decide +kernel
theorem dX8_digest_187 : decode cX8_digest 187 = .ok (.iinc 3 1, 3) := by decide +kernel
theorem dX8_digest_190 : decode cX8_digest 190 = .ok (.goto (-75), 3) := by decide +kernel
theorem dX8_digest_193 : decode cX8_digest 193 = .ok (.iconst 0, 1) := by decide +kernel
theorem dX8_digest_194 : decode cX8_digest 194 = .ok (.istore_n 3, 1) := by decide +kernel
theorem dX8_digest_195 : decode cX8_digest 195 = .ok (.iload_n 3, 1) := by decide +kernel
theorem dX8_digest_196 : decode cX8_digest 196 = .ok (.aload_n 0, 1) := by decide +kernel
theorem dX8_digest_197 : decode cX8_digest 197 = .ok (.getfield 21, 3) := by decide +kernel
theorem dX8_digest_200 : decode cX8_digest 200 = .ok (.getfield 127, 3) := by decide +kernel
theorem dX8_digest_203 : decode cX8_digest 203 = .ok (.if_icmp .ge 38, 3) := by decide +kernel
theorem dX8_digest_206 : decode cX8_digest 206 = .ok (.lload_n 1, 1) := by decide +kernel
theorem dX8_digest_207 : decode cX8_digest 207 = .ok (.aload_n 0, 1) := by decide +kernel
theorem dX8_digest_208 : decode cX8_digest 208 = .ok (.getfield 21, 3) := by decide +kernel
theorem dX8_digest_211 : decode cX8_digest 211 = .ok (.iload_n 3, 1) := by decide +kernel
theorem dX8_digest_212 : decode cX8_digest 212 = .ok (.invokevirtual 134, 3) := by decide +kernel
theorem dX8_digest_215 : decode cX8_digest 215 = .ok (.invokestatic 209, 3) := by decide +kernel
theorem dX8_digest_218 : decode cX8_digest 218 = .ok (.lstore_n 1, 1) := by decide +kernel
theorem dX8_digest_219 : decode cX8_digest 219 = .ok (.lload_n 1, 1) := by decide +kernel
theorem dX8_digest_220 : decode cX8_digest 220 = .ok (.aload_n 0, 1) := by decide +kernel
theorem dX8_digest_221 : decode cX8_digest 221 = .ok (.getfield 30, 3) := by decide +kernel
theorem dX8_digest_224 : decode cX8_digest 224 = .ok (.getfield 154, 3) := by decide +kernel
theorem dX8_digest_227 : decode cX8_digest 227 = .ok (.iload_n 3, 1) := by decide +kernel
theorem dX8_digest_228 : decode cX8_digest 228 = .ok (.invokevirtual 87, 3) := by decide +kernel
theorem dX8_digest_231 : decode cX8_digest 231 = .ok (.invokestatic 209, 3) := by decide +kernel
theorem dX8_digest_234 : decode cX8_digest 234 = .ok (.lstore_n 1, 1) := by decide +kernel
theorem dX8_digest_235 : decode cX8_digest 235 = .ok (.iinc 3 1, 3) := by decide +kernel
theorem dX8_digest_238 : decode cX8_digest 238 = .ok (.goto (-43), 3) := by decide +kernel
theorem dX8_digest_241 : decode cX8_digest 241 = .ok (.lload_n 1, 1) := by decide +kernel
theorem dX8_digest_242 : decode cX8_digest 242 = .ok (.lreturn, 1) := by decide +kernel
theorem dX8_mix_0 : decode cX8_mix 0 = .ok (.ldc2_w 216, 3) := by decide +kernel
theorem dX8_mix_3 : decode cX8_mix 3 = .ok (.lload_n 0, 1) := by decide +kernel
theorem dX8_mix_4 : decode cX8_mix 4 = .ok (.lmul, 1) := by decide +kernel
theorem dX8_mix_5 : decode cX8_mix 5 = .ok (.iload_n 2, 1) := by decide +kernel
theorem dX8_mix_6 : decode cX8_mix 6 = .ok (.i2l, 1) := by decide +kernel
theorem dX8_mix_7 : decode cX8_mix 7 = .ok (.ladd, 1) := by decide +kernel
theorem dX8_mix_8 : decode cX8_mix 8 = .ok (.lreturn, 1) := by decide +kernel
theorem dX8_requireIndex_0 : decode cX8_requireIndex 0 = .ok (.iload_n 0, 1) := by decide +kernel
theorem dX8_requireIndex_1 : decode cX8_requireIndex 1 = .ok (.ifCond .lt 8, 3) := by decide +kernel
theorem dX8_requireIndex_4 : decode cX8_requireIndex 4 = .ok (.iload_n 0, 1) := by decide +kernel
theorem dX8_requireIndex_5 : decode cX8_requireIndex 5 = .ok (.iload_n 1, 1) := by decide +kernel
theorem dX8_requireIndex_6 : decode cX8_requireIndex 6 = .ok (.if_icmp .lt 13, 3) := by decide +kernel
theorem dX8_requireIndex_9 : decode cX8_requireIndex 9 = .ok (.new 218, 3) := by decide +kernel
theorem dX8_requireIndex_12 : decode cX8_requireIndex 12 = .ok (.dup, 1) := by decide +kernel
theorem dX8_requireIndex_13 : decode cX8_requireIndex 13 = .ok (.ldc 220, 2) := by decide +kernel
theorem dX8_requireIndex_15 : decode cX8_requireIndex 15 = .ok (.invokespecial 222, 3) := by decide +kernel
theorem dX8_requireIndex_18 : decode cX8_requireIndex 18 = .ok (.athrow, 1) := by decide +kernel
theorem dX8_requireIndex_19 : decode cX8_requireIndex 19 = .ok (.return_, 1) := by decide +kernel
theorem dX8_requireRange_0 : decode cX8_requireRange 0 = .ok (.iload_n 0, 1) := by decide +kernel
theorem dX8_requireRange_1 : decode cX8_requireRange 1 = .ok (.iload_n 1, 1) := by decide +kernel
theorem dX8_requireRange_2 : decode cX8_requireRange 2 = .ok (.if_icmp .lt 8, 3) := by decide +kernel
theorem dX8_requireRange_5 : decode cX8_requireRange 5 = .ok (.iload_n 0, 1) := by decide +kernel
theorem dX8_requireRange_6 : decode cX8_requireRange 6 = .ok (.iload_n 2, 1) := by decide +kernel
theorem dX8_requireRange_7 : decode cX8_requireRange 7 = .ok (.if_icmp .le 13, 3) := by decide +kernel
theorem dX8_requireRange_10 : decode cX8_requireRange 10 = .ok (.new 189, 3) := by decide +kernel
theorem dX8_requireRange_13 : decode cX8_requireRange 13 = .ok (.dup, 1) := by decide +kernel
theorem dX8_requireRange_14 : decode cX8_requireRange 14 = .ok (.ldc 223, 2) := by decide +kernel
theorem dX8_requireRange_16 : decode cX8_requireRange 16 = .ok (.invokespecial 193, 3) := by decide +kernel
theorem dX8_requireRange_19 : decode cX8_requireRange 19 = .ok (.athrow, 1) := by decide +kernel
theorem dX8_requireRange_20 : decode cX8_requireRange 20 = .ok (.return_, 1) := by decide +kernel
set_option maxRecDepth 20000 in
theorem ggX8_prepareChange_X2_save : GoodIn wsX8_prepareChange wsX2_save := goodIn_r _ [8, 9, 10, 11, 12, 13, 7, 14, 15, 16, 17, 18, 19, 20, 21, 22, 23, 24, 25, 26, 27, 28, 29, 30, 31, 32, 33, 34, 35, 36, 37, 38, 39, 40, 41, 42, 43, 52, 53, 54, 55, 56, 57, 58, 59, 60, 61, 62, 63, 64] (by decide +kernel) (by decide +kernel)
set_option maxRecDepth 20000 in
theorem gX8_prepareChange_X2_save : GoodIn wsX8_prepareChange (wsV RX8 225 RX2 yX2_save wsX2_save) := goodIn_app (goodIn_of _ (by decide +kernel)) ggX8_prepareChange_X2_save
theorem dX8_prepareChange_0 : decode cX8_prepareChange 0 = .ok (.aload_n 0, 1) := by decide +kernel
theorem dX8_prepareChange_1 : decode cX8_prepareChange 1 = .ok (.getfield 50, 3) := by decide +kernel
theorem dX8_prepareChange_4 : decode cX8_prepareChange 4 = .ok (.aload_n 0, 1) := by decide +kernel
theorem dX8_prepareChange_5 : decode cX8_prepareChange 5 = .ok (.getfield 10, 3) := by decide +kernel
theorem dX8_prepareChange_8 : decode cX8_prepareChange 8 = .ok (.invokevirtual 225, 3) := by decide +kernel
theorem dX8_prepareChange_11 : decode cX8_prepareChange 11 = .ok (.aload_n 0, 1) := by decide +kernel
theorem dX8_prepareChange_12 : decode cX8_prepareChange 12 = .ok (.iconst 1, 1) := by decide +kernel
theorem dX8_prepareChange_13 : decode cX8_prepareChange 13 = .ok (.putfield 54, 3) := by decide +kernel
theorem dX8_prepareChange_16 : decode cX8_prepareChange 16 = .ok (.return_, 1) := by decide +kernel
set_option maxRecDepth 20000 in
theorem ggX8_refresh_X3_arrange : GoodIn wsX8_refresh wsX3_arrange := goodIn_r _ [9, 10, 11, 12, 13, 14, 15, 16, 17, 18, 19, 20, 21, 22, 23, 24, 25, 26, 27, 28, 29, 30, 31, 32, 33, 34, 35, 36, 37, 38, 39, 40, 41, 42, 43, 44, 45, 46, 47, 48, 49, 50, 51, 52, 53, 54, 55, 56, 57, 58, 59, 60, 61, 62, 63, 64, 65, 66, 67, 68, 69, 70, 71, 72, 73, 74, 75, 76, 77, 78, 79, 80, 81, 82, 83, 84, 85, 86, 87, 88, 89, 90, 91, 92, 93, 8, 94, 95, 96, 97, 98, 99, 145, 146, 147, 148, 149, 150, 135, 136, 137, 138, 139, 140, 141, 142, 143, 144, 151, 152, 153, 154, 155, 156, 157, 158, 159] (by decide +kernel) (by decide +kernel)
set_option maxRecDepth 20000 in
theorem gX8_refresh_X3_arrange : GoodIn wsX8_refresh (wsV RX8 167 RX3 yX3_arrange wsX3_arrange) := goodIn_app (goodIn_of _ (by decide +kernel)) ggX8_refresh_X3_arrange
set_option maxRecDepth 20000 in
theorem ggX8_refresh_X5_fill : GoodIn wsX8_refresh wsX5_fill := goodIn_r _ [104, 105, 106, 107, 108, 109, 110, 28, 29, 24, 30, 26, 111, 112, 113, 8, 114, 115, 116, 117, 118, 96, 11, 99, 22, 23, 25, 39, 40, 41, 42, 43, 44, 45, 46, 119, 120, 121, 122, 123, 124, 125, 126, 160, 161, 162, 163, 164, 145, 146, 147, 148, 149, 150, 135, 136, 137, 138, 139, 140, 141, 142, 143, 144, 159] (by decide +kernel) (by decide +kernel)
set_option maxRecDepth 20000 in
theorem gX8_refresh_X5_fill : GoodIn wsX8_refresh (wsV RX8 228 RX5 yX5_fill wsX5_fill) := goodIn_app (goodIn_of _ (by decide +kernel)) ggX8_refresh_X5_fill
theorem dX8_refresh_0 : decode cX8_refresh 0 = .ok (.aload_n 0, 1) := by decide +kernel
theorem dX8_refresh_1 : decode cX8_refresh 1 = .ok (.getfield 54, 3) := by decide +kernel
theorem dX8_refresh_4 : decode cX8_refresh 4 = .ok (.ifCond .eq 29, 3) := by decide +kernel
theorem dX8_refresh_7 : decode cX8_refresh 7 = .ok (.aload_n 0, 1) := by decide +kernel
theorem dX8_refresh_8 : decode cX8_refresh 8 = .ok (.getfield 21, 3) := by decide +kernel
theorem dX8_refresh_11 : decode cX8_refresh 11 = .ok (.aload_n 0, 1) := by decide +kernel
theorem dX8_refresh_12 : decode cX8_refresh 12 = .ok (.getfield 10, 3) := by decide +kernel
theorem dX8_refresh_15 : decode cX8_refresh 15 = .ok (.getfield 121, 3) := by decide +kernel
theorem dX8_refresh_18 : decode cX8_refresh 18 = .ok (.invokevirtual 167, 3) := by decide +kernel
theorem dX8_refresh_21 : decode cX8_refresh 21 = .ok (.aload_n 0, 1) := by decide +kernel
theorem dX8_refresh_22 : decode cX8_refresh 22 = .ok (.getfield 30, 3) := by decide +kernel
theorem dX8_refresh_25 : decode cX8_refresh 25 = .ok (.invokevirtual 228, 3) := by decide +kernel
theorem dX8_refresh_28 : decode cX8_refresh 28 = .ok (.aload_n 0, 1) := by decide +kernel
theorem dX8_refresh_29 : decode cX8_refresh 29 = .ok (.iconst 0, 1) := by decide +kernel
theorem dX8_refresh_30 : decode cX8_refresh 30 = .ok (.putfield 54, 3) := by decide +kernel
theorem dX8_refresh_33 : decode cX8_refresh 33 = .ok (.return_, 1) := by decide +kernel
