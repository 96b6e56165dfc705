set_option maxRecDepth 20000 in
theorem ggL_insert_X8_insert : GoodIn wsL_insert wsX8_insert := goodIn_ca (goodIn_ca (goodIn_ca (goodIn_r _ [8, 9, 10, 11, 12, 13, 7, 14, 15, 16, 17, 18, 19, 20, 21, 22, 23, 24, 25, 26, 27, 28, 29, 30, 31, 32, 33, 34, 35, 36, 37, 38, 39, 40, 41, 42, 43, 44, 45, 46, 47, 48, 49, 50, 51, 52, 53, 54, 55, 56, 57, 58, 59, 60, 61, 62, 63, 64, 65, 66, 67, 68, 69, 70, 71, 72, 73, 74, 75, 76, 77, 78, 79, 80, 81, 82, 83, 84, 85, 86, 87, 88, 89, 90, 91, 92, 93, 94, 95, 96, 97, 98, 99, 100] (by decide +kernel) (by decide +kernel)) (goodIn_sub (fun _ h => List.mem_cons_of_mem _ (List.mem_append_left _ (List.mem_append_left _ (List.mem_append_right _ h)))) (by decide +kernel))) (goodIn_sub (fun _ h => List.mem_cons_of_mem _ (List.mem_append_left _ (List.mem_append_right _ h))) (by decide +kernel))) (goodIn_sub (fun _ h => List.mem_cons_of_mem _ (List.mem_append_right _ h)) (by decide +kernel))
set_option maxRecDepth 20000 in
theorem gL_insert_X8_insert : GoodIn wsL_insert (wsV RL 7 RX8 yX8_insert wsX8_insert) := goodIn_app (goodIn_of _ (by decide +kernel)) ggL_insert_X8_insert
theorem dL_insert_0 : decode cL_insert 0 = .ok (.aload_n 3, 1) := by decide +kernel
theorem dL_insert_1 : decode cL_insert 1 = .ok (.iconst 0, 1) := by decide +kernel
theorem dL_insert_2 : decode cL_insert 2 = .ok (.aload_n 0, 1) := by decide +kernel
theorem dL_insert_3 : decode cL_insert 3 = .ok (.iload_n 1, 1) := by decide +kernel
theorem dL_insert_4 : decode cL_insert 4 = .ok (.iload_n 2, 1) := by decide +kernel
theorem dL_insert_5 : decode cL_insert 5 = .ok (.invokevirtual 7, 3) := by decide +kernel
theorem dL_insert_8 : decode cL_insert 8 = .ok (.i2l, 1) := by decide +kernel
theorem dL_insert_9 : decode cL_insert 9 = .ok (.lastore, 1) := by decide +kernel
theorem dL_insert_10 : decode cL_insert 10 = .ok (.goto 15, 3) := by decide +kernel
theorem dL_insert_13 : decode cL_insert 13 = .ok (.astore 4, 2) := by decide +kernel
theorem dL_insert_15 : decode cL_insert 15 = .ok (.iconst 1, 1) := by decide +kernel
theorem dL_insert_16 : decode cL_insert 16 = .ok (.ireturn, 1) := by decide +kernel
theorem dL_insert_17 : decode cL_insert 17 = .ok (.astore 4, 2) := by decide +kernel
theorem dL_insert_19 : decode cL_insert 19 = .ok (.iconst 2, 1) := by decide +kernel
theorem dL_insert_20 : decode cL_insert 20 = .ok (.ireturn, 1) := by decide +kernel
theorem dL_insert_21 : decode cL_insert 21 = .ok (.astore 4, 2) := by decide +kernel
theorem dL_insert_23 : decode cL_insert 23 = .ok (.iconst 3, 1) := by decide +kernel
theorem dL_insert_24 : decode cL_insert 24 = .ok (.ireturn, 1) := by decide +kernel
theorem dL_insert_25 : decode cL_insert 25 = .ok (.iconst 0, 1) := by decide +kernel
theorem dL_insert_26 : decode cL_insert 26 = .ok (.ireturn, 1) := by decide +kernel
set_option maxRecDepth 20000 in
theorem ggL_remove_X8_remove : GoodIn wsL_remove wsX8_remove := goodIn_ca (goodIn_r _ [6, 7, 8, 9, 5, 10, 11, 12, 13, 14, 15, 16, 17, 18, 19, 20, 21, 22, 23, 24, 25, 26, 27, 28, 29, 30, 31, 32, 33, 34, 35, 36, 37, 38, 39, 40, 41, 42, 43, 44, 45, 46, 47, 48, 49, 50, 51, 52, 53, 54, 55, 56, 57, 58, 59, 60, 61, 62, 63, 64, 65, 66, 67, 68, 69, 70, 71, 72, 73, 74, 75, 76, 77, 78, 79, 80, 81, 82, 83, 84, 85, 86, 87, 88, 89, 90, 91, 92] (by decide +kernel) (by decide +kernel)) (goodIn_sub (fun _ h => List.mem_cons_of_mem _ (List.mem_append_right _ h)) (by decide +kernel))
set_option maxRecDepth 20000 in
theorem gL_remove_X8_remove : GoodIn wsL_remove (wsV RL 19 RX8 yX8_remove wsX8_remove) := goodIn_app (goodIn_of _ (by decide +kernel)) ggL_remove_X8_remove
theorem dL_remove_0 : decode cL_remove 0 = .ok (.aload_n 2, 1) := by decide +kernel
theorem dL_remove_1 : decode cL_remove 1 = .ok (.iconst 0, 1) := by decide +kernel
theorem dL_remove_2 : decode cL_remove 2 = .ok (.aload_n 0, 1) := by decide +kernel
theorem dL_remove_3 : decode cL_remove 3 = .ok (.iload_n 1, 1) := by decide +kernel
theorem dL_remove_4 : decode cL_remove 4 = .ok (.invokevirtual 19, 3) := by decide +kernel
theorem dL_remove_7 : decode cL_remove 7 = .ok (.i2l, 1) := by decide +kernel
theorem dL_remove_8 : decode cL_remove 8 = .ok (.lastore, 1) := by decide +kernel
theorem dL_remove_9 : decode cL_remove 9 = .ok (.goto 6, 3) := by decide +kernel
theorem dL_remove_12 : decode cL_remove 12 = .ok (.astore_n 3, 1) := by decide +kernel
theorem dL_remove_13 : decode cL_remove 13 = .ok (.iconst 1, 1) := by decide +kernel
theorem dL_remove_14 : decode cL_remove 14 = .ok (.ireturn, 1) := by decide +kernel
theorem dL_remove_15 : decode cL_remove 15 = .ok (.iconst 0, 1) := by decide +kernel
theorem dL_remove_16 : decode cL_remove 16 = .ok (.ireturn, 1) := by decide +kernel
set_option maxRecDepth 20000 in
theorem ggL_setMark_X8_setMark : GoodIn wsL_setMark wsX8_setMark := goodIn_ca (goodIn_ca (goodIn_r _ [7, 8, 9, 10, 6, 11, 12, 13, 14, 15, 16, 17, 18, 19, 20, 21, 22, 23, 24, 25, 26, 27, 28, 29, 30, 31, 32, 33, 34, 35, 36, 37, 38, 39, 40, 41, 42, 43, 44, 45, 46, 47, 48, 49, 50, 51, 52, 53, 54, 55, 56, 57, 58, 59, 60, 61, 62, 63, 64, 65, 66, 67, 68, 69, 70, 71, 72, 73, 74, 75, 76, 77, 78, 79, 80, 81, 82, 83, 84, 85, 86, 87, 88, 89, 90] (by decide +kernel) (by decide +kernel)) (goodIn_sub (fun _ h => List.mem_cons_of_mem _ (List.mem_append_left _ (List.mem_append_right _ h))) (by decide +kernel))) (goodIn_sub (fun _ h => List.mem_cons_of_mem _ (List.mem_append_right _ h)) (by decide +kernel))
set_option maxRecDepth 20000 in
theorem gL_setMark_X8_setMark : GoodIn wsL_setMark (wsV RL 23 RX8 yX8_setMark wsX8_setMark) := goodIn_app (goodIn_of _ (by decide +kernel)) ggL_setMark_X8_setMark
theorem dL_setMark_0 : decode cL_setMark 0 = .ok (.aload_n 3, 1) := by decide +kernel
theorem dL_setMark_1 : decode cL_setMark 1 = .ok (.iconst 0, 1) := by decide +kernel
theorem dL_setMark_2 : decode cL_setMark 2 = .ok (.aload_n 0, 1) := by decide +kernel
theorem dL_setMark_3 : decode cL_setMark 3 = .ok (.iload_n 1, 1) := by decide +kernel
theorem dL_setMark_4 : decode cL_setMark 4 = .ok (.iload_n 2, 1) := by decide +kernel
theorem dL_setMark_5 : decode cL_setMark 5 = .ok (.invokevirtual 23, 3) := by decide +kernel
theorem dL_setMark_8 : decode cL_setMark 8 = .ok (.i2l, 1) := by decide +kernel
theorem dL_setMark_9 : decode cL_setMark 9 = .ok (.lastore, 1) := by decide +kernel
theorem dL_setMark_10 : decode cL_setMark 10 = .ok (.goto 11, 3) := by decide +kernel
theorem dL_setMark_13 : decode cL_setMark 13 = .ok (.astore 4, 2) := by decide +kernel
theorem dL_setMark_15 : decode cL_setMark 15 = .ok (.iconst 1, 1) := by decide +kernel
theorem dL_setMark_16 : decode cL_setMark 16 = .ok (.ireturn, 1) := by decide +kernel
theorem dL_setMark_17 : decode cL_setMark 17 = .ok (.astore 4, 2) := by decide +kernel
theorem dL_setMark_19 : decode cL_setMark 19 = .ok (.iconst 2, 1) := by decide +kernel
theorem dL_setMark_20 : decode cL_setMark 20 = .ok (.ireturn, 1) := by decide +kernel
theorem dL_setMark_21 : decode cL_setMark 21 = .ok (.iconst 0, 1) := by decide +kernel
theorem dL_setMark_22 : decode cL_setMark 22 = .ok (.ireturn, 1) := by decide +kernel
set_option maxRecDepth 20000 in
theorem ggL_wordWidth_X8_wordWidth : GoodIn wsL_wordWidth wsX8_wordWidth := goodIn_ca (goodIn_r _ [6, 7, 8, 9, 5, 10, 11, 12, 13, 14, 15, 16, 17, 18, 19, 20, 21, 22, 23, 24, 25, 26, 27, 28, 29, 30, 31, 32, 33, 34, 35, 36, 37] (by decide +kernel) (by decide +kernel)) (goodIn_sub (fun _ h => List.mem_cons_of_mem _ (List.mem_append_right _ h)) (by decide +kernel))
set_option maxRecDepth 20000 in
theorem gL_wordWidth_X8_wordWidth : GoodIn wsL_wordWidth (wsV RL 26 RX8 yX8_wordWidth wsX8_wordWidth) := goodIn_app (goodIn_of _ (by decide +kernel)) ggL_wordWidth_X8_wordWidth
theorem dL_wordWidth_0 : decode cL_wordWidth 0 = .ok (.aload_n 2, 1) := by decide +kernel
theorem dL_wordWidth_1 : decode cL_wordWidth 1 = .ok (.iconst 0, 1) := by decide +kernel
theorem dL_wordWidth_2 : decode cL_wordWidth 2 = .ok (.aload_n 0, 1) := by decide +kernel
theorem dL_wordWidth_3 : decode cL_wordWidth 3 = .ok (.iload_n 1, 1) := by decide +kernel
theorem dL_wordWidth_4 : decode cL_wordWidth 4 = .ok (.invokevirtual 26, 3) := by decide +kernel
theorem dL_wordWidth_7 : decode cL_wordWidth 7 = .ok (.i2l, 1) := by decide +kernel
theorem dL_wordWidth_8 : decode cL_wordWidth 8 = .ok (.lastore, 1) := by decide +kernel
theorem dL_wordWidth_9 : decode cL_wordWidth 9 = .ok (.goto 6, 3) := by decide +kernel
theorem dL_wordWidth_12 : decode cL_wordWidth 12 = .ok (.astore_n 3, 1) := by decide +kernel
theorem dL_wordWidth_13 : decode cL_wordWidth 13 = .ok (.iconst 1, 1) := by decide +kernel
theorem dL_wordWidth_14 : decode cL_wordWidth 14 = .ok (.ireturn, 1) := by decide +kernel
theorem dL_wordWidth_15 : decode cL_wordWidth 15 = .ok (.iconst 0, 1) := by decide +kernel
theorem dL_wordWidth_16 : decode cL_wordWidth 16 = .ok (.ireturn, 1) := by decide +kernel
set_option maxRecDepth 20000 in
theorem ggL_mark_X8_mark : GoodIn wsL_mark wsX8_mark := goodIn_ca (goodIn_r _ [6, 7, 8, 9, 5, 10, 11, 12, 13, 14, 15, 16, 17, 18, 19, 20, 21, 22, 23, 24, 25, 26, 27, 28, 29, 30, 31, 32, 33, 34, 35, 36, 37] (by decide +kernel) (by decide +kernel)) (goodIn_sub (fun _ h => List.mem_cons_of_mem _ (List.mem_append_right _ h)) (by decide +kernel))
set_option maxRecDepth 20000 in
theorem gL_mark_X8_mark : GoodIn wsL_mark (wsV RL 29 RX8 yX8_mark wsX8_mark) := goodIn_app (goodIn_of _ (by decide +kernel)) ggL_mark_X8_mark
theorem dL_mark_0 : decode cL_mark 0 = .ok (.aload_n 2, 1) := by decide +kernel
theorem dL_mark_1 : decode cL_mark 1 = .ok (.iconst 0, 1) := by decide +kernel
theorem dL_mark_2 : decode cL_mark 2 = .ok (.aload_n 0, 1) := by decide +kernel
theorem dL_mark_3 : decode cL_mark 3 = .ok (.iload_n 1, 1) := by decide +kernel
theorem dL_mark_4 : decode cL_mark 4 = .ok (.invokevirtual 29, 3) := by decide +kernel
theorem dL_mark_7 : decode cL_mark 7 = .ok (.i2l, 1) := by decide +kernel
theorem dL_mark_8 : decode cL_mark 8 = .ok (.lastore, 1) := by decide +kernel
theorem dL_mark_9 : decode cL_mark 9 = .ok (.goto 6, 3) := by decide +kernel
theorem dL_mark_12 : decode cL_mark 12 = .ok (.astore_n 3, 1) := by decide +kernel
theorem dL_mark_13 : decode cL_mark 13 = .ok (.iconst 1, 1) := by decide +kernel
theorem dL_mark_14 : decode cL_mark 14 = .ok (.ireturn, 1) := by decide +kernel
theorem dL_mark_15 : decode cL_mark 15 = .ok (.iconst 0, 1) := by decide +kernel
theorem dL_mark_16 : decode cL_mark 16 = .ok (.ireturn, 1) := by decide +kernel
set_option maxRecDepth 20000 in
theorem ggL_setColumn_X8_setColumn : GoodIn wsL_setColumn wsX8_setColumn := goodIn_ca (goodIn_r _ [6, 7, 8, 9, 5, 10, 11, 12, 13, 14, 15, 16, 17, 18, 19, 20, 21, 22, 23, 24, 25, 26, 27, 28, 29, 30, 31, 32, 33, 34, 35, 36, 37, 38, 39, 40, 41, 42, 43, 44, 45, 46, 47, 48, 49, 50, 51, 52, 53, 54, 55, 56, 57, 58, 59, 60, 61, 62, 63, 64, 65, 66, 67, 68, 69, 70, 71, 72, 73, 74, 75, 76, 77, 78, 79] (by decide +kernel) (by decide +kernel)) (goodIn_sub (fun _ h => List.mem_cons_of_mem _ (List.mem_append_right _ h)) (by decide +kernel))
set_option maxRecDepth 20000 in
theorem gL_setColumn_X8_setColumn : GoodIn wsL_setColumn (wsV RL 32 RX8 yX8_setColumn wsX8_setColumn) := goodIn_app (goodIn_of _ (by decide +kernel)) ggL_setColumn_X8_setColumn
theorem dL_setColumn_0 : decode cL_setColumn 0 = .ok (.aload_n 2, 1) := by decide +kernel
theorem dL_setColumn_1 : decode cL_setColumn 1 = .ok (.iconst 0, 1) := by decide +kernel
theorem dL_setColumn_2 : decode cL_setColumn 2 = .ok (.aload_n 0, 1) := by decide +kernel
theorem dL_setColumn_3 : decode cL_setColumn 3 = .ok (.iload_n 1, 1) := by decide +kernel
theorem dL_setColumn_4 : decode cL_setColumn 4 = .ok (.invokevirtual 32, 3) := by decide +kernel
theorem dL_setColumn_7 : decode cL_setColumn 7 = .ok (.i2l, 1) := by decide +kernel
theorem dL_setColumn_8 : decode cL_setColumn 8 = .ok (.lastore, 1) := by decide +kernel
theorem dL_setColumn_9 : decode cL_setColumn 9 = .ok (.goto 6, 3) := by decide +kernel
theorem dL_setColumn_12 : decode cL_setColumn 12 = .ok (.astore_n 3, 1) := by decide +kernel
theorem dL_setColumn_13 : decode cL_setColumn 13 = .ok (.iconst 1, 1) := by decide +kernel
theorem dL_setColumn_14 : decode cL_setColumn 14 = .ok (.ireturn, 1) := by decide +kernel
theorem dL_setColumn_15 : decode cL_setColumn 15 = .ok (.iconst 0, 1) := by decide +kernel
theorem dL_setColumn_16 : decode cL_setColumn 16 = .ok (.ireturn, 1) := by decide +kernel
set_option maxRecDepth 20000 in
theorem ggL_setSpace_X8_setSpace : GoodIn wsL_setSpace wsX8_setSpace := goodIn_ca (goodIn_r _ [6, 7, 8, 9, 5, 10, 11, 12, 13, 14, 15, 16, 17, 18, 19, 20, 21, 22, 23, 24, 25, 26, 27, 28, 29, 30, 31, 32, 33, 34, 35, 36, 37, 38, 39, 40, 41, 42, 43, 44, 45, 46, 47, 48, 49, 50, 51, 52, 53, 54, 55, 56, 57, 58, 59, 60, 61, 62, 63, 64, 65, 66, 67, 68, 69, 70, 71, 72, 73, 74, 75, 76, 77, 78, 79] (by decide +kernel) (by decide +kernel)) (goodIn_sub (fun _ h => List.mem_cons_of_mem _ (List.mem_append_right _ h)) (by decide +kernel))
set_option maxRecDepth 20000 in
theorem gL_setSpace_X8_setSpace : GoodIn wsL_setSpace (wsV RL 35 RX8 yX8_setSpace wsX8_setSpace) := goodIn_app (goodIn_of _ (by decide +kernel)) ggL_setSpace_X8_setSpace
theorem dL_setSpace_0 : decode cL_setSpace 0 = .ok (.aload_n 2, 1) := by decide +kernel
theorem dL_setSpace_1 : decode cL_setSpace 1 = .ok (.iconst 0, 1) := by decide +kernel
theorem dL_setSpace_2 : decode cL_setSpace 2 = .ok (.aload_n 0, 1) := by decide +kernel
theorem dL_setSpace_3 : decode cL_setSpace 3 = .ok (.iload_n 1, 1) := by decide +kernel
theorem dL_setSpace_4 : decode cL_setSpace 4 = .ok (.invokevirtual 35, 3) := by decide +kernel
theorem dL_setSpace_7 : decode cL_setSpace 7 = .ok (.i2l, 1) := by decide +kernel
theorem dL_setSpace_8 : decode cL_setSpace 8 = .ok (.lastore, 1) := by decide +kernel
theorem dL_setSpace_9 : decode cL_setSpace 9 = .ok (.goto 6, 3) := by decide +kernel
theorem dL_setSpace_12 : decode cL_setSpace 12 = .ok (.astore_n 3, 1) := by decide +kernel
theorem dL_setSpace_13 : decode cL_setSpace 13 = .ok (.iconst 1, 1) := by decide +kernel
theorem dL_setSpace_14 : decode cL_setSpace 14 = .ok (.ireturn, 1) := by decide +kernel
theorem dL_setSpace_15 : decode cL_setSpace 15 = .ok (.iconst 0, 1) := by decide +kernel
theorem dL_setSpace_16 : decode cL_setSpace 16 = .ok (.ireturn, 1) := by decide +kernel
set_option maxRecDepth 20000 in
theorem ggL_setPenalties_X8_setPenalties : GoodIn wsL_setPenalties wsX8_setPenalties := goodIn_ca (goodIn_r _ [6, 7, 8, 9, 5, 10, 11, 12, 13, 14, 15, 16, 17, 18, 19, 20, 21, 22, 23, 24, 25, 26, 27, 28, 29, 30, 31, 32, 33, 34, 35, 36, 37, 38, 39, 40, 41, 42, 43, 44, 45, 46, 47, 48, 49, 50, 51, 52, 53, 54, 55, 56, 57, 58, 59, 60, 61, 62, 63, 64, 65, 66, 67, 68, 69, 70, 71, 72, 73, 74, 75, 76, 77, 78, 79] (by decide +kernel) (by decide +kernel)) (goodIn_sub (fun _ h => List.mem_cons_of_mem _ (List.mem_append_right _ h)) (by decide +kernel))
set_option maxRecDepth 20000 in
theorem gL_setPenalties_X8_setPenalties : GoodIn wsL_setPenalties (wsV RL 38 RX8 yX8_setPenalties wsX8_setPenalties) := goodIn_app (goodIn_of _ (by decide +kernel)) ggL_setPenalties_X8_setPenalties
theorem dL_setPenalties_0 : decode cL_setPenalties 0 = .ok (.aload 4, 2) := by decide +kernel
theorem dL_setPenalties_2 : decode cL_setPenalties 2 = .ok (.iconst 0, 1) := by decide +kernel
theorem dL_setPenalties_3 : decode cL_setPenalties 3 = .ok (.aload_n 0, 1) := by decide +kernel
theorem dL_setPenalties_4 : decode cL_setPenalties 4 = .ok (.iload_n 1, 1) := by decide +kernel
theorem dL_setPenalties_5 : decode cL_setPenalties 5 = .ok (.iload_n 2, 1) := by decide +kernel
theorem dL_setPenalties_6 : decode cL_setPenalties 6 = .ok (.iload_n 3, 1) := by decide +kernel
theorem dL_setPenalties_7 : decode cL_setPenalties 7 = .ok (.invokevirtual 38, 3) := by decide +kernel
theorem dL_setPenalties_10 : decode cL_setPenalties 10 = .ok (.i2l, 1) := by decide +kernel
theorem dL_setPenalties_11 : decode cL_setPenalties 11 = .ok (.lastore, 1) := by decide +kernel
theorem dL_setPenalties_12 : decode cL_setPenalties 12 = .ok (.goto 7, 3) := by decide +kernel
theorem dL_setPenalties_15 : decode cL_setPenalties 15 = .ok (.astore 5, 2) := by decide +kernel
theorem dL_setPenalties_17 : decode cL_setPenalties 17 = .ok (.iconst 1, 1) := by decide +kernel
theorem dL_setPenalties_18 : decode cL_setPenalties 18 = .ok (.ireturn, 1) := by decide +kernel
theorem dL_setPenalties_19 : decode cL_setPenalties 19 = .ok (.iconst 0, 1) := by decide +kernel
theorem dL_setPenalties_20 : decode cL_setPenalties 20 = .ok (.ireturn, 1) := by decide +kernel
set_option maxRecDepth 20000 in
theorem ggL_setPage_X8_setPage : GoodIn wsL_setPage wsX8_setPage := goodIn_ca (goodIn_r _ [6, 7, 8, 9, 5, 10, 11, 12, 13, 14, 15, 16, 17, 18, 19, 20, 21, 22, 23, 24, 25, 26, 27, 28, 29, 30, 31, 32, 33, 34, 35, 36, 37, 38, 39, 40, 41, 42, 43, 44, 45, 46, 47, 48, 49, 50, 51, 52, 53, 54, 55, 56, 57, 58, 59, 60, 61, 62, 63, 64, 65, 66, 67, 68, 69, 70, 71, 72, 73, 74, 75, 76, 77, 78, 79] (by decide +kernel) (by decide +kernel)) (goodIn_sub (fun _ h => List.mem_cons_of_mem _ (List.mem_append_right _ h)) (by decide +kernel))
set_option maxRecDepth 20000 in
theorem gL_setPage_X8_setPage : GoodIn wsL_setPage (wsV RL 42 RX8 yX8_setPage wsX8_setPage) := goodIn_app (goodIn_of _ (by decide +kernel)) ggL_setPage_X8_setPage
theorem dL_setPage_0 : decode cL_setPage 0 = .ok (.aload_n 2, 1) := by decide +kernel
theorem dL_setPage_1 : decode cL_setPage 1 = .ok (.iconst 0, 1) := by decide +kernel
theorem dL_setPage_2 : decode cL_setPage 2 = .ok (.aload_n 0, 1) := by decide +kernel
theorem dL_setPage_3 : decode cL_setPage 3 = .ok (.iload_n 1, 1) := by decide +kernel
theorem dL_setPage_4 : decode cL_setPage 4 = .ok (.invokevirtual 42, 3) := by decide +kernel
theorem dL_setPage_7 : decode cL_setPage 7 = .ok (.i2l, 1) := by decide +kernel
theorem dL_setPage_8 : decode cL_setPage 8 = .ok (.lastore, 1) := by decide +kernel
theorem dL_setPage_9 : decode cL_setPage 9 = .ok (.goto 6, 3) := by decide +kernel
theorem dL_setPage_12 : decode cL_setPage 12 = .ok (.astore_n 3, 1) := by decide +kernel
theorem dL_setPage_13 : decode cL_setPage 13 = .ok (.iconst 1, 1) := by decide +kernel
theorem dL_setPage_14 : decode cL_setPage 14 = .ok (.ireturn, 1) := by decide +kernel
theorem dL_setPage_15 : decode cL_setPage 15 = .ok (.iconst 0, 1) := by decide +kernel
theorem dL_setPage_16 : decode cL_setPage 16 = .ok (.ireturn, 1) := by decide +kernel
set_option maxRecDepth 20000 in
theorem ggL_lineOf_X8_lineOf : GoodIn wsL_lineOf wsX8_lineOf := goodIn_ca (goodIn_r _ [6, 7, 8, 9, 10, 5, 11, 12, 13, 14, 15, 16, 17, 18, 19, 20, 21, 22, 23, 24, 25, 26, 27, 28, 29, 30, 31, 32, 33, 34, 35, 36, 37, 38, 39, 40, 41, 42, 43, 44, 45, 46, 47, 48, 49, 50, 51, 52, 53, 54, 55, 56, 57, 58, 59, 60, 61, 62, 63, 64, 65, 66, 67, 68, 69, 70, 71, 72, 73, 74, 75, 76, 77, 78, 79, 80, 81, 82, 83, 84, 85, 86, 87, 88, 89, 90, 91, 92, 93, 94, 95, 96, 97, 98, 99, 100, 101, 102, 103, 104, 105, 106, 107, 108, 109, 110, 111, 112, 113, 114, 115, 116, 117, 118, 119, 120, 121, 122, 123, 124, 125, 126, 127, 128, 129, 130, 131, 132, 133, 134, 135, 136, 137, 138, 139, 140, 141, 142, 143, 144, 145, 146, 147, 148, 149, 150, 151, 152, 153, 154, 155, 156, 157, 158, 159, 160, 161, 162, 163, 164, 165, 166, 167, 168, 169, 170, 171, 172, 173, 174, 175, 176, 177, 178, 179, 180] (by decide +kernel) (by decide +kernel)) (goodIn_sub (fun _ h => List.mem_cons_of_mem _ (List.mem_append_right _ h)) (by decide +kernel))
set_option maxRecDepth 20000 in
theorem gL_lineOf_X8_lineOf : GoodIn wsL_lineOf (wsV RL 45 RX8 yX8_lineOf wsX8_lineOf) := goodIn_app (goodIn_of _ (by decide +kernel)) ggL_lineOf_X8_lineOf
theorem dL_lineOf_0 : decode cL_lineOf 0 = .ok (.aload_n 2, 1) := by decide +kernel
theorem dL_lineOf_1 : decode cL_lineOf 1 = .ok (.iconst 0, 1) := by decide +kernel
theorem dL_lineOf_2 : decode cL_lineOf 2 = .ok (.aload_n 0, 1) := by decide +kernel
theorem dL_lineOf_3 : decode cL_lineOf 3 = .ok (.iload_n 1, 1) := by decide +kernel
theorem dL_lineOf_4 : decode cL_lineOf 4 = .ok (.invokevirtual 45, 3) := by decide +kernel
theorem dL_lineOf_7 : decode cL_lineOf 7 = .ok (.i2l, 1) := by decide +kernel
theorem dL_lineOf_8 : decode cL_lineOf 8 = .ok (.lastore, 1) := by decide +kernel
theorem dL_lineOf_9 : decode cL_lineOf 9 = .ok (.goto 6, 3) := by decide +kernel
theorem dL_lineOf_12 : decode cL_lineOf 12 = .ok (.astore_n 3, 1) := by decide +kernel
theorem dL_lineOf_13 : decode cL_lineOf 13 = .ok (.iconst 1, 1) := by decide +kernel
theorem dL_lineOf_14 : decode cL_lineOf 14 = .ok (.ireturn, 1) := by decide +kernel
theorem dL_lineOf_15 : decode cL_lineOf 15 = .ok (.iconst 0, 1) := by decide +kernel
theorem dL_lineOf_16 : decode cL_lineOf 16 = .ok (.ireturn, 1) := by decide +kernel
set_option maxRecDepth 20000 in
theorem ggL_firstWord_X8_firstWord : GoodIn wsL_firstWord wsX8_firstWord := goodIn_ca (goodIn_r _ [6, 7, 8, 9, 10, 5, 11, 12, 13, 14, 15, 16, 17, 18, 19, 20, 21, 22, 23, 24, 25, 26, 27, 28, 29, 30, 31, 32, 33, 34, 35, 36, 37, 38, 39, 40, 41, 42, 43, 44, 45, 46, 47, 48, 49, 50, 51, 52, 53, 54, 55, 56, 57, 58, 59, 60, 61, 62, 63, 64, 65, 66, 67, 68, 69, 70, 71, 72, 73, 74, 75, 76, 77, 78, 79, 80, 81, 82, 83, 84, 85, 86, 87, 88, 89, 90, 91, 92, 93, 94, 95, 96, 97, 98, 99, 100, 101, 102, 103, 104, 105, 106, 107, 108, 109, 110, 111, 112, 113, 114, 115, 116, 117, 118, 119, 120, 121, 122, 123, 124, 125, 126, 127, 128, 129, 130, 131, 132, 133, 134, 135, 136, 137, 138, 139, 140, 141, 142, 143, 144, 145, 146, 147, 148, 149, 150, 151, 152, 153, 154, 155, 156, 157, 158, 159, 160, 161, 162, 163, 164, 165, 166, 167, 168, 169, 170, 171, 172, 173, 174, 175, 176, 177, 178, 179, 180] (by decide +kernel) (by decide +kernel)) (goodIn_sub (fun _ h => List.mem_cons_of_mem _ (List.mem_append_right _ h)) (by decide +kernel))
set_option maxRecDepth 20000 in
theorem gL_firstWord_X8_firstWord : GoodIn wsL_firstWord (wsV RL 48 RX8 yX8_firstWord wsX8_firstWord) := goodIn_app (goodIn_of _ (by decide +kernel)) ggL_firstWord_X8_firstWord
theorem dL_firstWord_0 : decode cL_firstWord 0 = .ok (.aload_n 2, 1) := by decide +kernel
theorem dL_firstWord_1 : decode cL_firstWord 1 = .ok (.iconst 0, 1) := by decide +kernel
theorem dL_firstWord_2 : decode cL_firstWord 2 = .ok (.aload_n 0, 1) := by decide +kernel
theorem dL_firstWord_3 : decode cL_firstWord 3 = .ok (.iload_n 1, 1) := by decide +kernel
theorem dL_firstWord_4 : decode cL_firstWord 4 = .ok (.invokevirtual 48, 3) := by decide +kernel
theorem dL_firstWord_7 : decode cL_firstWord 7 = .ok (.i2l, 1) := by decide +kernel
theorem dL_firstWord_8 : decode cL_firstWord 8 = .ok (.lastore, 1) := by decide +kernel
theorem dL_firstWord_9 : decode cL_firstWord 9 = .ok (.goto 6, 3) := by decide +kernel
theorem dL_firstWord_12 : decode cL_firstWord 12 = .ok (.astore_n 3, 1) := by decide +kernel
theorem dL_firstWord_13 : decode cL_firstWord 13 = .ok (.iconst 1, 1) := by decide +kernel
theorem dL_firstWord_14 : decode cL_firstWord 14 = .ok (.ireturn, 1) := by decide +kernel
theorem dL_firstWord_15 : decode cL_firstWord 15 = .ok (.iconst 0, 1) := by decide +kernel
theorem dL_firstWord_16 : decode cL_firstWord 16 = .ok (.ireturn, 1) := by decide +kernel
set_option maxRecDepth 20000 in
theorem ggL_lineWidth_X8_lineWidth : GoodIn wsL_lineWidth wsX8_lineWidth := goodIn_ca (goodIn_r _ [6, 7, 8, 9, 10, 5, 11, 12, 13, 14, 15, 16, 17, 18, 19, 20, 21, 22, 23, 24, 25, 26, 27, 28, 29, 30, 31, 32, 33, 34, 35, 36, 37, 38, 39, 40, 41, 42, 43, 44, 45, 46, 47, 48, 49, 50, 51, 52, 53, 54, 55, 56, 57, 58, 59, 60, 61, 62, 63, 64, 65, 66, 67, 68, 69, 70, 71, 72, 73, 74, 75, 76, 77, 78, 79, 80, 81, 82, 83, 84, 85, 86, 87, 88, 89, 90, 91, 92, 93, 94, 95, 96, 97, 98, 99, 100, 101, 102, 103, 104, 105, 106, 107, 108, 109, 110, 111, 112, 113, 114, 115, 116, 117, 118, 119, 120, 121, 122, 123, 124, 125, 126, 127, 128, 129, 130, 131, 132, 133, 134, 135, 136, 137, 138, 139, 140, 141, 142, 143, 144, 145, 146, 147, 148, 149, 150, 151, 152, 153, 154, 155, 156, 157, 158, 159, 160, 161, 162, 163, 164, 165, 166, 167, 168, 169, 170, 171, 172, 173, 174, 175, 176, 177, 178, 179, 180, 181, 182, 183, 184] (by decide +kernel) (by decide +kernel)) (goodIn_sub (fun _ h => List.mem_cons_of_mem _ (List.mem_append_right _ h)) (by decide +kernel))
set_option maxRecDepth 20000 in
theorem gL_lineWidth_X8_lineWidth : GoodIn wsL_lineWidth (wsV RL 51 RX8 yX8_lineWidth wsX8_lineWidth) := goodIn_app (goodIn_of _ (by decide +kernel)) ggL_lineWidth_X8_lineWidth
theorem dL_lineWidth_0 : decode cL_lineWidth 0 = .ok (.aload_n 2, 1) := by decide +kernel
theorem dL_lineWidth_1 : decode cL_lineWidth 1 = .ok (.iconst 0, 1) := by decide +kernel
theorem dL_lineWidth_2 : decode cL_lineWidth 2 = .ok (.aload_n 0, 1) := by decide +kernel
theorem dL_lineWidth_3 : decode cL_lineWidth 3 = .ok (.iload_n 1, 1) := by decide +kernel
theorem dL_lineWidth_4 : decode cL_lineWidth 4 = .ok (.invokevirtual 51, 3) := by decide +kernel
theorem dL_lineWidth_7 : decode cL_lineWidth 7 = .ok (.i2l, 1) := by decide +kernel
theorem dL_lineWidth_8 : decode cL_lineWidth 8 = .ok (.lastore, 1) := by decide +kernel
theorem dL_lineWidth_9 : decode cL_lineWidth 9 = .ok (.goto 6, 3) := by decide +kernel
theorem dL_lineWidth_12 : decode cL_lineWidth 12 = .ok (.astore_n 3, 1) := by decide +kernel
theorem dL_lineWidth_13 : decode cL_lineWidth 13 = .ok (.iconst 1, 1) := by decide +kernel
theorem dL_lineWidth_14 : decode cL_lineWidth 14 = .ok (.ireturn, 1) := by decide +kernel
theorem dL_lineWidth_15 : decode cL_lineWidth 15 = .ok (.iconst 0, 1) := by decide +kernel
theorem dL_lineWidth_16 : decode cL_lineWidth 16 = .ok (.ireturn, 1) := by decide +kernel
set_option maxRecDepth 20000 in
theorem ggL_stairAt_X8_stairAt : GoodIn wsL_stairAt wsX8_stairAt := goodIn_ca (goodIn_r _ [6, 7, 8, 9, 10, 5, 11, 12, 13, 14, 15, 16, 17, 18, 19, 20, 21, 22, 23, 24, 25, 26, 27, 28, 29, 30, 31, 32, 33, 34, 35, 36, 37, 38, 39, 40, 41, 42, 43, 44, 45, 46, 47, 48, 49, 50, 51, 52, 53, 54, 55, 56, 57, 58, 59, 60, 61, 62, 63, 64, 65, 66, 67, 68, 69, 70, 71, 72, 73, 74, 75, 76, 77, 78, 79, 80, 81, 82, 83, 84, 85, 86, 87, 88, 89, 90, 91, 92, 93, 94, 95, 96, 97, 98, 99, 100, 101, 102, 103, 104, 105, 106, 107, 108, 109, 110, 111, 112, 113, 114, 115, 116, 117, 118, 119, 120, 121, 122, 123, 124, 125, 126, 127, 128, 129, 130, 131, 132, 133, 134, 135, 136, 137, 138, 139, 140, 141, 142, 143, 144, 145, 146, 147, 148, 149, 150, 151, 152, 153, 154, 155, 156, 157, 158, 159, 160, 161, 162, 163, 164, 165, 166, 167, 168, 169, 170, 171, 172, 173, 174, 175, 176, 177, 178, 179, 180, 181, 182, 183, 184, 185, 186, 187, 188, 189] (by decide +kernel) (by decide +kernel)) (goodIn_sub (fun _ h => List.mem_cons_of_mem _ (List.mem_append_right _ h)) (by decide +kernel))
set_option maxRecDepth 20000 in
theorem gL_stairAt_X8_stairAt : GoodIn wsL_stairAt (wsV RL 54 RX8 yX8_stairAt wsX8_stairAt) := goodIn_app (goodIn_of _ (by decide +kernel)) ggL_stairAt_X8_stairAt
theorem dL_stairAt_0 : decode cL_stairAt 0 = .ok (.aload_n 2, 1) := by decide +kernel
theorem dL_stairAt_1 : decode cL_stairAt 1 = .ok (.iconst 0, 1) := by decide +kernel
theorem dL_stairAt_2 : decode cL_stairAt 2 = .ok (.aload_n 0, 1) := by decide +kernel
theorem dL_stairAt_3 : decode cL_stairAt 3 = .ok (.iload_n 1, 1) := by decide +kernel
theorem dL_stairAt_4 : decode cL_stairAt 4 = .ok (.invokevirtual 54, 3) := by decide +kernel
theorem dL_stairAt_7 : decode cL_stairAt 7 = .ok (.i2l, 1) := by decide +kernel
theorem dL_stairAt_8 : decode cL_stairAt 8 = .ok (.lastore, 1) := by decide +kernel
theorem dL_stairAt_9 : decode cL_stairAt 9 = .ok (.goto 6, 3) := by decide +kernel
theorem dL_stairAt_12 : decode cL_stairAt 12 = .ok (.astore_n 3, 1) := by decide +kernel
theorem dL_stairAt_13 : decode cL_stairAt 13 = .ok (.iconst 1, 1) := by decide +kernel
theorem dL_stairAt_14 : decode cL_stairAt 14 = .ok (.ireturn, 1) := by decide +kernel
theorem dL_stairAt_15 : decode cL_stairAt 15 = .ok (.iconst 0, 1) := by decide +kernel
theorem dL_stairAt_16 : decode cL_stairAt 16 = .ok (.ireturn, 1) := by decide +kernel
set_option maxRecDepth 20000 in
theorem ggL_reason_X8_reason : GoodIn wsL_reason wsX8_reason := goodIn_ca (goodIn_r _ [6, 7, 8, 9, 10, 5, 11, 12, 13, 14, 15, 16, 17, 18, 19, 20, 21, 22, 23, 24, 25, 26, 27, 28, 29, 30, 31, 32, 33, 34, 35, 36, 37, 38, 39, 40, 41, 42, 43, 44, 45, 46, 47, 48, 49, 50, 51, 52, 53, 54, 55, 56, 57, 58, 59, 60, 61, 62, 63, 64, 65, 66, 67, 68, 69, 70, 71, 72, 73, 74, 75, 76, 77, 78, 79, 80, 81, 82, 83, 84, 85, 86, 87, 88, 89, 90, 91, 92, 93, 94, 95, 96, 97, 98, 99, 100, 101, 102, 103, 104, 105, 106, 107, 108, 109, 110, 111, 112, 113, 114, 115, 116, 117, 118, 119, 120, 121, 122, 123, 124, 125, 126, 127, 128, 129, 130, 131, 132, 133, 134, 135, 136, 137, 138, 139, 140, 141, 142, 143, 144, 145, 146, 147, 148, 149, 150, 151, 152, 153, 154, 155, 156, 157, 158, 159, 160, 161, 162, 163, 164, 165, 166, 167, 168, 169, 170, 171, 172, 173, 174, 175, 176, 177, 178, 179, 180, 181, 182, 183, 184] (by decide +kernel) (by decide +kernel)) (goodIn_sub (fun _ h => List.mem_cons_of_mem _ (List.mem_append_right _ h)) (by decide +kernel))
set_option maxRecDepth 20000 in
theorem gL_reason_X8_reason : GoodIn wsL_reason (wsV RL 57 RX8 yX8_reason wsX8_reason) := goodIn_app (goodIn_of _ (by decide +kernel)) ggL_reason_X8_reason
theorem dL_reason_0 : decode cL_reason 0 = .ok (.aload_n 2, 1) := by decide +kernel
theorem dL_reason_1 : decode cL_reason 1 = .ok (.iconst 0, 1) := by decide +kernel
theorem dL_reason_2 : decode cL_reason 2 = .ok (.aload_n 0, 1) := by decide +kernel
theorem dL_reason_3 : decode cL_reason 3 = .ok (.iload_n 1, 1) := by decide +kernel
theorem dL_reason_4 : decode cL_reason 4 = .ok (.invokevirtual 57, 3) := by decide +kernel
theorem dL_reason_7 : decode cL_reason 7 = .ok (.i2l, 1) := by decide +kernel
theorem dL_reason_8 : decode cL_reason 8 = .ok (.lastore, 1) := by decide +kernel
theorem dL_reason_9 : decode cL_reason 9 = .ok (.goto 6, 3) := by decide +kernel
theorem dL_reason_12 : decode cL_reason 12 = .ok (.astore_n 3, 1) := by decide +kernel
theorem dL_reason_13 : decode cL_reason 13 = .ok (.iconst 1, 1) := by decide +kernel
theorem dL_reason_14 : decode cL_reason 14 = .ok (.ireturn, 1) := by decide +kernel
theorem dL_reason_15 : decode cL_reason 15 = .ok (.iconst 0, 1) := by decide +kernel
theorem dL_reason_16 : decode cL_reason 16 = .ok (.ireturn, 1) := by decide +kernel
set_option maxRecDepth 20000 in
theorem ggL_pageOf_X8_pageOf : GoodIn wsL_pageOf wsX8_pageOf := goodIn_ca (goodIn_r _ [6, 7, 8, 9, 10, 11, 5, 12, 13, 14, 15, 16, 17, 18, 19, 20, 21, 22, 23, 24, 25, 26, 27, 28, 29, 30, 31, 32, 33, 34, 35, 36, 37, 38, 39, 40, 41, 42, 43, 44, 45, 46, 47, 48, 49, 50, 51, 52, 53, 54, 55, 56, 57, 58, 59, 60, 61, 62, 63, 64, 65, 66, 67, 68, 69, 70, 71, 72, 73, 74, 75, 76, 77, 78, 79, 80, 81, 82, 83, 84, 85, 86, 87, 88, 89, 90, 91, 92, 93, 94, 95, 96, 97, 98, 99, 100, 101, 102, 103, 104, 105, 106, 107, 108, 109, 110, 111, 112, 113, 114, 115, 116, 117, 118, 119, 120, 121, 122, 123, 124, 125, 126, 127, 128, 129, 130, 131, 132, 133, 134, 135, 136, 137, 138, 139, 140, 141, 142, 143, 144, 145, 146, 147, 148, 149, 150, 151, 152, 153, 154, 155, 156, 157, 158, 159, 160, 161, 162, 163, 164, 165, 166, 167, 168, 169, 170, 171, 172, 173, 174, 175, 176, 177, 178, 179, 180] (by decide +kernel) (by decide +kernel)) (goodIn_sub (fun _ h => List.mem_cons_of_mem _ (List.mem_append_right _ h)) (by decide +kernel))
set_option maxRecDepth 20000 in
theorem gL_pageOf_X8_pageOf : GoodIn wsL_pageOf (wsV RL 60 RX8 yX8_pageOf wsX8_pageOf) := goodIn_app (goodIn_of _ (by decide +kernel)) ggL_pageOf_X8_pageOf
theorem dL_pageOf_0 : decode cL_pageOf 0 = .ok (.aload_n 2, 1) := by decide +kernel
theorem dL_pageOf_1 : decode cL_pageOf 1 = .ok (.iconst 0, 1) := by decide +kernel
theorem dL_pageOf_2 : decode cL_pageOf 2 = .ok (.aload_n 0, 1) := by decide +kernel
theorem dL_pageOf_3 : decode cL_pageOf 3 = .ok (.iload_n 1, 1) := by decide +kernel
theorem dL_pageOf_4 : decode cL_pageOf 4 = .ok (.invokevirtual 60, 3) := by decide +kernel
theorem dL_pageOf_7 : decode cL_pageOf 7 = .ok (.i2l, 1) := by decide +kernel
theorem dL_pageOf_8 : decode cL_pageOf 8 = .ok (.lastore, 1) := by decide +kernel
theorem dL_pageOf_9 : decode cL_pageOf 9 = .ok (.goto 6, 3) := by decide +kernel
theorem dL_pageOf_12 : decode cL_pageOf 12 = .ok (.astore_n 3, 1) := by decide +kernel
theorem dL_pageOf_13 : decode cL_pageOf 13 = .ok (.iconst 1, 1) := by decide +kernel
theorem dL_pageOf_14 : decode cL_pageOf 14 = .ok (.ireturn, 1) := by decide +kernel
theorem dL_pageOf_15 : decode cL_pageOf 15 = .ok (.iconst 0, 1) := by decide +kernel
theorem dL_pageOf_16 : decode cL_pageOf 16 = .ok (.ireturn, 1) := by decide +kernel
set_option maxRecDepth 20000 in
theorem ggL_linesOn_X8_linesOn : GoodIn wsL_linesOn wsX8_linesOn := goodIn_ca (goodIn_r _ [6, 7, 8, 9, 10, 5, 11, 12, 13, 14, 15, 16, 17, 18, 19, 20, 21, 22, 23, 24, 25, 26, 27, 28, 29, 30, 31, 32, 33, 34, 35, 36, 37, 38, 39, 40, 41, 42, 43, 44, 45, 46, 47, 48, 49, 50, 51, 52, 53, 54, 55, 56, 57, 58, 59, 60, 61, 62, 63, 64, 65, 66, 67, 68, 69, 70, 71, 72, 73, 74, 75, 76, 77, 78, 79, 80, 81, 82, 83, 84, 85, 86, 87, 88, 89, 90, 91, 92, 93, 94, 95, 96, 97, 98, 99, 100, 101, 102, 103, 104, 105, 106, 107, 108, 109, 110, 111, 112, 113, 114, 115, 116, 117, 118, 119, 120, 121, 122, 123, 124, 125, 126, 127, 128, 129, 130, 131, 132, 133, 134, 135, 136, 137, 138, 139, 140, 141, 142, 143, 144, 145, 146, 147, 148, 149, 150, 151, 152, 153, 154, 155, 156, 157, 158, 159, 160, 161, 162, 163, 164, 165, 166, 167, 168, 169, 170, 171, 172, 173, 174, 175, 176, 177, 178, 179, 180] (by decide +kernel) (by decide +kernel)) (goodIn_sub (fun _ h => List.mem_cons_of_mem _ (List.mem_append_right _ h)) (by decide +kernel))
set_option maxRecDepth 20000 in
theorem gL_linesOn_X8_linesOn : GoodIn wsL_linesOn (wsV RL 63 RX8 yX8_linesOn wsX8_linesOn) := goodIn_app (goodIn_of _ (by decide +kernel)) ggL_linesOn_X8_linesOn
theorem dL_linesOn_0 : decode cL_linesOn 0 = .ok (.aload_n 2, 1) := by decide +kernel
theorem dL_linesOn_1 : decode cL_linesOn 1 = .ok (.iconst 0, 1) := by decide +kernel
theorem dL_linesOn_2 : decode cL_linesOn 2 = .ok (.aload_n 0, 1) := by decide +kernel
theorem dL_linesOn_3 : decode cL_linesOn 3 = .ok (.iload_n 1, 1) := by decide +kernel
theorem dL_linesOn_4 : decode cL_linesOn 4 = .ok (.invokevirtual 63, 3) := by decide +kernel
theorem dL_linesOn_7 : decode cL_linesOn 7 = .ok (.i2l, 1) := by decide +kernel
theorem dL_linesOn_8 : decode cL_linesOn 8 = .ok (.lastore, 1) := by decide +kernel
theorem dL_linesOn_9 : decode cL_linesOn 9 = .ok (.goto 6, 3) := by decide +kernel
theorem dL_linesOn_12 : decode cL_linesOn 12 = .ok (.astore_n 3, 1) := by decide +kernel
theorem dL_linesOn_13 : decode cL_linesOn 13 = .ok (.iconst 1, 1) := by decide +kernel
theorem dL_linesOn_14 : decode cL_linesOn 14 = .ok (.ireturn, 1) := by decide +kernel
theorem dL_linesOn_15 : decode cL_linesOn 15 = .ok (.iconst 0, 1) := by decide +kernel
theorem dL_linesOn_16 : decode cL_linesOn 16 = .ok (.ireturn, 1) := by decide +kernel
set_option maxRecDepth 20000 in
theorem ggL_costFor_X8_costFor : GoodIn wsL_costFor wsX8_costFor := goodIn_ca (goodIn_r _ [6, 7, 8, 9, 10, 11, 5, 12, 13, 14, 15, 16, 17, 18, 19, 20, 21, 22, 23, 24, 25, 26, 27, 28, 29, 30, 31, 32, 33, 34, 35, 36, 37, 38, 39, 40, 41, 42, 43, 44, 45, 46, 47, 48, 49, 50, 51, 52, 53, 54, 55, 56, 57, 58, 59, 60, 61, 62, 63, 64, 65, 66, 67, 68, 69, 70, 71, 72, 73, 74, 75, 76, 77, 78, 79, 80, 81, 82, 83, 84, 85, 86, 87, 88, 89, 90, 91, 92, 93, 94, 95, 96, 97, 98, 99, 100, 101, 102, 103, 104, 105, 106, 107, 108, 109, 110, 111, 112, 113, 114, 115, 116, 117, 118, 119, 120, 121, 122, 123, 124, 125, 126, 127, 128, 129, 130, 131, 132, 133, 134, 135, 136, 137, 138, 139, 140, 141, 142, 143, 144, 145, 146, 147, 148, 149, 150, 151, 152, 153, 154, 155, 156, 157, 158, 159, 160, 161, 162, 163, 164, 165, 166, 167, 168, 169, 170, 171, 172, 173, 174, 175, 176, 177, 178, 179, 180] (by decide +kernel) (by decide +kernel)) (goodIn_sub (fun _ h => List.mem_cons_of_mem _ (List.mem_append_right _ h)) (by decide +kernel))
set_option maxRecDepth 20000 in
theorem gL_costFor_X8_costFor : GoodIn wsL_costFor (wsV RL 66 RX8 yX8_costFor wsX8_costFor) := goodIn_app (goodIn_of _ (by decide +kernel)) ggL_costFor_X8_costFor
theorem dL_costFor_0 : decode cL_costFor 0 = .ok (.aload_n 3, 1) := by decide +kernel
theorem dL_costFor_1 : decode cL_costFor 1 = .ok (.iconst 0, 1) := by decide +kernel
theorem dL_costFor_2 : decode cL_costFor 2 = .ok (.aload_n 0, 1) := by decide +kernel
theorem dL_costFor_3 : decode cL_costFor 3 = .ok (.iload_n 1, 1) := by decide +kernel
theorem dL_costFor_4 : decode cL_costFor 4 = .ok (.iload_n 2, 1) := by decide +kernel
theorem dL_costFor_5 : decode cL_costFor 5 = .ok (.invokevirtual 66, 3) := by decide +kernel
theorem dL_costFor_8 : decode cL_costFor 8 = .ok (.i2l, 1) := by decide +kernel
theorem dL_costFor_9 : decode cL_costFor 9 = .ok (.lastore, 1) := by decide +kernel
theorem dL_costFor_10 : decode cL_costFor 10 = .ok (.goto 7, 3) := by decide +kernel
theorem dL_costFor_13 : decode cL_costFor 13 = .ok (.astore 4, 2) := by decide +kernel
theorem dL_costFor_15 : decode cL_costFor 15 = .ok (.iconst 1, 1) := by decide +kernel
theorem dL_costFor_16 : decode cL_costFor 16 = .ok (.ireturn, 1) := by decide +kernel
theorem dL_costFor_17 : decode cL_costFor 17 = .ok (.iconst 0, 1) := by decide +kernel
theorem dL_costFor_18 : decode cL_costFor 18 = .ok (.ireturn, 1) := by decide +kernel
set_option maxRecDepth 20000 in
theorem ggL_bestColumn_X8_bestColumn : GoodIn wsL_bestColumn wsX8_bestColumn := goodIn_ca (goodIn_r _ [6, 7, 8, 9, 10, 11, 12, 5, 13, 14, 15, 16, 17, 18, 19, 20, 21, 22, 23, 24, 25, 26, 27, 28, 29, 30, 31, 32, 33, 34, 35, 36, 37, 38, 39, 40, 41, 42, 43, 44, 45, 46, 47, 48, 49, 50, 51, 52, 53, 54, 55, 56, 57, 58, 59, 60, 61, 62, 63, 64, 65, 66, 67, 68, 69, 70, 71, 72, 73, 74, 75, 76, 77, 78, 79, 80, 81, 82, 83, 84, 85, 86, 87, 88, 89, 90, 91, 92, 93, 94, 95, 96, 97, 98, 99, 100, 101, 102, 103, 104, 105, 106, 107, 108, 109, 110, 111, 112, 113, 114, 115, 116, 117, 118, 119, 120, 121, 122, 123, 124, 125, 126, 127, 128, 129, 130, 131, 132, 133, 134, 135, 136, 137, 138, 139, 140, 141, 142, 143, 144, 145, 146, 147, 148, 149, 150, 151, 152, 153, 154, 155, 156, 157, 158, 159, 160, 161, 162, 163, 164, 165, 166, 167, 168, 169, 170, 171, 172, 173, 174, 175, 176, 177, 178, 179, 180, 181] (by decide +kernel) (by decide +kernel)) (goodIn_sub (fun _ h => List.mem_cons_of_mem _ (List.mem_append_right _ h)) (by decide +kernel))
set_option maxRecDepth 20000 in
theorem gL_bestColumn_X8_bestColumn : GoodIn wsL_bestColumn (wsV RL 70 RX8 yX8_bestColumn wsX8_bestColumn) := goodIn_app (goodIn_of _ (by decide +kernel)) ggL_bestColumn_X8_bestColumn
theorem dL_bestColumn_0 : decode cL_bestColumn 0 = .ok (.aload_n 3, 1) := by decide +kernel
theorem dL_bestColumn_1 : decode cL_bestColumn 1 = .ok (.iconst 0, 1) := by decide +kernel
theorem dL_bestColumn_2 : decode cL_bestColumn 2 = .ok (.aload_n 0, 1) := by decide +kernel
theorem dL_bestColumn_3 : decode cL_bestColumn 3 = .ok (.iload_n 1, 1) := by decide +kernel
theorem dL_bestColumn_4 : decode cL_bestColumn 4 = .ok (.iload_n 2, 1) := by decide +kernel
theorem dL_bestColumn_5 : decode cL_bestColumn 5 = .ok (.invokevirtual 70, 3) := by decide +kernel
theorem dL_bestColumn_8 : decode cL_bestColumn 8 = .ok (.i2l, 1) := by decide +kernel
theorem dL_bestColumn_9 : decode cL_bestColumn 9 = .ok (.lastore, 1) := by decide +kernel
theorem dL_bestColumn_10 : decode cL_bestColumn 10 = .ok (.goto 7, 3) := by decide +kernel
theorem dL_bestColumn_13 : decode cL_bestColumn 13 = .ok (.astore 4, 2) := by decide +kernel
theorem dL_bestColumn_15 : decode cL_bestColumn 15 = .ok (.iconst 1, 1) := by decide +kernel
theorem dL_bestColumn_16 : decode cL_bestColumn 16 = .ok (.ireturn, 1) := by decide +kernel
theorem dL_bestColumn_17 : decode cL_bestColumn 17 = .ok (.iconst 0, 1) := by decide +kernel
theorem dL_bestColumn_18 : decode cL_bestColumn 18 = .ok (.ireturn, 1) := by decide +kernel
set_option maxRecDepth 20000 in
theorem ggL_costIfMarked_X8_costIfMarked : GoodIn wsL_costIfMarked wsX8_costIfMarked := goodIn_ca (goodIn_ca (goodIn_r _ [7, 8, 9, 10, 11, 12, 6, 13, 14, 15, 16, 17, 18, 19, 20, 21, 22, 23, 24, 25, 26, 27, 28, 29, 30, 31, 32, 33, 34, 35, 36, 37, 38, 39, 40, 41, 42, 43, 44, 45, 46, 47, 48, 49, 50, 51, 52, 53, 54, 55, 56, 57, 58, 59, 60, 61, 62, 63, 64, 65, 66, 67, 68, 69, 70, 71, 72, 73, 74, 75, 76, 77, 78, 79, 80, 81, 82, 83, 84, 85, 86, 87, 88, 89, 90, 91, 92, 93, 94, 95, 96, 97, 98, 99, 100, 101, 102, 103, 104, 105, 106, 107, 108, 109, 110, 111, 112, 113, 114, 115, 116, 117, 118, 119, 120, 121, 122, 123, 124, 125, 126, 127, 128, 129, 130, 131, 132, 133, 134, 135, 136, 137, 138, 139, 140, 141, 142, 143, 144, 145, 146, 147, 148, 149, 150, 151, 152, 153, 154, 155, 156, 157, 158, 159, 160, 161, 162, 163, 164, 165, 166, 167, 168, 169, 170, 171, 172, 173, 174, 175, 176, 177, 178, 179, 180, 181, 182, 183, 184, 185, 186, 187] (by decide +kernel) (by decide +kernel)) (goodIn_sub (fun _ h => List.mem_cons_of_mem _ (List.mem_append_left _ (List.mem_append_right _ h))) (by decide +kernel))) (goodIn_sub (fun _ h => List.mem_cons_of_mem _ (List.mem_append_right _ h)) (by decide +kernel))
set_option maxRecDepth 20000 in
theorem gL_costIfMarked_X8_costIfMarked : GoodIn wsL_costIfMarked (wsV RL 73 RX8 yX8_costIfMarked wsX8_costIfMarked) := goodIn_app (goodIn_of _ (by decide +kernel)) ggL_costIfMarked_X8_costIfMarked
theorem dL_costIfMarked_0 : decode cL_costIfMarked 0 = .ok (.aload_n 3, 1) := by decide +kernel
theorem dL_costIfMarked_1 : decode cL_costIfMarked 1 = .ok (.iconst 0, 1) := by decide +kernel
theorem dL_costIfMarked_2 : decode cL_costIfMarked 2 = .ok (.aload_n 0, 1) := by decide +kernel
theorem dL_costIfMarked_3 : decode cL_costIfMarked 3 = .ok (.iload_n 1, 1) := by decide +kernel
theorem dL_costIfMarked_4 : decode cL_costIfMarked 4 = .ok (.iload_n 2, 1) := by decide +kernel
theorem dL_costIfMarked_5 : decode cL_costIfMarked 5 = .ok (.invokevirtual 73, 3) := by decide +kernel
theorem dL_costIfMarked_8 : decode cL_costIfMarked 8 = .ok (.i2l, 1) := by decide +kernel
theorem dL_costIfMarked_9 : decode cL_costIfMarked 9 = .ok (.lastore, 1) := by decide +kernel
theorem dL_costIfMarked_10 : decode cL_costIfMarked 10 = .ok (.goto 11, 3) := by decide +kernel
theorem dL_costIfMarked_13 : decode cL_costIfMarked 13 = .ok (.astore 4, 2) := by decide +kernel
theorem dL_costIfMarked_15 : decode cL_costIfMarked 15 = .ok (.iconst 1, 1) := by decide +kernel
theorem dL_costIfMarked_16 : decode cL_costIfMarked 16 = .ok (.ireturn, 1) := by decide +kernel
theorem dL_costIfMarked_17 : decode cL_costIfMarked 17 = .ok (.astore 4, 2) := by decide +kernel
theorem dL_costIfMarked_19 : decode cL_costIfMarked 19 = .ok (.iconst 2, 1) := by decide +kernel
theorem dL_costIfMarked_20 : decode cL_costIfMarked 20 = .ok (.ireturn, 1) := by decide +kernel
theorem dL_costIfMarked_21 : decode cL_costIfMarked 21 = .ok (.iconst 0, 1) := by decide +kernel
theorem dL_costIfMarked_22 : decode cL_costIfMarked 22 = .ok (.ireturn, 1) := by decide +kernel
set_option maxRecDepth 20000 in
theorem ggL_append_X8_append : GoodIn wsL_append wsX8_append := goodIn_ca (goodIn_ca (goodIn_r _ [7, 8, 9, 10, 11, 12, 6, 13, 14, 15, 16, 17, 18, 19, 20, 21, 22, 23, 24, 25, 26, 27, 28, 29, 30, 31, 32, 33, 34, 35, 36, 37, 38, 39, 40, 41, 42] (by decide +kernel) (by decide +kernel)) (goodIn_sub (fun _ h => List.mem_cons_of_mem _ (List.mem_append_left _ (List.mem_append_right _ h))) (by decide +kernel))) (goodIn_sub (fun _ h => List.mem_cons_of_mem _ (List.mem_append_right _ h)) (by decide +kernel))
set_option maxRecDepth 20000 in
theorem gL_append_X8_append : GoodIn wsL_append (wsV RL 76 RX8 yX8_append wsX8_append) := goodIn_app (goodIn_of _ (by decide +kernel)) ggL_append_X8_append
theorem dL_append_0 : decode cL_append 0 = .ok (.aload_n 2, 1) := by decide +kernel
theorem dL_append_1 : decode cL_append 1 = .ok (.iconst 0, 1) := by decide +kernel
theorem dL_append_2 : decode cL_append 2 = .ok (.aload_n 0, 1) := by decide +kernel
theorem dL_append_3 : decode cL_append 3 = .ok (.iload_n 1, 1) := by decide +kernel
theorem dL_append_4 : decode cL_append 4 = .ok (.invokevirtual 76, 3) := by decide +kernel
theorem dL_append_7 : decode cL_append 7 = .ok (.i2l, 1) := by decide +kernel
theorem dL_append_8 : decode cL_append 8 = .ok (.lastore, 1) := by decide +kernel
theorem dL_append_9 : decode cL_append 9 = .ok (.goto 9, 3) := by decide +kernel
theorem dL_append_12 : decode cL_append 12 = .ok (.astore_n 3, 1) := by decide +kernel
theorem dL_append_13 : decode cL_append 13 = .ok (.iconst 1, 1) := by decide +kernel
theorem dL_append_14 : decode cL_append 14 = .ok (.ireturn, 1) := by decide +kernel
theorem dL_append_15 : decode cL_append 15 = .ok (.astore_n 3, 1) := by decide +kernel
theorem dL_append_16 : decode cL_append 16 = .ok (.iconst 2, 1) := by decide +kernel
theorem dL_append_17 : decode cL_append 17 = .ok (.ireturn, 1) := by decide +kernel
theorem dL_append_18 : decode cL_append 18 = .ok (.iconst 0, 1) := by decide +kernel
theorem dL_append_19 : decode cL_append 19 = .ok (.ireturn, 1) := by decide +kernel
set_option maxRecDepth 20000 in
theorem ggL_load_X8_load : GoodIn wsL_load wsX8_load := goodIn_ca (goodIn_ca (goodIn_r _ [7, 8, 9, 10, 11, 12, 13, 14, 15, 16, 17, 18, 19, 20, 21, 22, 23, 24, 25, 26, 27, 28, 29, 30, 31, 32, 33, 34, 35, 36, 37, 38, 39, 40, 41, 42, 43, 44, 45, 46, 47, 48, 49, 50, 51, 52, 53, 54, 55, 56, 57, 58, 59, 60, 61, 6, 62, 63, 64, 65, 66, 67, 68, 69, 70, 71, 72, 73, 74, 75, 76, 77, 78, 79, 80, 81, 82, 83, 84, 85, 86, 87, 88, 89, 90, 91, 92, 93, 94, 95, 96, 97, 98, 99, 100, 101, 102, 103, 104, 105, 106, 107, 108, 109, 110, 111, 112, 113, 114, 115, 116, 117, 118, 119, 120, 121, 122, 123, 124, 125, 126, 127, 128, 129, 130, 131, 132, 133, 134, 135] (by decide +kernel) (by decide +kernel)) (goodIn_sub (fun _ h => List.mem_cons_of_mem _ (List.mem_append_left _ (List.mem_append_right _ h))) (by decide +kernel))) (goodIn_sub (fun _ h => List.mem_cons_of_mem _ (List.mem_append_right _ h)) (by decide +kernel))
set_option maxRecDepth 20000 in
theorem gL_load_X8_load : GoodIn wsL_load (wsV RL 79 RX8 yX8_load wsX8_load) := goodIn_app (goodIn_of _ (by decide +kernel)) ggL_load_X8_load
theorem dL_load_0 : decode cL_load 0 = .ok (.aload_n 1, 1) := by decide +kernel
theorem dL_load_1 : decode cL_load 1 = .ok (.iconst 0, 1) := by decide +kernel
theorem dL_load_2 : decode cL_load 2 = .ok (.aload_n 0, 1) := by decide +kernel
theorem dL_load_3 : decode cL_load 3 = .ok (.invokevirtual 79, 3) := by decide +kernel
theorem dL_load_6 : decode cL_load 6 = .ok (.i2l, 1) := by decide +kernel
theorem dL_load_7 : decode cL_load 7 = .ok (.lastore, 1) := by decide +kernel
theorem dL_load_8 : decode cL_load 8 = .ok (.goto 9, 3) := by decide +kernel
theorem dL_load_11 : decode cL_load 11 = .ok (.astore_n 2, 1) := by decide +kernel
theorem dL_load_12 : decode cL_load 12 = .ok (.iconst 1, 1) := by decide +kernel
theorem dL_load_13 : decode cL_load 13 = .ok (.ireturn, 1) := by decide +kernel
theorem dL_load_14 : decode cL_load 14 = .ok (.astore_n 2, 1) := by decide +kernel
theorem dL_load_15 : decode cL_load 15 = .ok (.iconst 2, 1) := by decide +kernel
theorem dL_load_16 : decode cL_load 16 = .ok (.ireturn, 1) := by decide +kernel
theorem dL_load_17 : decode cL_load 17 = .ok (.iconst 0, 1) := by decide +kernel
theorem dL_load_18 : decode cL_load 18 = .ok (.ireturn, 1) := by decide +kernel
set_option maxRecDepth 20000 in
theorem ggL_undo_X8_undo : GoodIn wsL_undo wsX8_undo := goodIn_ca (goodIn_r _ [6, 7, 8, 9, 10, 11, 12, 13, 14, 15, 16, 17, 18, 19, 20, 21, 22, 23, 24, 25, 26, 27, 28, 29, 30, 31, 32, 33, 34, 35, 36, 37, 38, 39, 40, 41, 42, 43, 44, 45, 46, 47, 48, 49, 50, 51, 52, 53, 54, 55, 56, 57, 58, 59, 60, 61, 62, 63, 64, 65, 66, 67, 68] (by decide +kernel) (by decide +kernel)) (goodIn_sub (fun _ h => List.mem_cons_of_mem _ (List.mem_append_right _ h)) (by decide +kernel))
set_option maxRecDepth 20000 in
theorem gL_undo_X8_undo : GoodIn wsL_undo (wsV RL 83 RX8 yX8_undo wsX8_undo) := goodIn_app (goodIn_of _ (by decide +kernel)) ggL_undo_X8_undo
theorem dL_undo_0 : decode cL_undo 0 = .ok (.aload_n 1, 1) := by decide +kernel
theorem dL_undo_1 : decode cL_undo 1 = .ok (.iconst 0, 1) := by decide +kernel
theorem dL_undo_2 : decode cL_undo 2 = .ok (.aload_n 0, 1) := by decide +kernel
theorem dL_undo_3 : decode cL_undo 3 = .ok (.invokevirtual 83, 3) := by decide +kernel
theorem dL_undo_6 : decode cL_undo 6 = .ok (.i2l, 1) := by decide +kernel
theorem dL_undo_7 : decode cL_undo 7 = .ok (.lastore, 1) := by decide +kernel
theorem dL_undo_8 : decode cL_undo 8 = .ok (.goto 6, 3) := by decide +kernel
theorem dL_undo_11 : decode cL_undo 11 = .ok (.astore_n 2, 1) := by decide +kernel
theorem dL_undo_12 : decode cL_undo 12 = .ok (.iconst 1, 1) := by decide +kernel
theorem dL_undo_13 : decode cL_undo 13 = .ok (.ireturn, 1) := by decide +kernel
theorem dL_undo_14 : decode cL_undo 14 = .ok (.iconst 0, 1) := by decide +kernel
theorem dL_undo_15 : decode cL_undo 15 = .ok (.ireturn, 1) := by decide +kernel
set_option maxRecDepth 20000 in
theorem ggL_law_X8_init : GoodIn wsL_law wsX8_init := goodIn_r _ [9, 10, 11, 12, 13, 14, 15, 16, 17, 18, 19, 20, 21, 22, 23, 24, 25, 26, 27, 28, 29, 30, 31, 32, 33, 34, 35, 36, 37, 38, 39, 40, 41, 42, 43, 44, 45, 46, 47, 48, 49, 50, 51, 52, 53, 54, 55, 56, 57, 58, 59, 60, 61, 62, 63, 64, 65, 66, 67, 68, 69, 70, 71, 72, 73, 74, 75, 76, 77, 78, 79, 80, 81, 82, 83, 84, 85, 86, 87, 88, 89, 90, 91, 92, 93, 94, 95, 96, 97, 98, 99, 100, 101, 102, 103, 104, 105, 106, 107, 108, 109, 110, 111, 112, 113, 114, 115, 116, 117, 118, 119, 120, 121, 122, 123, 124, 125, 126, 127, 920, 921, 922, 923, 924, 925, 926, 927, 928, 929, 898, 899, 900, 901, 902, 903, 904, 905, 930, 931, 932, 933, 934, 935, 936, 937, 938, 939, 940, 941, 942, 943, 944, 945, 946, 947, 948, 949, 950, 951, 952, 953, 954, 955, 956] (by decide +kernel) (by decide +kernel)
set_option maxRecDepth 20000 in
theorem gL_law_X8_init : GoodIn wsL_law (wsX8_init) := ggL_law_X8_init
set_option maxRecDepth 20000 in
theorem ggL_law_X9_init : GoodIn wsL_law wsX9_init := goodIn_r _ [130, 131, 11, 12, 60, 132, 133, 134, 135, 136, 137, 138, 139, 140, 141, 906, 907, 908, 909, 910, 911, 912, 913, 914, 915, 916, 917, 918, 919] (by decide +kernel) (by decide +kernel)
set_option maxRecDepth 20000 in
theorem gL_law_X9_init : GoodIn wsL_law (wsX9_init) := ggL_law_X9_init
set_option maxRecDepth 20000 in
theorem ggL_law_L_insert : GoodIn wsL_law wsL_insert := goodIn_ca (goodIn_ca (goodIn_ca (goodIn_r _ [145, 146, 147, 148, 149, 150, 151, 2, 152, 153, 154, 16, 155, 156, 157, 158, 159, 160, 161, 162, 163, 164, 165, 166, 167, 168, 34, 35, 169, 170, 171, 33, 172, 127, 126, 173, 174, 175, 176, 177, 178, 179, 180, 181, 182, 183, 15, 184, 42, 43, 44, 45, 46, 47, 48, 49, 50, 51, 185, 186, 187, 41, 188, 61, 189, 190, 191, 192, 193, 194, 195, 196, 197, 198, 199, 200, 201, 202, 203, 204, 898, 899, 900, 901, 902, 903, 904, 905, 920, 921, 922, 923, 924, 925, 926, 927, 928, 929, 946, 947, 948] (by decide +kernel) (by decide +kernel)) (goodIn_sub (fun _ h => List.mem_append_left _ (List.mem_append_left _ (List.mem_append_right _ h))) (by decide +kernel))) (goodIn_sub (fun _ h => List.mem_append_left _ (List.mem_append_right _ h)) (by decide +kernel))) (goodIn_sub (fun _ h => List.mem_append_right _ h) (by decide +kernel))
set_option maxRecDepth 20000 in
theorem gL_law_L_insert : GoodIn wsL_law (va_wsS RL 90 yL_insert wsL_insert) := goodIn_app (goodIn_of _ (by decide +kernel)) ggL_law_L_insert
set_option maxRecDepth 20000 in
theorem ggL_law_X9_insert : GoodIn wsL_law wsX9_insert := goodIn_r _ [208, 132, 209, 210, 5, 211, 212, 213, 214, 215, 216, 217, 218, 219, 220, 221, 222, 223, 224, 225, 226, 227, 228, 229, 906, 907, 908, 909, 910, 911, 912, 913, 914, 915, 916, 917, 918, 919] (by decide +kernel) (by decide +kernel)
set_option maxRecDepth 20000 in
theorem gL_law_X9_insert : GoodIn wsL_law (wsV RL 95 RX9 yX9_insert wsX9_insert) := goodIn_app (goodIn_of _ (by decide +kernel)) ggL_law_X9_insert
set_option maxRecDepth 20000 in
theorem ggL_law_X9_thrown : GoodIn wsL_law wsX9_thrown := goodIn_r _ [233, 216, 906, 907, 908, 909, 910, 911, 912, 913, 914, 915, 916, 917, 918, 919] (by decide +kernel) (by decide +kernel)
set_option maxRecDepth 20000 in
theorem gL_law_X9_thrown : GoodIn wsL_law (wsV RL 96 RX9 yX9_thrown wsX9_thrown) := goodIn_app (goodIn_of _ (by decide +kernel)) ggL_law_X9_thrown
set_option maxRecDepth 20000 in
theorem ggL_law_L_remove : GoodIn wsL_law wsL_remove := goodIn_ca (goodIn_r _ [236, 146, 237, 238, 239, 2, 240, 16, 155, 156, 157, 158, 159, 165, 166, 167, 168, 34, 35, 169, 170, 171, 33, 172, 127, 126, 173, 174, 175, 176, 177, 178, 179, 180, 181, 182, 183, 15, 184, 42, 43, 44, 45, 46, 47, 48, 49, 50, 51, 185, 186, 187, 41, 188, 61, 189, 190, 191, 192, 241, 242, 243, 244, 245, 246, 247, 248, 249, 201, 202, 203, 204, 898, 899, 900, 901, 902, 903, 904, 905, 920, 921, 922, 923, 924, 925, 926, 927, 928, 929, 946, 947, 948] (by decide +kernel) (by decide +kernel)) (goodIn_sub (fun _ h => List.mem_append_left _ (List.mem_append_right _ h)) (by decide +kernel))
set_option maxRecDepth 20000 in
theorem gL_law_L_remove : GoodIn wsL_law (va_wsS RL 99 yL_remove wsL_remove) := goodIn_app (goodIn_of _ (by decide +kernel)) ggL_law_L_remove
set_option maxRecDepth 20000 in
theorem ggL_law_X9_remove : GoodIn wsL_law wsX9_remove := goodIn_r _ [253, 132, 254, 255, 256, 5, 257, 209, 210, 211, 212, 213, 214, 215, 216, 217, 218, 219, 220, 221, 222, 223, 224, 225, 906, 907, 908, 909, 910, 911, 912, 913, 914, 915, 916, 917, 918, 919] (by decide +kernel) (by decide +kernel)
set_option maxRecDepth 20000 in
theorem gL_law_X9_remove : GoodIn wsL_law (wsV RL 102 RX9 yX9_remove wsX9_remove) := goodIn_app (goodIn_of _ (by decide +kernel)) ggL_law_X9_remove
set_option maxRecDepth 20000 in
theorem ggL_law_L_setMark : GoodIn wsL_law wsL_setMark := goodIn_ca (goodIn_ca (goodIn_r _ [260, 146, 147, 261, 262, 263, 2, 264, 16, 155, 156, 157, 158, 159, 160, 161, 162, 163, 164, 165, 166, 167, 168, 34, 35, 169, 170, 171, 33, 172, 127, 126, 173, 174, 175, 176, 177, 178, 179, 180, 181, 182, 183, 15, 184, 42, 43, 44, 45, 46, 47, 48, 49, 50, 51, 185, 186, 187, 41, 188, 61, 189, 190, 191, 192, 241, 265, 202, 203, 204, 898, 899, 900, 901, 902, 903, 904, 905, 920, 921, 922, 923, 924, 925, 926, 927, 928, 929, 946, 947, 948] (by decide +kernel) (by decide +kernel)) (goodIn_sub (fun _ h => List.mem_append_left _ (List.mem_append_right _ h)) (by decide +kernel))) (goodIn_sub (fun _ h => List.mem_append_right _ h) (by decide +kernel))
set_option maxRecDepth 20000 in
theorem gL_law_L_setMark : GoodIn wsL_law (va_wsS RL 103 yL_setMark wsL_setMark) := goodIn_app (goodIn_of _ (by decide +kernel)) ggL_law_L_setMark
set_option maxRecDepth 20000 in
theorem ggL_law_X9_setMark : GoodIn wsL_law wsX9_setMark := goodIn_r _ [269, 132, 254, 255, 256, 5, 257, 209, 210, 211, 212, 213, 214, 215, 216, 217, 218, 219, 220, 221, 222, 223, 224, 225, 906, 907, 908, 909, 910, 911, 912, 913, 914, 915, 916, 917, 918, 919] (by decide +kernel) (by decide +kernel)
set_option maxRecDepth 20000 in
theorem gL_law_X9_setMark : GoodIn wsL_law (wsV RL 105 RX9 yX9_setMark wsX9_setMark) := goodIn_app (goodIn_of _ (by decide +kernel)) ggL_law_X9_setMark
set_option maxRecDepth 20000 in
theorem ggL_law_X8_words : GoodIn wsL_law wsX8_words := goodIn_r _ [273, 16, 898, 899, 900, 901, 902, 903, 904, 905, 920, 921, 922, 923, 924, 925, 926, 927, 928, 929] (by decide +kernel) (by decide +kernel)
set_option maxRecDepth 20000 in
theorem gL_law_X8_words : GoodIn wsL_law (wsV RL 106 RX8 yX8_words wsX8_words) := goodIn_app (goodIn_of _ (by decide +kernel)) ggL_law_X8_words
set_option maxRecDepth 20000 in
theorem ggL_law_X9_words : GoodIn wsL_law wsX9_words := goodIn_r _ [277, 216, 132, 906, 907, 908, 909, 910, 911, 912, 913, 914, 915, 916, 917, 918, 919] (by decide +kernel) (by decide +kernel)
set_option maxRecDepth 20000 in
theorem gL_law_X9_words : GoodIn wsL_law (wsV RL 109 RX9 yX9_words wsX9_words) := goodIn_app (goodIn_of _ (by decide +kernel)) ggL_law_X9_words
set_option maxRecDepth 20000 in
theorem ggL_law_L_wordWidth : GoodIn wsL_law wsL_wordWidth := goodIn_ca (goodIn_r _ [280, 146, 281, 282, 283, 2, 284, 16, 155, 156, 157, 158, 159, 241, 190, 191, 41, 192, 61, 898, 899, 900, 901, 902, 903, 904, 905, 920, 921, 922, 923, 924, 925, 926, 927, 928, 929, 948] (by decide +kernel) (by decide +kernel)) (goodIn_sub (fun _ h => List.mem_append_left _ (List.mem_append_right _ h)) (by decide +kernel))
set_option maxRecDepth 20000 in
theorem gL_law_L_wordWidth : GoodIn wsL_law (va_wsS RL 110 yL_wordWidth wsL_wordWidth) := goodIn_app (goodIn_of _ (by decide +kernel)) ggL_law_L_wordWidth
set_option maxRecDepth 20000 in
theorem ggL_law_X9_wordWidth : GoodIn wsL_law wsX9_wordWidth := goodIn_r _ [288, 132, 254, 255, 256, 5, 257, 209, 210, 211, 212, 213, 214, 215, 216, 906, 907, 908, 909, 910, 911, 912, 913, 914, 915, 916, 917, 918, 919] (by decide +kernel) (by decide +kernel)
set_option maxRecDepth 20000 in
theorem gL_law_X9_wordWidth : GoodIn wsL_law (wsV RL 112 RX9 yX9_wordWidth wsX9_wordWidth) := goodIn_app (goodIn_of _ (by decide +kernel)) ggL_law_X9_wordWidth
set_option maxRecDepth 20000 in
theorem ggL_law_L_mark : GoodIn wsL_law wsL_mark := goodIn_ca (goodIn_r _ [291, 146, 292, 293, 294, 2, 295, 16, 155, 156, 157, 158, 159, 241, 190, 191, 41, 192, 61, 898, 899, 900, 901, 902, 903, 904, 905, 920, 921, 922, 923, 924, 925, 926, 927, 928, 929, 948] (by decide +kernel) (by decide +kernel)) (goodIn_sub (fun _ h => List.mem_append_left _ (List.mem_append_right _ h)) (by decide +kernel))
set_option maxRecDepth 20000 in
theorem gL_law_L_mark : GoodIn wsL_law (va_wsS RL 113 yL_mark wsL_mark) := goodIn_app (goodIn_of _ (by decide +kernel)) ggL_law_L_mark
set_option maxRecDepth 20000 in
theorem ggL_law_X9_mark : GoodIn wsL_law wsX9_mark := goodIn_r _ [299, 132, 254, 255, 256, 5, 257, 209, 210, 211, 212, 213, 214, 215, 216, 906, 907, 908, 909, 910, 911, 912, 913, 914, 915, 916, 917, 918, 919] (by decide +kernel) (by decide +kernel)
set_option maxRecDepth 20000 in
theorem gL_law_X9_mark : GoodIn wsL_law (wsV RL 115 RX9 yX9_mark wsX9_mark) := goodIn_app (goodIn_of _ (by decide +kernel)) ggL_law_X9_mark
set_option maxRecDepth 20000 in
theorem ggL_law_L_setColumn : GoodIn wsL_law wsL_setColumn := goodIn_ca (goodIn_r _ [302, 147, 303, 304, 305, 2, 306, 16, 160, 161, 162, 163, 164, 165, 166, 167, 168, 34, 35, 169, 170, 171, 33, 172, 127, 126, 173, 174, 175, 176, 177, 178, 179, 180, 181, 182, 183, 15, 184, 42, 43, 44, 45, 46, 47, 48, 49, 50, 51, 185, 186, 187, 41, 188, 61, 189, 190, 191, 192, 898, 899, 900, 901, 902, 903, 904, 905, 920, 921, 922, 923, 924, 925, 926, 927, 928, 929, 946, 947, 948] (by decide +kernel) (by decide +kernel)) (goodIn_sub (fun _ h => List.mem_append_right _ h) (by decide +kernel))
set_option maxRecDepth 20000 in
theorem gL_law_L_setColumn : GoodIn wsL_law (va_wsS RL 116 yL_setColumn wsL_setColumn) := goodIn_app (goodIn_of _ (by decide +kernel)) ggL_law_L_setColumn
set_option maxRecDepth 20000 in
theorem ggL_law_X9_setColumn : GoodIn wsL_law wsX9_setColumn := goodIn_r _ [310, 209, 210, 5, 211, 212, 213, 214, 215, 216, 311, 312, 313, 314, 132, 217, 218, 219, 220, 221, 222, 223, 224, 225, 906, 907, 908, 909, 910, 911, 912, 913, 914, 915, 916, 917, 918, 919] (by decide +kernel) (by decide +kernel)
set_option maxRecDepth 20000 in
theorem gL_law_X9_setColumn : GoodIn wsL_law (wsV RL 118 RX9 yX9_setColumn wsX9_setColumn) := goodIn_app (goodIn_of _ (by decide +kernel)) ggL_law_X9_setColumn
set_option maxRecDepth 20000 in
theorem ggL_law_L_setSpace : GoodIn wsL_law wsL_setSpace := goodIn_ca (goodIn_r _ [317, 147, 318, 319, 320, 2, 321, 16, 160, 161, 162, 163, 164, 165, 166, 167, 168, 34, 35, 169, 170, 171, 33, 172, 127, 126, 173, 174, 175, 176, 177, 178, 179, 180, 181, 182, 183, 15, 184, 42, 43, 44, 45, 46, 47, 48, 49, 50, 51, 185, 186, 187, 41, 188, 61, 189, 190, 191, 192, 898, 899, 900, 901, 902, 903, 904, 905, 920, 921, 922, 923, 924, 925, 926, 927, 928, 929, 946, 947, 948] (by decide +kernel) (by decide +kernel)) (goodIn_sub (fun _ h => List.mem_append_right _ h) (by decide +kernel))
set_option maxRecDepth 20000 in
theorem gL_law_L_setSpace : GoodIn wsL_law (va_wsS RL 119 yL_setSpace wsL_setSpace) := goodIn_app (goodIn_of _ (by decide +kernel)) ggL_law_L_setSpace
set_option maxRecDepth 20000 in
theorem ggL_law_X9_setSpace : GoodIn wsL_law wsX9_setSpace := goodIn_r _ [325, 209, 210, 5, 211, 212, 213, 214, 215, 216, 311, 312, 313, 314, 132, 217, 218, 219, 220, 221, 222, 223, 224, 225, 906, 907, 908, 909, 910, 911, 912, 913, 914, 915, 916, 917, 918, 919] (by decide +kernel) (by decide +kernel)
set_option maxRecDepth 20000 in
theorem gL_law_X9_setSpace : GoodIn wsL_law (wsV RL 121 RX9 yX9_setSpace wsX9_setSpace) := goodIn_app (goodIn_of _ (by decide +kernel)) ggL_law_X9_setSpace
set_option maxRecDepth 20000 in
theorem ggL_law_L_setPenalties : GoodIn wsL_law wsL_setPenalties := goodIn_ca (goodIn_r _ [328, 147, 329, 330, 331, 2, 332, 16, 160, 161, 162, 163, 164, 165, 166, 167, 168, 34, 35, 169, 170, 171, 33, 172, 127, 126, 173, 174, 175, 176, 177, 178, 179, 180, 181, 182, 183, 15, 184, 42, 43, 44, 45, 46, 47, 48, 49, 50, 51, 185, 186, 187, 41, 188, 61, 189, 190, 191, 192, 898, 899, 900, 901, 902, 903, 904, 905, 920, 921, 922, 923, 924, 925, 926, 927, 928, 929, 946, 947, 948] (by decide +kernel) (by decide +kernel)) (goodIn_sub (fun _ h => List.mem_append_right _ h) (by decide +kernel))
set_option maxRecDepth 20000 in
theorem gL_law_L_setPenalties : GoodIn wsL_law (va_wsS RL 122 yL_setPenalties wsL_setPenalties) := goodIn_app (goodIn_of _ (by decide +kernel)) ggL_law_L_setPenalties
set_option maxRecDepth 20000 in
theorem ggL_law_X9_setPenalties : GoodIn wsL_law wsX9_setPenalties := goodIn_r _ [336, 132, 209, 210, 5, 211, 212, 213, 214, 215, 216, 311, 312, 313, 314, 217, 218, 219, 220, 221, 222, 223, 224, 225, 906, 907, 908, 909, 910, 911, 912, 913, 914, 915, 916, 917, 918, 919] (by decide +kernel) (by decide +kernel)
set_option maxRecDepth 20000 in
theorem gL_law_X9_setPenalties : GoodIn wsL_law (wsV RL 125 RX9 yX9_setPenalties wsX9_setPenalties) := goodIn_app (goodIn_of _ (by decide +kernel)) ggL_law_X9_setPenalties
set_option maxRecDepth 20000 in
theorem ggL_law_L_setPage : GoodIn wsL_law wsL_setPage := goodIn_ca (goodIn_r _ [339, 147, 340, 341, 342, 2, 343, 16, 160, 161, 162, 163, 164, 165, 166, 167, 168, 34, 35, 169, 170, 171, 33, 172, 127, 126, 173, 174, 175, 176, 177, 178, 179, 180, 181, 182, 183, 15, 184, 42, 43, 44, 45, 46, 47, 48, 49, 50, 51, 185, 186, 187, 41, 188, 61, 189, 190, 191, 192, 898, 899, 900, 901, 902, 903, 904, 905, 920, 921, 922, 923, 924, 925, 926, 927, 928, 929, 946, 947, 948] (by decide +kernel) (by decide +kernel)) (goodIn_sub (fun _ h => List.mem_append_right _ h) (by decide +kernel))
set_option maxRecDepth 20000 in
theorem gL_law_L_setPage : GoodIn wsL_law (va_wsS RL 126 yL_setPage wsL_setPage) := goodIn_app (goodIn_of _ (by decide +kernel)) ggL_law_L_setPage
set_option maxRecDepth 20000 in
theorem ggL_law_X9_setPage : GoodIn wsL_law wsX9_setPage := goodIn_r _ [347, 209, 210, 5, 211, 212, 213, 214, 215, 216, 311, 312, 313, 314, 132, 217, 218, 219, 220, 221, 222, 223, 224, 225, 906, 907, 908, 909, 910, 911, 912, 913, 914, 915, 916, 917, 918, 919] (by decide +kernel) (by decide +kernel)
set_option maxRecDepth 20000 in
theorem gL_law_X9_setPage : GoodIn wsL_law (wsV RL 128 RX9 yX9_setPage wsX9_setPage) := goodIn_app (goodIn_of _ (by decide +kernel)) ggL_law_X9_setPage
set_option maxRecDepth 20000 in
theorem ggL_law_X8_setOptimal : GoodIn wsL_law wsX8_setOptimal := goodIn_r _ [351, 16, 165, 166, 167, 2, 168, 34, 35, 169, 170, 171, 33, 172, 127, 126, 173, 174, 175, 176, 177, 178, 179, 180, 181, 182, 183, 15, 184, 42, 43, 44, 45, 46, 47, 48, 49, 50, 51, 185, 186, 187, 41, 188, 61, 189, 190, 191, 192, 898, 899, 900, 901, 902, 903, 904, 905, 920, 921, 922, 923, 924, 925, 926, 927, 928, 929, 946, 947, 948] (by decide +kernel) (by decide +kernel)
set_option maxRecDepth 20000 in
theorem gL_law_X8_setOptimal : GoodIn wsL_law (wsV RL 129 RX8 yX8_setOptimal wsX8_setOptimal) := goodIn_app (goodIn_of _ (by decide +kernel)) ggL_law_X8_setOptimal
set_option maxRecDepth 20000 in
theorem ggL_law_X9_setOptimal : GoodIn wsL_law wsX9_setOptimal := goodIn_r _ [355, 216, 311, 312, 313, 5, 314, 132, 217, 218, 219, 220, 221, 222, 223, 224, 225, 906, 907, 908, 909, 910, 911, 912, 913, 914, 915, 916, 917, 918, 919] (by decide +kernel) (by decide +kernel)
set_option maxRecDepth 20000 in
theorem gL_law_X9_setOptimal : GoodIn wsL_law (wsV RL 133 RX9 yX9_setOptimal wsX9_setOptimal) := goodIn_app (goodIn_of _ (by decide +kernel)) ggL_law_X9_setOptimal
set_option maxRecDepth 20000 in
theorem ggL_law_X8_lines : GoodIn wsL_law wsX8_lines := goodIn_r _ [359, 20, 360, 361, 362, 2, 363, 35, 16, 24, 364, 365, 366, 19, 367, 74, 70, 78, 368, 369, 370, 73, 371, 87, 85, 86, 372, 190, 191, 41, 192, 61, 373, 202, 203, 204, 374, 375, 376, 377, 378, 379, 380, 381, 382, 383, 384, 15, 385, 43, 44, 386, 387, 388, 389, 77, 390, 98, 391, 392, 393, 394, 395, 94, 396, 97, 397, 398, 399, 400, 401, 402, 403, 404, 405, 45, 49, 406, 407, 408, 409, 47, 410, 411, 412, 413, 414, 415, 416, 417, 95, 418, 419, 420, 421, 96, 422, 423, 424, 425, 69, 67, 68, 426, 427, 428, 429, 430, 23, 431, 107, 109, 105, 108, 106, 432, 433, 434, 435, 436, 437, 438, 439, 440, 441, 442, 443, 444, 445, 446, 447, 448, 898, 899, 900, 901, 902, 903, 904, 905, 930, 931, 932, 933, 934, 935, 920, 921, 922, 923, 924, 925, 926, 927, 928, 929, 952, 953, 954, 955, 956, 949, 950, 951, 948, 936, 937, 938, 939, 940] (by decide +kernel) (by decide +kernel)
set_option maxRecDepth 20000 in
theorem gL_law_X8_lines : GoodIn wsL_law (wsV RL 134 RX8 yX8_lines wsX8_lines) := goodIn_app (goodIn_of _ (by decide +kernel)) ggL_law_X8_lines
set_option maxRecDepth 20000 in
theorem ggL_law_X9_lines : GoodIn wsL_law wsX9_lines := goodIn_r _ [452, 216, 453, 454, 455, 5, 456, 132, 457, 458, 459, 460, 136, 461, 462, 463, 464, 137, 465, 466, 467, 468, 469, 470, 471, 472, 140, 473, 474, 475, 476, 477, 478, 479, 138, 139, 480, 481, 482, 483, 484, 485, 486, 487, 488, 489, 490, 491, 492, 493, 494, 495, 496, 497, 498, 499, 500, 501, 502, 503, 504, 505, 506, 507, 508, 509, 510, 511, 906, 907, 908, 909, 910, 911, 912, 913, 914, 915, 916, 917, 918, 919] (by decide +kernel) (by decide +kernel)
set_option maxRecDepth 20000 in
theorem gL_law_X9_lines : GoodIn wsL_law (wsV RL 137 RX9 yX9_lines wsX9_lines) := goodIn_app (goodIn_of _ (by decide +kernel)) ggL_law_X9_lines
set_option maxRecDepth 20000 in
theorem ggL_law_L_lineOf : GoodIn wsL_law wsL_lineOf := goodIn_ca (goodIn_r _ [514, 146, 515, 516, 517, 2, 518, 16, 20, 155, 156, 157, 158, 159, 360, 361, 362, 363, 35, 24, 364, 365, 366, 19, 367, 74, 70, 78, 368, 369, 370, 73, 371, 87, 85, 86, 372, 190, 191, 41, 192, 61, 373, 202, 203, 204, 374, 375, 376, 377, 378, 379, 380, 381, 382, 383, 384, 15, 385, 43, 44, 386, 387, 388, 389, 77, 390, 98, 391, 392, 393, 394, 395, 94, 396, 97, 397, 398, 399, 400, 401, 402, 403, 404, 405, 45, 49, 406, 407, 408, 409, 47, 410, 411, 412, 413, 414, 415, 416, 417, 95, 418, 419, 420, 421, 96, 422, 423, 424, 425, 69, 67, 68, 426, 427, 428, 429, 430, 23, 431, 107, 109, 105, 108, 106, 432, 433, 434, 435, 436, 437, 438, 439, 440, 441, 442, 443, 444, 445, 446, 447, 448, 241, 898, 899, 900, 901, 902, 903, 904, 905, 920, 921, 922, 923, 924, 925, 926, 927, 928, 929, 930, 931, 932, 933, 934, 935, 952, 953, 954, 955, 956, 949, 950, 951, 948, 936, 937, 938, 939, 940] (by decide +kernel) (by decide +kernel)) (goodIn_sub (fun _ h => List.mem_append_left _ (List.mem_append_right _ h)) (by decide +kernel))
set_option maxRecDepth 20000 in
theorem gL_law_L_lineOf : GoodIn wsL_law (va_wsS RL 138 yL_lineOf wsL_lineOf) := goodIn_app (goodIn_of _ (by decide +kernel)) ggL_law_L_lineOf
set_option maxRecDepth 20000 in
theorem ggL_law_X9_lineOf : GoodIn wsL_law wsX9_lineOf := goodIn_r _ [522, 453, 454, 455, 5, 456, 132, 457, 458, 459, 460, 136, 461, 462, 463, 464, 137, 465, 466, 467, 468, 469, 470, 471, 472, 140, 473, 474, 475, 476, 477, 478, 479, 138, 139, 480, 481, 482, 483, 484, 485, 486, 487, 488, 489, 490, 491, 492, 493, 494, 495, 496, 497, 498, 499, 500, 501, 502, 503, 504, 505, 506, 507, 254, 255, 256, 257, 209, 210, 211, 212, 213, 214, 215, 216, 523, 524, 525, 526, 906, 907, 908, 909, 910, 911, 912, 913, 914, 915, 916, 917, 918, 919] (by decide +kernel) (by decide +kernel)
set_option maxRecDepth 20000 in
theorem gL_law_X9_lineOf : GoodIn wsL_law (wsV RL 140 RX9 yX9_lineOf wsX9_lineOf) := goodIn_app (goodIn_of _ (by decide +kernel)) ggL_law_X9_lineOf
set_option maxRecDepth 20000 in
theorem ggL_law_L_firstWord : GoodIn wsL_law wsL_firstWord := goodIn_ca (goodIn_r _ [529, 146, 530, 531, 532, 2, 533, 20, 360, 361, 362, 363, 35, 16, 24, 364, 365, 366, 19, 367, 74, 70, 78, 368, 369, 370, 73, 371, 87, 85, 86, 372, 190, 191, 41, 192, 61, 373, 202, 203, 204, 374, 375, 376, 377, 378, 379, 380, 381, 382, 383, 384, 15, 385, 43, 44, 386, 387, 388, 389, 77, 390, 98, 391, 392, 393, 394, 395, 94, 396, 97, 397, 398, 399, 400, 401, 402, 403, 404, 405, 45, 49, 406, 407, 408, 409, 47, 410, 411, 412, 413, 414, 415, 416, 417, 95, 418, 419, 420, 421, 96, 422, 423, 424, 425, 69, 67, 68, 426, 427, 428, 429, 430, 23, 431, 107, 109, 105, 108, 106, 432, 433, 434, 435, 436, 437, 438, 439, 440, 441, 442, 443, 444, 445, 446, 447, 448, 155, 156, 157, 158, 159, 241, 898, 899, 900, 901, 902, 903, 904, 905, 930, 931, 932, 933, 934, 935, 920, 921, 922, 923, 924, 925, 926, 927, 928, 929, 952, 953, 954, 955, 956, 949, 950, 951, 948, 936, 937, 938, 939, 940] (by decide +kernel) (by decide +kernel)) (goodIn_sub (fun _ h => List.mem_append_left _ (List.mem_append_right _ h)) (by decide +kernel))
set_option maxRecDepth 20000 in
theorem gL_law_L_firstWord : GoodIn wsL_law (va_wsS RL 141 yL_firstWord wsL_firstWord) := goodIn_app (goodIn_of _ (by decide +kernel)) ggL_law_L_firstWord
set_option maxRecDepth 20000 in
theorem ggL_law_X9_firstWord : GoodIn wsL_law wsX9_firstWord := goodIn_r _ [537, 538, 539, 540, 5, 541, 453, 454, 455, 456, 132, 457, 458, 459, 460, 136, 461, 462, 463, 464, 137, 465, 466, 467, 468, 469, 470, 471, 472, 140, 473, 474, 475, 476, 477, 478, 479, 138, 139, 480, 481, 482, 483, 484, 485, 486, 487, 488, 489, 490, 491, 492, 493, 494, 495, 496, 497, 498, 499, 500, 501, 502, 503, 504, 505, 506, 507, 508, 509, 510, 511, 209, 210, 211, 212, 213, 214, 215, 216, 542, 543, 544, 545, 906, 907, 908, 909, 910, 911, 912, 913, 914, 915, 916, 917, 918, 919] (by decide +kernel) (by decide +kernel)
set_option maxRecDepth 20000 in
theorem gL_law_X9_firstWord : GoodIn wsL_law (wsV RL 143 RX9 yX9_firstWord wsX9_firstWord) := goodIn_app (goodIn_of _ (by decide +kernel)) ggL_law_X9_firstWord
set_option maxRecDepth 20000 in
theorem ggL_law_L_lineWidth : GoodIn wsL_law wsL_lineWidth := goodIn_ca (goodIn_r _ [548, 146, 549, 550, 551, 2, 552, 20, 360, 361, 362, 363, 35, 16, 24, 364, 365, 366, 19, 367, 74, 70, 78, 368, 369, 370, 73, 371, 87, 85, 86, 372, 190, 191, 41, 192, 61, 373, 202, 203, 204, 374, 375, 376, 377, 378, 379, 380, 381, 382, 383, 384, 15, 385, 43, 44, 386, 387, 388, 389, 77, 390, 98, 391, 392, 393, 394, 395, 94, 396, 97, 397, 398, 399, 400, 401, 402, 403, 404, 405, 45, 49, 406, 407, 408, 409, 47, 410, 411, 412, 413, 414, 415, 416, 417, 95, 418, 419, 420, 421, 96, 422, 423, 424, 425, 69, 67, 68, 426, 427, 428, 429, 430, 23, 431, 107, 109, 105, 108, 106, 432, 433, 434, 435, 436, 437, 438, 439, 440, 441, 442, 443, 444, 445, 446, 447, 448, 155, 156, 157, 158, 159, 553, 554, 555, 556, 557, 898, 899, 900, 901, 902, 903, 904, 905, 930, 931, 932, 933, 934, 935, 920, 921, 922, 923, 924, 925, 926, 927, 928, 929, 952, 953, 954, 955, 956, 949, 950, 951, 948, 936, 937, 938, 939, 940] (by decide +kernel) (by decide +kernel)) (goodIn_sub (fun _ h => List.mem_append_left _ (List.mem_append_right _ h)) (by decide +kernel))
set_option maxRecDepth 20000 in
theorem gL_law_L_lineWidth : GoodIn wsL_law (va_wsS RL 144 yL_lineWidth wsL_lineWidth) := goodIn_app (goodIn_of _ (by decide +kernel)) ggL_law_L_lineWidth
set_option maxRecDepth 20000 in
theorem ggL_law_X9_lineWidth : GoodIn wsL_law wsX9_lineWidth := goodIn_r _ [561, 538, 539, 540, 5, 541, 453, 454, 455, 456, 132, 457, 458, 459, 460, 136, 461, 462, 463, 464, 137, 465, 466, 467, 468, 469, 470, 471, 472, 140, 473, 474, 475, 476, 477, 478, 479, 138, 139, 480, 481, 482, 483, 484, 485, 486, 487, 488, 489, 490, 491, 492, 493, 494, 495, 496, 497, 498, 499, 500, 501, 502, 503, 504, 505, 506, 507, 508, 509, 510, 511, 209, 210, 211, 212, 213, 214, 215, 216, 542, 543, 544, 545, 906, 907, 908, 909, 910, 911, 912, 913, 914, 915, 916, 917, 918, 919] (by decide +kernel) (by decide +kernel)
set_option maxRecDepth 20000 in
theorem gL_law_X9_lineWidth : GoodIn wsL_law (wsV RL 146 RX9 yX9_lineWidth wsX9_lineWidth) := goodIn_app (goodIn_of _ (by decide +kernel)) ggL_law_X9_lineWidth
set_option maxRecDepth 20000 in
theorem ggL_law_L_stairAt : GoodIn wsL_law wsL_stairAt := goodIn_ca (goodIn_r _ [564, 146, 565, 566, 567, 2, 568, 20, 360, 361, 362, 363, 35, 16, 24, 364, 365, 366, 19, 367, 74, 70, 78, 368, 369, 370, 73, 371, 87, 85, 86, 372, 190, 191, 41, 192, 61, 373, 202, 203, 204, 374, 375, 376, 377, 378, 379, 380, 381, 382, 383, 384, 15, 385, 43, 44, 386, 387, 388, 389, 77, 390, 98, 391, 392, 393, 394, 395, 94, 396, 97, 397, 398, 399, 400, 401, 402, 403, 404, 405, 45, 49, 406, 407, 408, 409, 47, 410, 411, 412, 413, 414, 415, 416, 417, 95, 418, 419, 420, 421, 96, 422, 423, 424, 425, 69, 67, 68, 426, 427, 428, 429, 430, 23, 431, 107, 109, 105, 108, 106, 432, 433, 434, 435, 436, 437, 438, 439, 440, 441, 442, 443, 444, 445, 446, 447, 448, 155, 156, 157, 158, 159, 569, 570, 571, 572, 573, 554, 555, 556, 557, 574, 898, 899, 900, 901, 902, 903, 904, 905, 930, 931, 932, 933, 934, 935, 920, 921, 922, 923, 924, 925, 926, 927, 928, 929, 952, 953, 954, 955, 956, 949, 950, 951, 948, 936, 937, 938, 939, 940] (by decide +kernel) (by decide +kernel)) (goodIn_sub (fun _ h => List.mem_append_left _ (List.mem_append_right _ h)) (by decide +kernel))
set_option maxRecDepth 20000 in
theorem gL_law_L_stairAt : GoodIn wsL_law (va_wsS RL 147 yL_stairAt wsL_stairAt) := goodIn_app (goodIn_of _ (by decide +kernel)) ggL_law_L_stairAt
set_option maxRecDepth 20000 in
theorem ggL_law_X9_stairAt : GoodIn wsL_law wsX9_stairAt := goodIn_r _ [578, 538, 539, 540, 5, 541, 453, 454, 455, 456, 132, 457, 458, 459, 460, 136, 461, 462, 463, 464, 137, 465, 466, 467, 468, 469, 470, 471, 472, 140, 473, 474, 475, 476, 477, 478, 479, 138, 139, 480, 481, 482, 483, 484, 485, 486, 487, 488, 489, 490, 491, 492, 493, 494, 495, 496, 497, 498, 499, 500, 501, 502, 503, 504, 505, 506, 507, 508, 509, 510, 511, 209, 210, 211, 212, 213, 214, 215, 216, 579, 580, 581, 582, 542, 543, 544, 545, 583, 584, 585, 586, 906, 907, 908, 909, 910, 911, 912, 913, 914, 915, 916, 917, 918, 919] (by decide +kernel) (by decide +kernel)
set_option maxRecDepth 20000 in
theorem gL_law_X9_stairAt : GoodIn wsL_law (wsV RL 149 RX9 yX9_stairAt wsX9_stairAt) := goodIn_app (goodIn_of _ (by decide +kernel)) ggL_law_X9_stairAt
set_option maxRecDepth 20000 in
theorem ggL_law_L_reason : GoodIn wsL_law wsL_reason := goodIn_ca (goodIn_r _ [589, 146, 590, 591, 592, 2, 593, 16, 20, 155, 156, 157, 158, 159, 360, 361, 362, 363, 35, 24, 364, 365, 366, 19, 367, 74, 70, 78, 368, 369, 370, 73, 371, 87, 85, 86, 372, 190, 191, 41, 192, 61, 373, 202, 203, 204, 374, 375, 376, 377, 378, 379, 380, 381, 382, 383, 384, 15, 385, 43, 44, 386, 387, 388, 389, 77, 390, 98, 391, 392, 393, 394, 395, 94, 396, 97, 397, 398, 399, 400, 401, 402, 403, 404, 405, 45, 49, 406, 407, 408, 409, 47, 410, 411, 412, 413, 414, 415, 416, 417, 95, 418, 419, 420, 421, 96, 422, 423, 424, 425, 69, 67, 68, 426, 427, 428, 429, 430, 23, 431, 107, 109, 105, 108, 106, 432, 433, 434, 435, 436, 437, 438, 439, 440, 441, 442, 443, 444, 445, 446, 447, 448, 594, 595, 596, 597, 557, 898, 899, 900, 901, 902, 903, 904, 905, 920, 921, 922, 923, 924, 925, 926, 927, 928, 929, 930, 931, 932, 933, 934, 935, 952, 953, 954, 955, 956, 949, 950, 951, 948, 936, 937, 938, 939, 940] (by decide +kernel) (by decide +kernel)) (goodIn_sub (fun _ h => List.mem_append_left _ (List.mem_append_right _ h)) (by decide +kernel))
set_option maxRecDepth 20000 in
theorem gL_law_L_reason : GoodIn wsL_law (va_wsS RL 150 yL_reason wsL_reason) := goodIn_app (goodIn_of _ (by decide +kernel)) ggL_law_L_reason
set_option maxRecDepth 20000 in
theorem ggL_law_X9_reason : GoodIn wsL_law wsX9_reason := goodIn_r _ [601, 453, 454, 455, 5, 456, 132, 457, 458, 459, 460, 136, 461, 462, 463, 464, 137, 465, 466, 467, 468, 469, 470, 471, 472, 140, 473, 474, 475, 476, 477, 478, 479, 138, 139, 480, 481, 482, 483, 484, 485, 486, 487, 488, 489, 490, 491, 492, 493, 494, 495, 496, 497, 498, 499, 500, 501, 502, 503, 504, 505, 506, 507, 254, 255, 256, 257, 209, 210, 211, 212, 213, 214, 215, 216, 602, 603, 604, 605, 523, 524, 525, 526, 542, 543, 544, 545, 906, 907, 908, 909, 910, 911, 912, 913, 914, 915, 916, 917, 918, 919] (by decide +kernel) (by decide +kernel)
set_option maxRecDepth 20000 in
theorem gL_law_X9_reason : GoodIn wsL_law (wsV RL 152 RX9 yX9_reason wsX9_reason) := goodIn_app (goodIn_of _ (by decide +kernel)) ggL_law_X9_reason
set_option maxRecDepth 20000 in
theorem ggL_law_X8_paragraphs : GoodIn wsL_law wsX8_paragraphs := goodIn_r _ [609, 16, 610, 611, 612, 15, 613, 44, 614, 383, 384, 385, 43, 386, 190, 191, 41, 192, 61, 898, 899, 900, 901, 902, 903, 904, 905, 920, 921, 922, 923, 924, 925, 926, 927, 928, 929, 948] (by decide +kernel) (by decide +kernel)
set_option maxRecDepth 20000 in
theorem gL_law_X8_paragraphs : GoodIn wsL_law (wsV RL 153 RX8 yX8_paragraphs wsX8_paragraphs) := goodIn_app (goodIn_of _ (by decide +kernel)) ggL_law_X8_paragraphs
set_option maxRecDepth 20000 in
theorem ggL_law_X9_paragraphs : GoodIn wsL_law wsX9_paragraphs := goodIn_r _ [618, 216, 619, 620, 621, 5, 622, 132, 465, 466, 467, 468, 906, 907, 908, 909, 910, 911, 912, 913, 914, 915, 916, 917, 918, 919] (by decide +kernel) (by decide +kernel)
set_option maxRecDepth 20000 in
theorem gL_law_X9_paragraphs : GoodIn wsL_law (wsV RL 156 RX9 yX9_paragraphs wsX9_paragraphs) := goodIn_app (goodIn_of _ (by decide +kernel)) ggL_law_X9_paragraphs
set_option maxRecDepth 20000 in
theorem ggL_law_X8_stairs : GoodIn wsL_law wsX8_stairs := goodIn_r _ [626, 20, 360, 361, 362, 2, 363, 35, 16, 24, 364, 365, 366, 19, 367, 74, 70, 78, 368, 369, 370, 73, 371, 87, 85, 86, 372, 190, 191, 41, 192, 61, 373, 202, 203, 204, 374, 375, 376, 377, 378, 379, 380, 381, 382, 383, 384, 15, 385, 43, 44, 386, 387, 388, 389, 77, 390, 98, 391, 392, 393, 394, 395, 94, 396, 97, 397, 398, 399, 400, 401, 402, 403, 404, 405, 45, 49, 406, 407, 408, 409, 47, 410, 411, 412, 413, 414, 415, 416, 417, 95, 418, 419, 420, 421, 96, 422, 423, 424, 425, 69, 67, 68, 426, 427, 428, 429, 430, 23, 431, 107, 109, 105, 108, 106, 432, 433, 434, 435, 436, 437, 438, 439, 440, 441, 442, 443, 444, 445, 446, 447, 448, 627, 628, 629, 630, 631, 570, 571, 572, 573, 554, 555, 556, 557, 574, 898, 899, 900, 901, 902, 903, 904, 905, 920, 921, 922, 923, 924, 925, 926, 927, 928, 929, 930, 931, 932, 933, 934, 935, 952, 953, 954, 955, 956, 949, 950, 951, 948, 936, 937, 938, 939, 940] (by decide +kernel) (by decide +kernel)
set_option maxRecDepth 20000 in
theorem gL_law_X8_stairs : GoodIn wsL_law (wsV RL 157 RX8 yX8_stairs wsX8_stairs) := goodIn_app (goodIn_of _ (by decide +kernel)) ggL_law_X8_stairs
set_option maxRecDepth 20000 in
theorem ggL_law_X9_stairs : GoodIn wsL_law wsX9_stairs := goodIn_r _ [635, 216, 453, 454, 455, 5, 456, 132, 457, 458, 459, 460, 136, 461, 462, 463, 464, 137, 465, 466, 467, 468, 469, 470, 471, 472, 140, 473, 474, 475, 476, 477, 478, 479, 138, 139, 480, 481, 482, 483, 484, 485, 486, 487, 488, 489, 490, 491, 492, 493, 494, 495, 496, 497, 498, 499, 500, 501, 502, 503, 504, 505, 506, 507, 636, 637, 638, 639, 508, 509, 510, 511, 579, 580, 581, 582, 542, 543, 544, 545, 583, 584, 585, 586, 906, 907, 908, 909, 910, 911, 912, 913, 914, 915, 916, 917, 918, 919] (by decide +kernel) (by decide +kernel)
set_option maxRecDepth 20000 in
theorem gL_law_X9_stairs : GoodIn wsL_law (wsV RL 160 RX9 yX9_stairs wsX9_stairs) := goodIn_app (goodIn_of _ (by decide +kernel)) ggL_law_X9_stairs
set_option maxRecDepth 20000 in
theorem ggL_law_X8_cost : GoodIn wsL_law wsX8_cost := goodIn_r _ [643, 20, 360, 361, 362, 2, 363, 35, 16, 24, 364, 365, 366, 19, 367, 74, 70, 78, 368, 369, 370, 73, 371, 87, 85, 86, 372, 190, 191, 41, 192, 61, 373, 202, 203, 204, 374, 375, 376, 377, 378, 379, 380, 381, 382, 383, 384, 15, 385, 43, 44, 386, 387, 388, 389, 77, 390, 98, 391, 392, 393, 394, 395, 94, 396, 97, 397, 398, 399, 400, 401, 402, 403, 404, 405, 45, 49, 406, 407, 408, 409, 47, 410, 411, 412, 413, 414, 415, 416, 417, 95, 418, 419, 420, 421, 96, 422, 423, 424, 425, 69, 67, 68, 426, 427, 428, 429, 430, 23, 431, 107, 109, 105, 108, 106, 432, 433, 434, 435, 436, 437, 438, 439, 440, 441, 442, 443, 444, 445, 446, 447, 448, 644, 645, 646, 647, 573, 554, 555, 556, 557, 648, 649, 631, 570, 571, 572, 574, 898, 899, 900, 901, 902, 903, 904, 905, 920, 921, 922, 923, 924, 925, 926, 927, 928, 929, 930, 931, 932, 933, 934, 935, 952, 953, 954, 955, 956, 949, 950, 951, 948, 936, 937, 938, 939, 940] (by decide +kernel) (by decide +kernel)
set_option maxRecDepth 20000 in
theorem gL_law_X8_cost : GoodIn wsL_law (wsV RL 161 RX8 yX8_cost wsX8_cost) := goodIn_app (goodIn_of _ (by decide +kernel)) ggL_law_X8_cost
set_option maxRecDepth 20000 in
theorem ggL_law_X9_cost : GoodIn wsL_law wsX9_cost := goodIn_r _ [653, 216, 453, 454, 455, 5, 456, 132, 457, 458, 459, 460, 136, 461, 462, 463, 464, 137, 465, 466, 467, 468, 469, 470, 471, 472, 140, 473, 474, 475, 476, 477, 478, 479, 138, 139, 480, 481, 482, 483, 484, 485, 486, 487, 488, 489, 490, 491, 492, 493, 494, 495, 496, 497, 498, 499, 500, 501, 502, 503, 504, 505, 506, 507, 906, 907, 908, 909, 910, 911, 912, 913, 914, 915, 916, 917, 918, 919] (by decide +kernel) (by decide +kernel)
set_option maxRecDepth 20000 in
theorem gL_law_X9_cost : GoodIn wsL_law (wsV RL 164 RX9 yX9_cost wsX9_cost) := goodIn_app (goodIn_of _ (by decide +kernel)) ggL_law_X9_cost
set_option maxRecDepth 20000 in
theorem ggL_law_X8_pages : GoodIn wsL_law wsX8_pages := goodIn_r _ [657, 24, 360, 361, 362, 2, 363, 35, 20, 16, 364, 365, 366, 19, 367, 74, 70, 78, 368, 369, 370, 73, 371, 87, 85, 86, 372, 190, 191, 41, 192, 61, 373, 202, 203, 204, 374, 375, 376, 377, 378, 379, 380, 381, 382, 383, 384, 15, 385, 43, 44, 386, 387, 388, 389, 77, 390, 98, 391, 392, 393, 394, 395, 94, 396, 97, 397, 398, 399, 400, 401, 402, 403, 404, 405, 45, 49, 406, 407, 408, 409, 47, 410, 411, 412, 413, 414, 415, 416, 417, 95, 418, 419, 420, 421, 96, 422, 423, 424, 425, 69, 67, 68, 426, 427, 428, 429, 430, 23, 431, 107, 109, 105, 108, 106, 432, 433, 434, 435, 436, 437, 438, 439, 440, 441, 442, 443, 444, 445, 446, 447, 448, 898, 899, 900, 901, 902, 903, 904, 905, 936, 937, 938, 939, 940, 920, 921, 922, 923, 924, 925, 926, 927, 928, 929, 930, 931, 932, 933, 934, 935, 952, 953, 954, 955, 956, 949, 950, 951, 948] (by decide +kernel) (by decide +kernel)
set_option maxRecDepth 20000 in
theorem gL_law_X8_pages : GoodIn wsL_law (wsV RL 165 RX8 yX8_pages wsX8_pages) := goodIn_app (goodIn_of _ (by decide +kernel)) ggL_law_X8_pages
set_option maxRecDepth 20000 in
theorem ggL_law_X9_pages : GoodIn wsL_law wsX9_pages := goodIn_r _ [661, 216, 453, 454, 455, 5, 456, 132, 457, 458, 459, 460, 136, 461, 462, 463, 464, 137, 465, 466, 467, 468, 469, 470, 471, 472, 140, 473, 474, 475, 476, 477, 478, 479, 138, 139, 480, 481, 482, 483, 484, 485, 486, 487, 488, 489, 490, 491, 492, 493, 494, 495, 496, 497, 498, 499, 500, 501, 502, 503, 504, 505, 506, 507, 662, 663, 664, 665, 141, 508, 509, 510, 511, 666, 667, 668, 669, 542, 543, 544, 545, 583, 584, 585, 586, 670, 671, 672, 673, 906, 907, 908, 909, 910, 911, 912, 913, 914, 915, 916, 917, 918, 919] (by decide +kernel) (by decide +kernel)
set_option maxRecDepth 20000 in
theorem gL_law_X9_pages : GoodIn wsL_law (wsV RL 168 RX9 yX9_pages wsX9_pages) := goodIn_app (goodIn_of _ (by decide +kernel)) ggL_law_X9_pages
set_option maxRecDepth 20000 in
theorem ggL_law_L_pageOf : GoodIn wsL_law wsL_pageOf := goodIn_ca (goodIn_r _ [676, 146, 677, 678, 679, 2, 680, 20, 24, 360, 361, 362, 363, 35, 16, 364, 365, 366, 19, 367, 74, 70, 78, 368, 369, 370, 73, 371, 87, 85, 86, 372, 190, 191, 41, 192, 61, 373, 202, 203, 204, 374, 375, 376, 377, 378, 379, 380, 381, 382, 383, 384, 15, 385, 43, 44, 386, 387, 388, 389, 77, 390, 98, 391, 392, 393, 394, 395, 94, 396, 97, 397, 398, 399, 400, 401, 402, 403, 404, 405, 45, 49, 406, 407, 408, 409, 47, 410, 411, 412, 413, 414, 415, 416, 417, 95, 418, 419, 420, 421, 96, 422, 423, 424, 425, 69, 67, 68, 426, 427, 428, 429, 430, 23, 431, 107, 109, 105, 108, 106, 432, 433, 434, 435, 436, 437, 438, 439, 440, 441, 442, 443, 444, 445, 446, 447, 448, 155, 156, 157, 158, 159, 241, 898, 899, 900, 901, 902, 903, 904, 905, 930, 931, 932, 933, 934, 935, 936, 937, 938, 939, 940, 920, 921, 922, 923, 924, 925, 926, 927, 928, 929, 952, 953, 954, 955, 956, 949, 950, 951, 948] (by decide +kernel) (by decide +kernel)) (goodIn_sub (fun _ h => List.mem_append_left _ (List.mem_append_right _ h)) (by decide +kernel))
set_option maxRecDepth 20000 in
theorem gL_law_L_pageOf : GoodIn wsL_law (va_wsS RL 169 yL_pageOf wsL_pageOf) := goodIn_app (goodIn_of _ (by decide +kernel)) ggL_law_L_pageOf
set_option maxRecDepth 20000 in
theorem ggL_law_X9_pageOf : GoodIn wsL_law wsX9_pageOf := goodIn_r _ [684, 141, 538, 539, 540, 5, 541, 453, 454, 455, 456, 132, 457, 458, 459, 460, 136, 461, 462, 463, 464, 137, 465, 466, 467, 468, 469, 470, 471, 472, 140, 473, 474, 475, 476, 477, 478, 479, 138, 139, 480, 481, 482, 483, 484, 485, 486, 487, 488, 489, 490, 491, 492, 493, 494, 495, 496, 497, 498, 499, 500, 501, 502, 503, 504, 505, 506, 507, 508, 509, 510, 511, 209, 210, 211, 662, 663, 664, 665, 666, 667, 668, 669, 542, 543, 544, 545, 583, 584, 585, 586, 670, 671, 672, 673, 212, 213, 214, 215, 216, 906, 907, 908, 909, 910, 911, 912, 913, 914, 915, 916, 917, 918, 919] (by decide +kernel) (by decide +kernel)
set_option maxRecDepth 20000 in
theorem gL_law_X9_pageOf : GoodIn wsL_law (wsV RL 171 RX9 yX9_pageOf wsX9_pageOf) := goodIn_app (goodIn_of _ (by decide +kernel)) ggL_law_X9_pageOf
set_option maxRecDepth 20000 in
theorem ggL_law_L_linesOn : GoodIn wsL_law wsL_linesOn := goodIn_ca (goodIn_r _ [687, 146, 688, 689, 690, 2, 691, 24, 360, 361, 362, 363, 35, 20, 16, 364, 365, 366, 19, 367, 74, 70, 78, 368, 369, 370, 73, 371, 87, 85, 86, 372, 190, 191, 41, 192, 61, 373, 202, 203, 204, 374, 375, 376, 377, 378, 379, 380, 381, 382, 383, 384, 15, 385, 43, 44, 386, 387, 388, 389, 77, 390, 98, 391, 392, 393, 394, 395, 94, 396, 97, 397, 398, 399, 400, 401, 402, 403, 404, 405, 45, 49, 406, 407, 408, 409, 47, 410, 411, 412, 413, 414, 415, 416, 417, 95, 418, 419, 420, 421, 96, 422, 423, 424, 425, 69, 67, 68, 426, 427, 428, 429, 430, 23, 431, 107, 109, 105, 108, 106, 432, 433, 434, 435, 436, 437, 438, 439, 440, 441, 442, 443, 444, 445, 446, 447, 448, 155, 156, 157, 158, 159, 241, 898, 899, 900, 901, 902, 903, 904, 905, 936, 937, 938, 939, 940, 920, 921, 922, 923, 924, 925, 926, 927, 928, 929, 930, 931, 932, 933, 934, 935, 952, 953, 954, 955, 956, 949, 950, 951, 948] (by decide +kernel) (by decide +kernel)) (goodIn_sub (fun _ h => List.mem_append_left _ (List.mem_append_right _ h)) (by decide +kernel))
set_option maxRecDepth 20000 in
theorem gL_law_L_linesOn : GoodIn wsL_law (va_wsS RL 172 yL_linesOn wsL_linesOn) := goodIn_app (goodIn_of _ (by decide +kernel)) ggL_law_L_linesOn
set_option maxRecDepth 20000 in
theorem ggL_law_X9_linesOn : GoodIn wsL_law wsX9_linesOn := goodIn_r _ [695, 141, 453, 454, 455, 5, 456, 132, 457, 458, 459, 460, 136, 461, 462, 463, 464, 137, 465, 466, 467, 468, 469, 470, 471, 472, 140, 473, 474, 475, 476, 477, 478, 479, 138, 139, 480, 481, 482, 483, 484, 485, 486, 487, 488, 489, 490, 491, 492, 493, 494, 495, 496, 497, 498, 499, 500, 501, 502, 503, 504, 505, 506, 507, 662, 663, 664, 665, 508, 509, 510, 511, 666, 667, 668, 669, 542, 543, 544, 545, 583, 584, 585, 586, 670, 671, 672, 673, 209, 210, 211, 212, 213, 214, 215, 216, 906, 907, 908, 909, 910, 911, 912, 913, 914, 915, 916, 917, 918, 919] (by decide +kernel) (by decide +kernel)
set_option maxRecDepth 20000 in
theorem gL_law_X9_linesOn : GoodIn wsL_law (wsV RL 174 RX9 yX9_linesOn wsX9_linesOn) := goodIn_app (goodIn_of _ (by decide +kernel)) ggL_law_X9_linesOn
set_option maxRecDepth 20000 in
theorem ggL_law_X8_widows : GoodIn wsL_law wsX8_widows := goodIn_r _ [699, 24, 360, 361, 362, 2, 363, 35, 20, 16, 364, 365, 366, 19, 367, 74, 70, 78, 368, 369, 370, 73, 371, 87, 85, 86, 372, 190, 191, 41, 192, 61, 373, 202, 203, 204, 374, 375, 376, 377, 378, 379, 380, 381, 382, 383, 384, 15, 385, 43, 44, 386, 387, 388, 389, 77, 390, 98, 391, 392, 393, 394, 395, 94, 396, 97, 397, 398, 399, 400, 401, 402, 403, 404, 405, 45, 49, 406, 407, 408, 409, 47, 410, 411, 412, 413, 414, 415, 416, 417, 95, 418, 419, 420, 421, 96, 422, 423, 424, 425, 69, 67, 68, 426, 427, 428, 429, 430, 23, 431, 107, 109, 105, 108, 106, 432, 433, 434, 435, 436, 437, 438, 439, 440, 441, 442, 443, 444, 445, 446, 447, 448, 700, 701, 702, 703, 704, 898, 899, 900, 901, 902, 903, 904, 905, 920, 921, 922, 923, 924, 925, 926, 927, 928, 929, 930, 931, 932, 933, 934, 935, 952, 953, 954, 955, 956, 949, 950, 951, 948, 936, 937, 938, 939, 940] (by decide +kernel) (by decide +kernel)
set_option maxRecDepth 20000 in
theorem gL_law_X8_widows : GoodIn wsL_law (wsV RL 175 RX8 yX8_widows wsX8_widows) := goodIn_app (goodIn_of _ (by decide +kernel)) ggL_law_X8_widows
set_option maxRecDepth 20000 in
theorem ggL_law_X9_widows : GoodIn wsL_law wsX9_widows := goodIn_r _ [708, 709, 659, 660, 5, 661, 216, 453, 454, 455, 456, 132, 457, 458, 459, 460, 136, 461, 462, 463, 464, 137, 465, 466, 467, 468, 469, 470, 471, 472, 140, 473, 474, 475, 476, 477, 478, 479, 138, 139, 480, 481, 482, 483, 484, 485, 486, 487, 488, 489, 490, 491, 492, 493, 494, 495, 496, 497, 498, 499, 500, 501, 502, 503, 504, 505, 506, 507, 662, 663, 664, 665, 141, 508, 509, 510, 511, 666, 667, 668, 669, 542, 543, 544, 545, 583, 584, 585, 586, 670, 671, 672, 673, 710, 711, 712, 713, 906, 907, 908, 909, 910, 911, 912, 913, 914, 915, 916, 917, 918, 919] (by decide +kernel) (by decide +kernel)
set_option maxRecDepth 20000 in
theorem gL_law_X9_widows : GoodIn wsL_law (wsV RL 178 RX9 yX9_widows wsX9_widows) := goodIn_app (goodIn_of _ (by decide +kernel)) ggL_law_X9_widows
set_option maxRecDepth 20000 in
theorem ggL_law_X8_orphans : GoodIn wsL_law wsX8_orphans := goodIn_r _ [717, 24, 360, 361, 362, 2, 363, 35, 20, 16, 364, 365, 366, 19, 367, 74, 70, 78, 368, 369, 370, 73, 371, 87, 85, 86, 372, 190, 191, 41, 192, 61, 373, 202, 203, 204, 374, 375, 376, 377, 378, 379, 380, 381, 382, 383, 384, 15, 385, 43, 44, 386, 387, 388, 389, 77, 390, 98, 391, 392, 393, 394, 395, 94, 396, 97, 397, 398, 399, 400, 401, 402, 403, 404, 405, 45, 49, 406, 407, 408, 409, 47, 410, 411, 412, 413, 414, 415, 416, 417, 95, 418, 419, 420, 421, 96, 422, 423, 424, 425, 69, 67, 68, 426, 427, 428, 429, 430, 23, 431, 107, 109, 105, 108, 106, 432, 433, 434, 435, 436, 437, 438, 439, 440, 441, 442, 443, 444, 445, 446, 447, 448, 718, 719, 720, 721, 704, 898, 899, 900, 901, 902, 903, 904, 905, 920, 921, 922, 923, 924, 925, 926, 927, 928, 929, 930, 931, 932, 933, 934, 935, 952, 953, 954, 955, 956, 949, 950, 951, 948, 936, 937, 938, 939, 940] (by decide +kernel) (by decide +kernel)
set_option maxRecDepth 20000 in
theorem gL_law_X8_orphans : GoodIn wsL_law (wsV RL 179 RX8 yX8_orphans wsX8_orphans) := goodIn_app (goodIn_of _ (by decide +kernel)) ggL_law_X8_orphans
set_option maxRecDepth 20000 in
theorem ggL_law_X9_orphans : GoodIn wsL_law wsX9_orphans := goodIn_r _ [725, 709, 659, 660, 5, 661, 216, 453, 454, 455, 456, 132, 457, 458, 459, 460, 136, 461, 462, 463, 464, 137, 465, 466, 467, 468, 469, 470, 471, 472, 140, 473, 474, 475, 476, 477, 478, 479, 138, 139, 480, 481, 482, 483, 484, 485, 486, 487, 488, 489, 490, 491, 492, 493, 494, 495, 496, 497, 498, 499, 500, 501, 502, 503, 504, 505, 506, 507, 662, 663, 664, 665, 141, 508, 509, 510, 511, 666, 667, 668, 669, 542, 543, 544, 545, 583, 584, 585, 586, 670, 671, 672, 673, 710, 711, 712, 713, 906, 907, 908, 909, 910, 911, 912, 913, 914, 915, 916, 917, 918, 919] (by decide +kernel) (by decide +kernel)
set_option maxRecDepth 20000 in
theorem gL_law_X9_orphans : GoodIn wsL_law (wsV RL 182 RX9 yX9_orphans wsX9_orphans) := goodIn_app (goodIn_of _ (by decide +kernel)) ggL_law_X9_orphans
set_option maxRecDepth 20000 in
theorem ggL_law_L_costFor : GoodIn wsL_law wsL_costFor := goodIn_ca (goodIn_r _ [728, 147, 729, 730, 731, 2, 732, 25, 16, 26, 160, 161, 162, 163, 164, 733, 182, 183, 15, 184, 42, 43, 44, 45, 46, 47, 48, 49, 50, 51, 185, 186, 187, 41, 188, 61, 189, 190, 191, 192, 364, 365, 366, 19, 367, 74, 70, 78, 368, 369, 370, 73, 371, 87, 85, 86, 372, 373, 202, 203, 204, 374, 375, 376, 377, 378, 379, 380, 381, 382, 383, 384, 385, 386, 387, 388, 389, 77, 390, 98, 391, 392, 393, 394, 395, 94, 396, 97, 397, 398, 399, 400, 401, 402, 403, 404, 405, 406, 407, 408, 409, 410, 411, 412, 413, 414, 415, 416, 417, 95, 418, 419, 420, 421, 96, 422, 423, 424, 425, 69, 67, 68, 426, 427, 644, 645, 646, 647, 573, 554, 555, 556, 557, 441, 442, 443, 444, 437, 438, 439, 440, 648, 649, 631, 570, 571, 572, 574, 898, 899, 900, 901, 902, 903, 904, 905, 920, 921, 922, 923, 924, 925, 926, 927, 928, 929, 948, 930, 931, 932, 933, 934, 935, 952, 953, 954, 955, 956, 949, 950, 951] (by decide +kernel) (by decide +kernel)) (goodIn_sub (fun _ h => List.mem_append_right _ h) (by decide +kernel))
set_option maxRecDepth 20000 in
theorem gL_law_L_costFor : GoodIn wsL_law (va_wsS RL 183 yL_costFor wsL_costFor) := goodIn_app (goodIn_of _ (by decide +kernel)) ggL_law_L_costFor
set_option maxRecDepth 20000 in
theorem ggL_law_X9_costFor : GoodIn wsL_law wsX9_costFor := goodIn_r _ [737, 209, 210, 5, 211, 212, 213, 214, 215, 216, 457, 458, 459, 460, 136, 132, 461, 462, 463, 464, 137, 465, 466, 467, 468, 469, 470, 471, 472, 140, 473, 474, 475, 476, 477, 478, 479, 138, 139, 480, 481, 482, 483, 484, 485, 486, 487, 488, 489, 490, 491, 492, 493, 494, 495, 496, 497, 498, 499, 500, 501, 502, 503, 504, 505, 506, 507, 906, 907, 908, 909, 910, 911, 912, 913, 914, 915, 916, 917, 918, 919] (by decide +kernel) (by decide +kernel)
set_option maxRecDepth 20000 in
theorem gL_law_X9_costFor : GoodIn wsL_law (wsV RL 186 RX9 yX9_costFor wsX9_costFor) := goodIn_app (goodIn_of _ (by decide +kernel)) ggL_law_X9_costFor
set_option maxRecDepth 20000 in
theorem ggL_law_L_bestColumn : GoodIn wsL_law wsL_bestColumn := goodIn_ca (goodIn_r _ [740, 147, 741, 742, 743, 2, 744, 25, 16, 745, 26, 160, 161, 162, 163, 164, 733, 182, 183, 15, 184, 42, 43, 44, 45, 46, 47, 48, 49, 50, 51, 185, 186, 187, 41, 188, 61, 189, 190, 191, 192, 364, 365, 366, 19, 367, 74, 70, 78, 368, 369, 370, 73, 371, 87, 85, 86, 372, 373, 202, 203, 204, 374, 375, 376, 377, 378, 379, 380, 381, 382, 383, 384, 385, 386, 387, 388, 389, 77, 390, 98, 391, 392, 393, 394, 395, 94, 396, 97, 397, 398, 399, 400, 401, 402, 403, 404, 405, 406, 407, 408, 409, 410, 411, 412, 413, 414, 415, 416, 417, 95, 418, 419, 420, 421, 96, 422, 423, 424, 425, 69, 67, 68, 426, 427, 644, 645, 646, 647, 573, 554, 555, 556, 557, 441, 442, 443, 444, 437, 438, 439, 440, 648, 649, 631, 570, 571, 572, 574, 898, 899, 900, 901, 902, 903, 904, 905, 920, 921, 922, 923, 924, 925, 926, 927, 928, 929, 948, 930, 931, 932, 933, 934, 935, 952, 953, 954, 955, 956, 949, 950, 951] (by decide +kernel) (by decide +kernel)) (goodIn_sub (fun _ h => List.mem_append_right _ h) (by decide +kernel))
set_option maxRecDepth 20000 in
theorem gL_law_L_bestColumn : GoodIn wsL_law (va_wsS RL 187 yL_bestColumn wsL_bestColumn) := goodIn_app (goodIn_of _ (by decide +kernel)) ggL_law_L_bestColumn
set_option maxRecDepth 20000 in
theorem ggL_law_X9_bestColumn : GoodIn wsL_law wsX9_bestColumn := goodIn_r _ [749, 209, 210, 5, 211, 212, 213, 214, 215, 216, 457, 458, 459, 460, 136, 132, 461, 462, 463, 464, 137, 465, 466, 467, 468, 469, 470, 471, 472, 140, 473, 474, 475, 476, 477, 478, 479, 138, 139, 480, 481, 482, 483, 484, 485, 486, 487, 488, 489, 490, 491, 492, 493, 494, 495, 496, 497, 498, 499, 500, 501, 502, 503, 504, 505, 506, 507, 906, 907, 908, 909, 910, 911, 912, 913, 914, 915, 916, 917, 918, 919] (by decide +kernel) (by decide +kernel)
set_option maxRecDepth 20000 in
theorem gL_law_X9_bestColumn : GoodIn wsL_law (wsV RL 189 RX9 yX9_bestColumn wsX9_bestColumn) := goodIn_app (goodIn_of _ (by decide +kernel)) ggL_law_X9_bestColumn
set_option maxRecDepth 20000 in
theorem ggL_law_X8_saving : GoodIn wsL_law wsX8_saving := goodIn_r _ [753, 25, 16, 26, 733, 182, 183, 15, 184, 42, 43, 44, 45, 46, 47, 48, 49, 50, 51, 185, 186, 187, 41, 188, 61, 189, 190, 191, 192, 364, 365, 366, 19, 367, 74, 70, 78, 368, 369, 370, 73, 371, 87, 85, 86, 372, 373, 202, 203, 204, 374, 375, 376, 377, 378, 379, 380, 381, 382, 383, 384, 385, 386, 387, 388, 389, 77, 390, 98, 391, 392, 393, 394, 395, 94, 396, 97, 397, 398, 399, 400, 401, 402, 403, 404, 405, 406, 407, 408, 409, 410, 411, 412, 413, 414, 415, 416, 417, 95, 418, 419, 420, 421, 96, 422, 423, 424, 425, 69, 67, 68, 426, 427, 644, 645, 646, 647, 573, 554, 555, 556, 557, 441, 442, 443, 444, 437, 438, 439, 440, 648, 649, 631, 570, 571, 572, 574, 898, 899, 900, 901, 902, 903, 904, 905, 920, 921, 922, 923, 924, 925, 926, 927, 928, 929, 948, 930, 931, 932, 933, 934, 935, 952, 953, 954, 955, 956, 949, 950, 951] (by decide +kernel) (by decide +kernel)
set_option maxRecDepth 20000 in
theorem gL_law_X8_saving : GoodIn wsL_law (wsV RL 190 RX8 yX8_saving wsX8_saving) := goodIn_app (goodIn_of _ (by decide +kernel)) ggL_law_X8_saving
set_option maxRecDepth 20000 in
theorem ggL_law_X9_saving : GoodIn wsL_law wsX9_saving := goodIn_r _ [757, 216, 132, 457, 458, 459, 5, 460, 136, 461, 462, 463, 464, 137, 465, 466, 467, 468, 469, 470, 471, 472, 140, 473, 474, 475, 476, 477, 478, 479, 138, 139, 480, 481, 482, 483, 484, 485, 486, 487, 488, 489, 490, 491, 492, 493, 494, 495, 496, 497, 498, 499, 500, 501, 502, 503, 504, 505, 506, 507, 906, 907, 908, 909, 910, 911, 912, 913, 914, 915, 916, 917, 918, 919] (by decide +kernel) (by decide +kernel)
set_option maxRecDepth 20000 in
theorem gL_law_X9_saving : GoodIn wsL_law (wsV RL 193 RX9 yX9_saving wsX9_saving) := goodIn_app (goodIn_of _ (by decide +kernel)) ggL_law_X9_saving
set_option maxRecDepth 20000 in
theorem ggL_law_L_costIfMarked : GoodIn wsL_law wsL_costIfMarked := goodIn_ca (goodIn_ca (goodIn_r _ [760, 146, 147, 761, 762, 763, 2, 764, 16, 25, 26, 155, 156, 157, 158, 159, 160, 161, 162, 163, 164, 733, 182, 183, 15, 184, 42, 43, 44, 45, 46, 47, 48, 49, 50, 51, 185, 186, 187, 41, 188, 61, 189, 190, 191, 192, 265, 202, 203, 204, 364, 365, 366, 19, 367, 74, 70, 78, 368, 369, 370, 73, 371, 87, 85, 86, 372, 373, 374, 375, 376, 377, 378, 379, 380, 381, 382, 383, 384, 385, 386, 387, 388, 389, 77, 390, 98, 391, 392, 393, 394, 395, 94, 396, 97, 397, 398, 399, 400, 401, 402, 403, 404, 405, 406, 407, 408, 409, 410, 411, 412, 413, 414, 415, 416, 417, 95, 418, 419, 420, 421, 96, 422, 423, 424, 425, 69, 67, 68, 426, 427, 644, 645, 646, 647, 573, 554, 555, 556, 557, 441, 442, 443, 444, 437, 438, 439, 440, 648, 649, 631, 570, 571, 572, 574, 898, 899, 900, 901, 902, 903, 904, 905, 920, 921, 922, 923, 924, 925, 926, 927, 928, 929, 948, 930, 931, 932, 933, 934, 935, 952, 953, 954, 955, 956, 949, 950, 951] (by decide +kernel) (by decide +kernel)) (goodIn_sub (fun _ h => List.mem_append_left _ (List.mem_append_right _ h)) (by decide +kernel))) (goodIn_sub (fun _ h => List.mem_append_right _ h) (by decide +kernel))
set_option maxRecDepth 20000 in
theorem gL_law_L_costIfMarked : GoodIn wsL_law (va_wsS RL 194 yL_costIfMarked wsL_costIfMarked) := goodIn_app (goodIn_of _ (by decide +kernel)) ggL_law_L_costIfMarked
set_option maxRecDepth 20000 in
theorem ggL_law_X9_costIfMarked : GoodIn wsL_law wsX9_costIfMarked := goodIn_r _ [768, 132, 254, 255, 256, 5, 257, 209, 210, 211, 212, 213, 214, 215, 216, 453, 454, 455, 456, 457, 458, 459, 460, 136, 461, 462, 463, 464, 137, 465, 466, 467, 468, 469, 470, 471, 472, 140, 473, 474, 475, 476, 477, 478, 479, 138, 139, 480, 481, 482, 483, 484, 485, 486, 487, 488, 489, 490, 491, 492, 493, 494, 495, 496, 497, 498, 499, 500, 501, 502, 503, 504, 505, 506, 507, 906, 907, 908, 909, 910, 911, 912, 913, 914, 915, 916, 917, 918, 919] (by decide +kernel) (by decide +kernel)
set_option maxRecDepth 20000 in
theorem gL_law_X9_costIfMarked : GoodIn wsL_law (wsV RL 196 RX9 yX9_costIfMarked wsX9_costIfMarked) := goodIn_app (goodIn_of _ (by decide +kernel)) ggL_law_X9_costIfMarked
set_option maxRecDepth 20000 in
theorem ggL_law_L_append : GoodIn wsL_law wsL_append := goodIn_ca (goodIn_ca (goodIn_r _ [771, 147, 148, 772, 773, 774, 2, 775, 153, 154, 30, 160, 161, 162, 163, 164, 776, 777, 778, 29, 779, 118, 115, 780, 202, 203, 41, 204, 61, 898, 899, 900, 901, 902, 903, 904, 905, 941, 942, 943, 944, 945, 948] (by decide +kernel) (by decide +kernel)) (goodIn_sub (fun _ h => List.mem_append_left _ (List.mem_append_left _ (List.mem_append_right _ h))) (by decide +kernel))) (goodIn_sub (fun _ h => List.mem_append_right _ h) (by decide +kernel))
set_option maxRecDepth 20000 in
theorem gL_law_L_append : GoodIn wsL_law (va_wsS RL 197 yL_append wsL_append) := goodIn_app (goodIn_of _ (by decide +kernel)) ggL_law_L_append
set_option maxRecDepth 20000 in
theorem ggL_law_X9_append : GoodIn wsL_law wsX9_append := goodIn_r _ [784, 785, 134, 209, 210, 5, 211, 212, 213, 214, 215, 216, 906, 907, 908, 909, 910, 911, 912, 913, 914, 915, 916, 917, 918, 919] (by decide +kernel) (by decide +kernel)
set_option maxRecDepth 20000 in
theorem gL_law_X9_append : GoodIn wsL_law (wsV RL 199 RX9 yX9_append wsX9_append) := goodIn_app (goodIn_of _ (by decide +kernel)) ggL_law_X9_append
set_option maxRecDepth 20000 in
theorem ggL_law_X8_clearText : GoodIn wsL_law wsX8_clearText := goodIn_r _ [789, 30, 898, 899, 900, 901, 902, 903, 904, 905, 941, 942, 943, 944, 945] (by decide +kernel) (by decide +kernel)
set_option maxRecDepth 20000 in
theorem gL_law_X8_clearText : GoodIn wsL_law (wsV RL 200 RX8 yX8_clearText wsX8_clearText) := goodIn_app (goodIn_of _ (by decide +kernel)) ggL_law_X8_clearText
set_option maxRecDepth 20000 in
theorem ggL_law_X9_clearText : GoodIn wsL_law wsX9_clearText := goodIn_r _ [793, 216, 785, 906, 907, 908, 909, 910, 911, 912, 913, 914, 915, 916, 917, 918, 919] (by decide +kernel) (by decide +kernel)
set_option maxRecDepth 20000 in
theorem gL_law_X9_clearText : GoodIn wsL_law (wsV RL 203 RX9 yX9_clearText wsX9_clearText) := goodIn_app (goodIn_of _ (by decide +kernel)) ggL_law_X9_clearText
set_option maxRecDepth 20000 in
theorem ggL_law_X8_firstError : GoodIn wsL_law wsX8_firstError := goodIn_r _ [797, 30, 798, 799, 800, 29, 801, 118, 115, 802, 803, 804, 805, 119, 116, 117, 780, 202, 203, 41, 204, 61, 806, 190, 191, 192, 807, 808, 809, 810, 811, 812, 813, 814, 815, 816, 817, 818, 819, 820, 821, 822, 898, 899, 900, 901, 902, 903, 904, 905, 941, 942, 943, 944, 945, 948] (by decide +kernel) (by decide +kernel)
set_option maxRecDepth 20000 in
theorem gL_law_X8_firstError : GoodIn wsL_law (wsV RL 204 RX8 yX8_firstError wsX8_firstError) := goodIn_app (goodIn_of _ (by decide +kernel)) ggL_law_X8_firstError
set_option maxRecDepth 20000 in
theorem ggL_law_X9_firstError : GoodIn wsL_law wsX9_firstError := goodIn_r _ [826, 216, 827, 828, 829, 830, 5, 831, 785, 134, 832, 833, 834, 835, 836, 837, 838, 839, 840, 841, 209, 210, 211, 906, 907, 908, 909, 910, 911, 912, 913, 914, 915, 916, 917, 918, 919] (by decide +kernel) (by decide +kernel)
set_option maxRecDepth 20000 in
theorem gL_law_X9_firstError : GoodIn wsL_law (wsV RL 207 RX9 yX9_firstError wsX9_firstError) := goodIn_app (goodIn_of _ (by decide +kernel)) ggL_law_X9_firstError
set_option maxRecDepth 20000 in
theorem ggL_law_L_load : GoodIn wsL_law wsL_load := goodIn_ca (goodIn_ca (goodIn_r _ [844, 147, 148, 845, 846, 847, 2, 848, 163, 164, 153, 154, 30, 16, 798, 799, 800, 29, 801, 118, 115, 802, 803, 804, 805, 119, 116, 117, 780, 202, 203, 41, 204, 61, 806, 190, 191, 192, 807, 808, 809, 810, 811, 812, 813, 814, 815, 816, 817, 818, 819, 820, 821, 822, 849, 850, 851, 852, 853, 165, 166, 167, 168, 34, 35, 169, 170, 171, 33, 172, 127, 126, 173, 174, 175, 176, 177, 178, 179, 180, 181, 182, 183, 15, 184, 42, 43, 44, 45, 46, 47, 48, 49, 50, 51, 185, 186, 187, 188, 189, 241, 193, 194, 195, 196, 197, 198, 199, 200, 201, 898, 899, 900, 901, 902, 903, 904, 905, 941, 942, 943, 944, 945, 920, 921, 922, 923, 924, 925, 926, 927, 928, 929, 948, 946, 947] (by decide +kernel) (by decide +kernel)) (goodIn_sub (fun _ h => List.mem_append_right _ h) (by decide +kernel))) (goodIn_sub (fun _ h => List.mem_append_left _ (List.mem_append_left _ (List.mem_append_right _ h))) (by decide +kernel))
set_option maxRecDepth 20000 in
theorem gL_law_L_load : GoodIn wsL_law (va_wsS RL 208 yL_load wsL_load) := goodIn_app (goodIn_of _ (by decide +kernel)) ggL_law_L_load
set_option maxRecDepth 20000 in
theorem ggL_law_X9_load : GoodIn wsL_law wsX9_load := goodIn_r _ [857, 132, 827, 837, 836, 785, 828, 829, 830, 5, 831, 134, 832, 833, 834, 835, 838, 839, 840, 841, 209, 210, 211, 212, 213, 214, 215, 216, 217, 218, 219, 220, 221, 222, 223, 224, 225, 226, 227, 228, 229, 906, 907, 908, 909, 910, 911, 912, 913, 914, 915, 916, 917, 918, 919] (by decide +kernel) (by decide +kernel)
set_option maxRecDepth 20000 in
theorem gL_law_X9_load : GoodIn wsL_law (wsV RL 211 RX9 yX9_load wsX9_load) := goodIn_app (goodIn_of _ (by decide +kernel)) ggL_law_X9_load
set_option maxRecDepth 20000 in
theorem ggL_law_L_undo : GoodIn wsL_law wsL_undo := goodIn_ca (goodIn_r _ [860, 148, 861, 862, 863, 2, 864, 153, 154, 34, 16, 35, 865, 866, 867, 33, 868, 127, 177, 178, 179, 180, 126, 181, 182, 183, 15, 184, 42, 43, 44, 45, 46, 47, 48, 49, 50, 51, 185, 186, 187, 41, 188, 61, 189, 190, 191, 192, 898, 899, 900, 901, 902, 903, 904, 905, 946, 947, 920, 921, 922, 923, 924, 925, 926, 927, 928, 929, 948] (by decide +kernel) (by decide +kernel)) (goodIn_sub (fun _ h => List.mem_append_left _ (List.mem_append_left _ (List.mem_append_right _ h))) (by decide +kernel))
set_option maxRecDepth 20000 in
theorem gL_law_L_undo : GoodIn wsL_law (va_wsS RL 212 yL_undo wsL_undo) := goodIn_app (goodIn_of _ (by decide +kernel)) ggL_law_L_undo
set_option maxRecDepth 20000 in
theorem ggL_law_X9_undo : GoodIn wsL_law wsX9_undo := goodIn_r _ [872, 221, 212, 213, 214, 5, 215, 216, 222, 223, 224, 225, 132, 906, 907, 908, 909, 910, 911, 912, 913, 914, 915, 916, 917, 918, 919] (by decide +kernel) (by decide +kernel)
set_option maxRecDepth 20000 in
theorem gL_law_X9_undo : GoodIn wsL_law (wsV RL 214 RX9 yX9_undo wsX9_undo) := goodIn_app (goodIn_of _ (by decide +kernel)) ggL_law_X9_undo
set_option maxRecDepth 20000 in
theorem ggL_law_X8_savedStates : GoodIn wsL_law wsX8_savedStates := goodIn_r _ [876, 34, 898, 899, 900, 901, 902, 903, 904, 905, 946, 947] (by decide +kernel) (by decide +kernel)
set_option maxRecDepth 20000 in
theorem gL_law_X8_savedStates : GoodIn wsL_law (wsV RL 215 RX8 yX8_savedStates wsX8_savedStates) := goodIn_app (goodIn_of _ (by decide +kernel)) ggL_law_X8_savedStates
set_option maxRecDepth 20000 in
theorem ggL_law_X9_savedStates : GoodIn wsL_law wsX9_savedStates := goodIn_r _ [880, 216, 221, 906, 907, 908, 909, 910, 911, 912, 913, 914, 915, 916, 917, 918, 919] (by decide +kernel) (by decide +kernel)
set_option maxRecDepth 20000 in
theorem gL_law_X9_savedStates : GoodIn wsL_law (wsV RL 218 RX9 yX9_savedStates wsX9_savedStates) := goodIn_app (goodIn_of _ (by decide +kernel)) ggL_law_X9_savedStates
set_option maxRecDepth 20000 in
theorem ggL_law_X8_digest : GoodIn wsL_law wsX8_digest := goodIn_r _ [884, 885, 16, 20, 24, 360, 361, 362, 2, 363, 35, 364, 365, 366, 19, 367, 74, 70, 78, 368, 369, 370, 73, 371, 87, 85, 86, 372, 190, 191, 41, 192, 61, 373, 202, 203, 204, 374, 375, 376, 377, 378, 379, 380, 381, 382, 383, 384, 15, 385, 43, 44, 386, 387, 388, 389, 77, 390, 98, 391, 392, 393, 394, 395, 94, 396, 97, 397, 398, 399, 400, 401, 402, 403, 404, 405, 45, 49, 406, 407, 408, 409, 47, 410, 411, 412, 413, 414, 415, 416, 417, 95, 418, 419, 420, 421, 96, 422, 423, 424, 425, 69, 67, 68, 426, 427, 428, 429, 430, 23, 431, 107, 109, 105, 108, 106, 432, 433, 434, 435, 436, 437, 438, 439, 440, 441, 442, 443, 444, 445, 446, 447, 448, 886, 887, 888, 889, 610, 611, 612, 613, 614, 627, 628, 629, 630, 631, 570, 571, 572, 573, 554, 555, 556, 557, 574, 644, 645, 646, 647, 648, 649, 700, 701, 702, 703, 704, 718, 719, 720, 721, 890, 751, 752, 753, 25, 26, 733, 182, 183, 184, 42, 46, 48, 50, 51, 185, 186, 187, 188, 189, 241, 594, 595, 596, 597, 553, 898, 899, 900, 901, 902, 903, 904, 905, 920, 921, 922, 923, 924, 925, 926, 927, 928, 929, 930, 931, 932, 933, 934, 935, 936, 937, 938, 939, 940, 952, 953, 954, 955, 956, 949, 950, 951, 948] (by decide +kernel) (by decide +kernel)
set_option maxRecDepth 20000 in
theorem gL_law_X8_digest : GoodIn wsL_law (wsV RL 219 RX8 yX8_digest wsX8_digest) := goodIn_app (goodIn_of _ (by decide +kernel)) ggL_law_X8_digest
set_option maxRecDepth 20000 in
theorem ggL_law_X9_digest : GoodIn wsL_law wsX9_digest := goodIn_r _ [894, 895, 896, 132, 141, 897, 755, 756, 5, 757, 216, 457, 458, 459, 460, 136, 461, 462, 463, 464, 137, 465, 466, 467, 468, 469, 470, 471, 472, 140, 473, 474, 475, 476, 477, 478, 479, 138, 139, 480, 481, 482, 483, 484, 485, 486, 487, 488, 489, 490, 491, 492, 493, 494, 495, 496, 497, 498, 499, 500, 501, 502, 503, 504, 505, 506, 507, 453, 454, 455, 456, 662, 663, 664, 665, 508, 509, 510, 511, 666, 667, 668, 669, 542, 543, 544, 545, 583, 584, 585, 586, 670, 671, 672, 673, 619, 620, 621, 622, 636, 637, 638, 639, 579, 580, 581, 582, 710, 711, 712, 713, 523, 524, 525, 526, 602, 603, 604, 605, 906, 907, 908, 909, 910, 911, 912, 913, 914, 915, 916, 917, 918, 919] (by decide +kernel) (by decide +kernel)
set_option maxRecDepth 20000 in
theorem gL_law_X9_digest : GoodIn wsL_law (wsV RL 223 RX9 yX9_digest wsX9_digest) := goodIn_app (goodIn_of _ (by decide +kernel)) ggL_law_X9_digest
