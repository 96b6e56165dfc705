/-! ===== the law's and its helpers' instructions ===== -/
theorem dL_at_0 : decode cL_at 0 = .ok (.iload_n 1, 1) := by decide +kernel
theorem dL_at_1 : decode cL_at 1 = .ok (.aload_n 0, 1) := by decide +kernel
theorem dL_at_2 : decode cL_at 2 = .ok (.arraylength, 1) := by decide +kernel
theorem dL_at_3 : decode cL_at 3 = .ok (.if_icmp .ge 9, 3) := by decide +kernel
theorem dL_at_6 : decode cL_at 6 = .ok (.aload_n 0, 1) := by decide +kernel
theorem dL_at_7 : decode cL_at 7 = .ok (.iload_n 1, 1) := by decide +kernel
theorem dL_at_8 : decode cL_at 8 = .ok (.iaload, 1) := by decide +kernel
theorem dL_at_9 : decode cL_at 9 = .ok (.goto 12, 3) := by decide +kernel
theorem dL_at_12 : decode cL_at 12 = .ok (.ldc 7, 2) := by decide +kernel
theorem dL_at_14 : decode cL_at 14 = .ok (.iload_n 1, 1) := by decide +kernel
theorem dL_at_15 : decode cL_at 15 = .ok (.iconst 1, 1) := by decide +kernel
theorem dL_at_16 : decode cL_at 16 = .ok (.iadd, 1) := by decide +kernel
theorem dL_at_17 : decode cL_at 17 = .ok (.imul, 1) := by decide +kernel
theorem dL_at_18 : decode cL_at 18 = .ok (.ldc 8, 2) := by decide +kernel
theorem dL_at_20 : decode cL_at 20 = .ok (.iadd, 1) := by decide +kernel
theorem dL_at_21 : decode cL_at 21 = .ok (.ireturn, 1) := by decide +kernel
theorem dL_low_0 : decode cL_low 0 = .ok (.iload_n 0, 1) := by decide +kernel
theorem dL_low_1 : decode cL_low 1 = .ok (.ldc 9, 2) := by decide +kernel
theorem dL_low_3 : decode cL_low 3 = .ok (.iand, 1) := by decide +kernel
theorem dL_low_4 : decode cL_low 4 = .ok (.iload_n 1, 1) := by decide +kernel
theorem dL_low_5 : decode cL_low 5 = .ok (.irem, 1) := by decide +kernel
theorem dL_low_6 : decode cL_low 6 = .ok (.ireturn, 1) := by decide +kernel
theorem dL_insert_0 : decode cL_insert 0 = .ok (.aload_n 0, 1) := by decide +kernel
theorem dL_insert_1 : decode cL_insert 1 = .ok (.iload_n 1, 1) := by decide +kernel
theorem dL_insert_2 : decode cL_insert 2 = .ok (.iload_n 2, 1) := by decide +kernel
theorem dL_insert_3 : decode cL_insert 3 = .ok (.invokevirtual 10, 3) := by decide +kernel
theorem dL_insert_6 : decode cL_insert 6 = .ok (.ireturn, 1) := by decide +kernel
theorem dL_insert_7 : decode cL_insert 7 = .ok (.astore_n 3, 1) := by decide +kernel
theorem dL_insert_8 : decode cL_insert 8 = .ok (.ldc 18, 2) := by decide +kernel
theorem dL_insert_10 : decode cL_insert 10 = .ok (.ireturn, 1) := by decide +kernel
theorem dL_insert_11 : decode cL_insert 11 = .ok (.astore_n 3, 1) := by decide +kernel
theorem dL_insert_12 : decode cL_insert 12 = .ok (.ldc 21, 2) := by decide +kernel
theorem dL_insert_14 : decode cL_insert 14 = .ok (.ireturn, 1) := by decide +kernel
theorem dL_insert_15 : decode cL_insert 15 = .ok (.astore_n 3, 1) := by decide +kernel
theorem dL_insert_16 : decode cL_insert 16 = .ok (.ldc 24, 2) := by decide +kernel
theorem dL_insert_18 : decode cL_insert 18 = .ok (.ireturn, 1) := by decide +kernel
theorem dL_remove_0 : decode cL_remove 0 = .ok (.aload_n 0, 1) := by decide +kernel
theorem dL_remove_1 : decode cL_remove 1 = .ok (.iload_n 1, 1) := by decide +kernel
theorem dL_remove_2 : decode cL_remove 2 = .ok (.invokevirtual 25, 3) := by decide +kernel
theorem dL_remove_5 : decode cL_remove 5 = .ok (.ireturn, 1) := by decide +kernel
theorem dL_remove_6 : decode cL_remove 6 = .ok (.astore_n 2, 1) := by decide +kernel
theorem dL_remove_7 : decode cL_remove 7 = .ok (.ldc 18, 2) := by decide +kernel
theorem dL_remove_9 : decode cL_remove 9 = .ok (.ireturn, 1) := by decide +kernel
theorem dL_setMark_0 : decode cL_setMark 0 = .ok (.aload_n 0, 1) := by decide +kernel
theorem dL_setMark_1 : decode cL_setMark 1 = .ok (.iload_n 1, 1) := by decide +kernel
theorem dL_setMark_2 : decode cL_setMark 2 = .ok (.iload_n 2, 1) := by decide +kernel
theorem dL_setMark_3 : decode cL_setMark 3 = .ok (.invokevirtual 29, 3) := by decide +kernel
theorem dL_setMark_6 : decode cL_setMark 6 = .ok (.ireturn, 1) := by decide +kernel
theorem dL_setMark_7 : decode cL_setMark 7 = .ok (.astore_n 3, 1) := by decide +kernel
theorem dL_setMark_8 : decode cL_setMark 8 = .ok (.ldc 18, 2) := by decide +kernel
theorem dL_setMark_10 : decode cL_setMark 10 = .ok (.ireturn, 1) := by decide +kernel
theorem dL_setMark_11 : decode cL_setMark 11 = .ok (.astore_n 3, 1) := by decide +kernel
theorem dL_setMark_12 : decode cL_setMark 12 = .ok (.ldc 21, 2) := by decide +kernel
theorem dL_setMark_14 : decode cL_setMark 14 = .ok (.ireturn, 1) := by decide +kernel
theorem dL_wordWidth_0 : decode cL_wordWidth 0 = .ok (.aload_n 0, 1) := by decide +kernel
theorem dL_wordWidth_1 : decode cL_wordWidth 1 = .ok (.iload_n 1, 1) := by decide +kernel
theorem dL_wordWidth_2 : decode cL_wordWidth 2 = .ok (.invokevirtual 32, 3) := by decide +kernel
theorem dL_wordWidth_5 : decode cL_wordWidth 5 = .ok (.ireturn, 1) := by decide +kernel
theorem dL_wordWidth_6 : decode cL_wordWidth 6 = .ok (.astore_n 2, 1) := by decide +kernel
theorem dL_wordWidth_7 : decode cL_wordWidth 7 = .ok (.ldc 18, 2) := by decide +kernel
theorem dL_wordWidth_9 : decode cL_wordWidth 9 = .ok (.ireturn, 1) := by decide +kernel
theorem dL_mark_0 : decode cL_mark 0 = .ok (.aload_n 0, 1) := by decide +kernel
theorem dL_mark_1 : decode cL_mark 1 = .ok (.iload_n 1, 1) := by decide +kernel
theorem dL_mark_2 : decode cL_mark 2 = .ok (.invokevirtual 35, 3) := by decide +kernel
theorem dL_mark_5 : decode cL_mark 5 = .ok (.ireturn, 1) := by decide +kernel
theorem dL_mark_6 : decode cL_mark 6 = .ok (.astore_n 2, 1) := by decide +kernel
theorem dL_mark_7 : decode cL_mark 7 = .ok (.ldc 18, 2) := by decide +kernel
theorem dL_mark_9 : decode cL_mark 9 = .ok (.ireturn, 1) := by decide +kernel
theorem dL_setColumn_0 : decode cL_setColumn 0 = .ok (.aload_n 0, 1) := by decide +kernel
theorem dL_setColumn_1 : decode cL_setColumn 1 = .ok (.iload_n 1, 1) := by decide +kernel
theorem dL_setColumn_2 : decode cL_setColumn 2 = .ok (.invokevirtual 38, 3) := by decide +kernel
theorem dL_setColumn_5 : decode cL_setColumn 5 = .ok (.ireturn, 1) := by decide +kernel
theorem dL_setColumn_6 : decode cL_setColumn 6 = .ok (.astore_n 2, 1) := by decide +kernel
theorem dL_setColumn_7 : decode cL_setColumn 7 = .ok (.ldc 18, 2) := by decide +kernel
theorem dL_setColumn_9 : decode cL_setColumn 9 = .ok (.ireturn, 1) := by decide +kernel
theorem dL_setSpace_0 : decode cL_setSpace 0 = .ok (.aload_n 0, 1) := by decide +kernel
theorem dL_setSpace_1 : decode cL_setSpace 1 = .ok (.iload_n 1, 1) := by decide +kernel
theorem dL_setSpace_2 : decode cL_setSpace 2 = .ok (.invokevirtual 41, 3) := by decide +kernel
theorem dL_setSpace_5 : decode cL_setSpace 5 = .ok (.ireturn, 1) := by decide +kernel
theorem dL_setSpace_6 : decode cL_setSpace 6 = .ok (.astore_n 2, 1) := by decide +kernel
theorem dL_setSpace_7 : decode cL_setSpace 7 = .ok (.ldc 18, 2) := by decide +kernel
theorem dL_setSpace_9 : decode cL_setSpace 9 = .ok (.ireturn, 1) := by decide +kernel
theorem dL_setPenalties_0 : decode cL_setPenalties 0 = .ok (.aload_n 0, 1) := by decide +kernel
theorem dL_setPenalties_1 : decode cL_setPenalties 1 = .ok (.iload_n 1, 1) := by decide +kernel
theorem dL_setPenalties_2 : decode cL_setPenalties 2 = .ok (.iload_n 2, 1) := by decide +kernel
theorem dL_setPenalties_3 : decode cL_setPenalties 3 = .ok (.iload_n 3, 1) := by decide +kernel
theorem dL_setPenalties_4 : decode cL_setPenalties 4 = .ok (.invokevirtual 44, 3) := by decide +kernel
theorem dL_setPenalties_7 : decode cL_setPenalties 7 = .ok (.ireturn, 1) := by decide +kernel
theorem dL_setPenalties_8 : decode cL_setPenalties 8 = .ok (.astore 4, 2) := by decide +kernel
theorem dL_setPenalties_10 : decode cL_setPenalties 10 = .ok (.ldc 18, 2) := by decide +kernel
theorem dL_setPenalties_12 : decode cL_setPenalties 12 = .ok (.ireturn, 1) := by decide +kernel
theorem dL_setPage_0 : decode cL_setPage 0 = .ok (.aload_n 0, 1) := by decide +kernel
theorem dL_setPage_1 : decode cL_setPage 1 = .ok (.iload_n 1, 1) := by decide +kernel
theorem dL_setPage_2 : decode cL_setPage 2 = .ok (.invokevirtual 48, 3) := by decide +kernel
theorem dL_setPage_5 : decode cL_setPage 5 = .ok (.ireturn, 1) := by decide +kernel
theorem dL_setPage_6 : decode cL_setPage 6 = .ok (.astore_n 2, 1) := by decide +kernel
theorem dL_setPage_7 : decode cL_setPage 7 = .ok (.ldc 18, 2) := by decide +kernel
theorem dL_setPage_9 : decode cL_setPage 9 = .ok (.ireturn, 1) := by decide +kernel
theorem dL_lineOf_0 : decode cL_lineOf 0 = .ok (.aload_n 0, 1) := by decide +kernel
theorem dL_lineOf_1 : decode cL_lineOf 1 = .ok (.iload_n 1, 1) := by decide +kernel
theorem dL_lineOf_2 : decode cL_lineOf 2 = .ok (.invokevirtual 51, 3) := by decide +kernel
theorem dL_lineOf_5 : decode cL_lineOf 5 = .ok (.ireturn, 1) := by decide +kernel
theorem dL_lineOf_6 : decode cL_lineOf 6 = .ok (.astore_n 2, 1) := by decide +kernel
theorem dL_lineOf_7 : decode cL_lineOf 7 = .ok (.ldc 18, 2) := by decide +kernel
theorem dL_lineOf_9 : decode cL_lineOf 9 = .ok (.ireturn, 1) := by decide +kernel
theorem dL_firstWord_0 : decode cL_firstWord 0 = .ok (.aload_n 0, 1) := by decide +kernel
theorem dL_firstWord_1 : decode cL_firstWord 1 = .ok (.iload_n 1, 1) := by decide +kernel
theorem dL_firstWord_2 : decode cL_firstWord 2 = .ok (.invokevirtual 54, 3) := by decide +kernel
theorem dL_firstWord_5 : decode cL_firstWord 5 = .ok (.ireturn, 1) := by decide +kernel
theorem dL_firstWord_6 : decode cL_firstWord 6 = .ok (.astore_n 2, 1) := by decide +kernel
theorem dL_firstWord_7 : decode cL_firstWord 7 = .ok (.ldc 18, 2) := by decide +kernel
theorem dL_firstWord_9 : decode cL_firstWord 9 = .ok (.ireturn, 1) := by decide +kernel
theorem dL_lineWidth_0 : decode cL_lineWidth 0 = .ok (.aload_n 0, 1) := by decide +kernel
theorem dL_lineWidth_1 : decode cL_lineWidth 1 = .ok (.iload_n 1, 1) := by decide +kernel
theorem dL_lineWidth_2 : decode cL_lineWidth 2 = .ok (.invokevirtual 57, 3) := by decide +kernel
theorem dL_lineWidth_5 : decode cL_lineWidth 5 = .ok (.ireturn, 1) := by decide +kernel
theorem dL_lineWidth_6 : decode cL_lineWidth 6 = .ok (.astore_n 2, 1) := by decide +kernel
theorem dL_lineWidth_7 : decode cL_lineWidth 7 = .ok (.ldc 18, 2) := by decide +kernel
theorem dL_lineWidth_9 : decode cL_lineWidth 9 = .ok (.ireturn, 1) := by decide +kernel
theorem dL_stairAt_0 : decode cL_stairAt 0 = .ok (.aload_n 0, 1) := by decide +kernel
theorem dL_stairAt_1 : decode cL_stairAt 1 = .ok (.iload_n 1, 1) := by decide +kernel
theorem dL_stairAt_2 : decode cL_stairAt 2 = .ok (.invokevirtual 60, 3) := by decide +kernel
theorem dL_stairAt_5 : decode cL_stairAt 5 = .ok (.ireturn, 1) := by decide +kernel
theorem dL_stairAt_6 : decode cL_stairAt 6 = .ok (.astore_n 2, 1) := by decide +kernel
theorem dL_stairAt_7 : decode cL_stairAt 7 = .ok (.ldc 18, 2) := by decide +kernel
theorem dL_stairAt_9 : decode cL_stairAt 9 = .ok (.ireturn, 1) := by decide +kernel
theorem dL_reason_0 : decode cL_reason 0 = .ok (.aload_n 0, 1) := by decide +kernel
theorem dL_reason_1 : decode cL_reason 1 = .ok (.iload_n 1, 1) := by decide +kernel
theorem dL_reason_2 : decode cL_reason 2 = .ok (.invokevirtual 63, 3) := by decide +kernel
theorem dL_reason_5 : decode cL_reason 5 = .ok (.ireturn, 1) := by decide +kernel
theorem dL_reason_6 : decode cL_reason 6 = .ok (.astore_n 2, 1) := by decide +kernel
theorem dL_reason_7 : decode cL_reason 7 = .ok (.ldc 18, 2) := by decide +kernel
theorem dL_reason_9 : decode cL_reason 9 = .ok (.ireturn, 1) := by decide +kernel
theorem dL_pageOf_0 : decode cL_pageOf 0 = .ok (.aload_n 0, 1) := by decide +kernel
theorem dL_pageOf_1 : decode cL_pageOf 1 = .ok (.iload_n 1, 1) := by decide +kernel
theorem dL_pageOf_2 : decode cL_pageOf 2 = .ok (.invokevirtual 66, 3) := by decide +kernel
theorem dL_pageOf_5 : decode cL_pageOf 5 = .ok (.ireturn, 1) := by decide +kernel
theorem dL_pageOf_6 : decode cL_pageOf 6 = .ok (.astore_n 2, 1) := by decide +kernel
theorem dL_pageOf_7 : decode cL_pageOf 7 = .ok (.ldc 18, 2) := by decide +kernel
theorem dL_pageOf_9 : decode cL_pageOf 9 = .ok (.ireturn, 1) := by decide +kernel
theorem dL_linesOn_0 : decode cL_linesOn 0 = .ok (.aload_n 0, 1) := by decide +kernel
theorem dL_linesOn_1 : decode cL_linesOn 1 = .ok (.iload_n 1, 1) := by decide +kernel
theorem dL_linesOn_2 : decode cL_linesOn 2 = .ok (.invokevirtual 69, 3) := by decide +kernel
theorem dL_linesOn_5 : decode cL_linesOn 5 = .ok (.ireturn, 1) := by decide +kernel
theorem dL_linesOn_6 : decode cL_linesOn 6 = .ok (.astore_n 2, 1) := by decide +kernel
theorem dL_linesOn_7 : decode cL_linesOn 7 = .ok (.ldc 18, 2) := by decide +kernel
theorem dL_linesOn_9 : decode cL_linesOn 9 = .ok (.ireturn, 1) := by decide +kernel
theorem dL_costFor_0 : decode cL_costFor 0 = .ok (.aload_n 0, 1) := by decide +kernel
theorem dL_costFor_1 : decode cL_costFor 1 = .ok (.iload_n 1, 1) := by decide +kernel
theorem dL_costFor_2 : decode cL_costFor 2 = .ok (.iload_n 2, 1) := by decide +kernel
theorem dL_costFor_3 : decode cL_costFor 3 = .ok (.invokevirtual 72, 3) := by decide +kernel
theorem dL_costFor_6 : decode cL_costFor 6 = .ok (.ireturn, 1) := by decide +kernel
theorem dL_costFor_7 : decode cL_costFor 7 = .ok (.astore_n 3, 1) := by decide +kernel
theorem dL_costFor_8 : decode cL_costFor 8 = .ok (.ldc 18, 2) := by decide +kernel
theorem dL_costFor_10 : decode cL_costFor 10 = .ok (.ireturn, 1) := by decide +kernel
theorem dL_bestColumn_0 : decode cL_bestColumn 0 = .ok (.aload_n 0, 1) := by decide +kernel
theorem dL_bestColumn_1 : decode cL_bestColumn 1 = .ok (.iload_n 1, 1) := by decide +kernel
theorem dL_bestColumn_2 : decode cL_bestColumn 2 = .ok (.iload_n 2, 1) := by decide +kernel
theorem dL_bestColumn_3 : decode cL_bestColumn 3 = .ok (.invokevirtual 76, 3) := by decide +kernel
theorem dL_bestColumn_6 : decode cL_bestColumn 6 = .ok (.ireturn, 1) := by decide +kernel
theorem dL_bestColumn_7 : decode cL_bestColumn 7 = .ok (.astore_n 3, 1) := by decide +kernel
theorem dL_bestColumn_8 : decode cL_bestColumn 8 = .ok (.ldc 18, 2) := by decide +kernel
theorem dL_bestColumn_10 : decode cL_bestColumn 10 = .ok (.ireturn, 1) := by decide +kernel
theorem dL_costIfMarked_0 : decode cL_costIfMarked 0 = .ok (.aload_n 0, 1) := by decide +kernel
theorem dL_costIfMarked_1 : decode cL_costIfMarked 1 = .ok (.iload_n 1, 1) := by decide +kernel
theorem dL_costIfMarked_2 : decode cL_costIfMarked 2 = .ok (.iload_n 2, 1) := by decide +kernel
theorem dL_costIfMarked_3 : decode cL_costIfMarked 3 = .ok (.invokevirtual 79, 3) := by decide +kernel
theorem dL_costIfMarked_6 : decode cL_costIfMarked 6 = .ok (.ireturn, 1) := by decide +kernel
theorem dL_costIfMarked_7 : decode cL_costIfMarked 7 = .ok (.astore_n 3, 1) := by decide +kernel
theorem dL_costIfMarked_8 : decode cL_costIfMarked 8 = .ok (.ldc 18, 2) := by decide +kernel
theorem dL_costIfMarked_10 : decode cL_costIfMarked 10 = .ok (.ireturn, 1) := by decide +kernel
theorem dL_costIfMarked_11 : decode cL_costIfMarked 11 = .ok (.astore_n 3, 1) := by decide +kernel
theorem dL_costIfMarked_12 : decode cL_costIfMarked 12 = .ok (.ldc 21, 2) := by decide +kernel
theorem dL_costIfMarked_14 : decode cL_costIfMarked 14 = .ok (.ireturn, 1) := by decide +kernel
theorem dL_undo_0 : decode cL_undo 0 = .ok (.aload_n 0, 1) := by decide +kernel
theorem dL_undo_1 : decode cL_undo 1 = .ok (.invokevirtual 82, 3) := by decide +kernel
theorem dL_undo_4 : decode cL_undo 4 = .ok (.ireturn, 1) := by decide +kernel
theorem dL_undo_5 : decode cL_undo 5 = .ok (.astore_n 1, 1) := by decide +kernel
theorem dL_undo_6 : decode cL_undo 6 = .ok (.ldc 18, 2) := by decide +kernel
theorem dL_undo_8 : decode cL_undo 8 = .ok (.ireturn, 1) := by decide +kernel
theorem dL_act_0 : decode cL_act 0 = .ok (.iload_n 1, 1) := by decide +kernel
theorem dL_act_1 : decode cL_act 1 = .ok (.iconst 4, 1) := by decide +kernel
theorem dL_act_2 : decode cL_act 2 = .ok (.ishr, 1) := by decide +kernel
theorem dL_act_3 : decode cL_act 3 = .ok (.aload_n 0, 1) := by decide +kernel
theorem dL_act_4 : decode cL_act 4 = .ok (.invokevirtual 86, 3) := by decide +kernel
theorem dL_act_7 : decode cL_act 7 = .ok (.iconst 1, 1) := by decide +kernel
theorem dL_act_8 : decode cL_act 8 = .ok (.iadd, 1) := by decide +kernel
theorem dL_act_9 : decode cL_act 9 = .ok (.invokestatic 89, 3) := by decide +kernel
theorem dL_act_12 : decode cL_act 12 = .ok (.istore_n 3, 1) := by decide +kernel
theorem dL_act_13 : decode cL_act 13 = .ok (.iload_n 1, 1) := by decide +kernel
theorem dL_act_14 : decode cL_act 14 = .ok (.bipush 13, 2) := by decide +kernel
theorem dL_act_16 : decode cL_act 16 = .ok (.invokestatic 89, 3) := by decide +kernel
theorem dL_act_19 : decode cL_act 19 = .ok (.tableswitch 163 0 11 #[61, 61, 61, 61, 61, 75, 81, 81, 92, 106, 118, 150], 61) := by decide +kernel
theorem dL_act_80 : decode cL_act 80 = .ok (.aload_n 0, 1) := by decide +kernel
theorem dL_act_81 : decode cL_act 81 = .ok (.iload_n 3, 1) := by decide +kernel
theorem dL_act_82 : decode cL_act 82 = .ok (.iconst 1, 1) := by decide +kernel
theorem dL_act_83 : decode cL_act 83 = .ok (.iload_n 2, 1) := by decide +kernel
theorem dL_act_84 : decode cL_act 84 = .ok (.bipush 30, 2) := by decide +kernel
theorem dL_act_86 : decode cL_act 86 = .ok (.invokestatic 89, 3) := by decide +kernel
theorem dL_act_89 : decode cL_act 89 = .ok (.iadd, 1) := by decide +kernel
theorem dL_act_90 : decode cL_act 90 = .ok (.invokestatic 94, 3) := by decide +kernel
theorem dL_act_93 : decode cL_act 93 = .ok (.ireturn, 1) := by decide +kernel
theorem dL_act_94 : decode cL_act 94 = .ok (.aload_n 0, 1) := by decide +kernel
theorem dL_act_95 : decode cL_act 95 = .ok (.iload_n 3, 1) := by decide +kernel
theorem dL_act_96 : decode cL_act 96 = .ok (.invokestatic 97, 3) := by decide +kernel
theorem dL_act_99 : decode cL_act 99 = .ok (.ireturn, 1) := by decide +kernel
theorem dL_act_100 : decode cL_act 100 = .ok (.aload_n 0, 1) := by decide +kernel
theorem dL_act_101 : decode cL_act 101 = .ok (.iload_n 3, 1) := by decide +kernel
theorem dL_act_102 : decode cL_act 102 = .ok (.iload_n 2, 1) := by decide +kernel
theorem dL_act_103 : decode cL_act 103 = .ok (.iconst 3, 1) := by decide +kernel
theorem dL_act_104 : decode cL_act 104 = .ok (.invokestatic 89, 3) := by decide +kernel
theorem dL_act_107 : decode cL_act 107 = .ok (.invokestatic 100, 3) := by decide +kernel
theorem dL_act_110 : decode cL_act 110 = .ok (.ireturn, 1) := by decide +kernel
theorem dL_act_111 : decode cL_act 111 = .ok (.aload_n 0, 1) := by decide +kernel
theorem dL_act_112 : decode cL_act 112 = .ok (.bipush 30, 2) := by decide +kernel
theorem dL_act_114 : decode cL_act 114 = .ok (.iload_n 2, 1) := by decide +kernel
theorem dL_act_115 : decode cL_act 115 = .ok (.bipush 71, 2) := by decide +kernel
theorem dL_act_117 : decode cL_act 117 = .ok (.invokestatic 89, 3) := by decide +kernel
theorem dL_act_120 : decode cL_act 120 = .ok (.iadd, 1) := by decide +kernel
theorem dL_act_121 : decode cL_act 121 = .ok (.invokestatic 102, 3) := by decide +kernel
theorem dL_act_124 : decode cL_act 124 = .ok (.ireturn, 1) := by decide +kernel
theorem dL_act_125 : decode cL_act 125 = .ok (.aload_n 0, 1) := by decide +kernel
theorem dL_act_126 : decode cL_act 126 = .ok (.iconst 1, 1) := by decide +kernel
theorem dL_act_127 : decode cL_act 127 = .ok (.iload_n 2, 1) := by decide +kernel
theorem dL_act_128 : decode cL_act 128 = .ok (.iconst 5, 1) := by decide +kernel
theorem dL_act_129 : decode cL_act 129 = .ok (.invokestatic 89, 3) := by decide +kernel
theorem dL_act_132 : decode cL_act 132 = .ok (.iadd, 1) := by decide +kernel
theorem dL_act_133 : decode cL_act 133 = .ok (.invokestatic 104, 3) := by decide +kernel
theorem dL_act_136 : decode cL_act 136 = .ok (.ireturn, 1) := by decide +kernel
theorem dL_act_137 : decode cL_act 137 = .ok (.aload_n 0, 1) := by decide +kernel
theorem dL_act_138 : decode cL_act 138 = .ok (.iconst 1, 1) := by decide +kernel
theorem dL_act_139 : decode cL_act 139 = .ok (.iload_n 2, 1) := by decide +kernel
theorem dL_act_140 : decode cL_act 140 = .ok (.bipush 9, 2) := by decide +kernel
theorem dL_act_142 : decode cL_act 142 = .ok (.invokestatic 89, 3) := by decide +kernel
theorem dL_act_145 : decode cL_act 145 = .ok (.iadd, 1) := by decide +kernel
theorem dL_act_146 : decode cL_act 146 = .ok (.iload_n 2, 1) := by decide +kernel
theorem dL_act_147 : decode cL_act 147 = .ok (.iconst 4, 1) := by decide +kernel
theorem dL_act_148 : decode cL_act 148 = .ok (.ishr, 1) := by decide +kernel
theorem dL_act_149 : decode cL_act 149 = .ok (.sipush 1200, 3) := by decide +kernel
theorem dL_act_152 : decode cL_act 152 = .ok (.invokestatic 89, 3) := by decide +kernel
theorem dL_act_155 : decode cL_act 155 = .ok (.iload_n 2, 1) := by decide +kernel
theorem dL_act_156 : decode cL_act 156 = .ok (.bipush 6, 2) := by decide +kernel
theorem dL_act_158 : decode cL_act 158 = .ok (.ishr, 1) := by decide +kernel
theorem dL_act_159 : decode cL_act 159 = .ok (.sipush 1200, 3) := by decide +kernel
theorem dL_act_162 : decode cL_act 162 = .ok (.invokestatic 89, 3) := by decide +kernel
theorem dL_act_165 : decode cL_act 165 = .ok (.invokestatic 106, 3) := by decide +kernel
theorem dL_act_168 : decode cL_act 168 = .ok (.ireturn, 1) := by decide +kernel
theorem dL_act_169 : decode cL_act 169 = .ok (.aload_n 0, 1) := by decide +kernel
theorem dL_act_170 : decode cL_act 170 = .ok (.iconst 2, 1) := by decide +kernel
theorem dL_act_171 : decode cL_act 171 = .ok (.iload_n 2, 1) := by decide +kernel
theorem dL_act_172 : decode cL_act 172 = .ok (.bipush 8, 2) := by decide +kernel
theorem dL_act_174 : decode cL_act 174 = .ok (.invokestatic 89, 3) := by decide +kernel
theorem dL_act_177 : decode cL_act 177 = .ok (.iadd, 1) := by decide +kernel
theorem dL_act_178 : decode cL_act 178 = .ok (.invokestatic 109, 3) := by decide +kernel
theorem dL_act_181 : decode cL_act 181 = .ok (.ireturn, 1) := by decide +kernel
theorem dL_act_182 : decode cL_act 182 = .ok (.aload_n 0, 1) := by decide +kernel
theorem dL_act_183 : decode cL_act 183 = .ok (.iload_n 2, 1) := by decide +kernel
theorem dL_act_184 : decode cL_act 184 = .ok (.iconst 3, 1) := by decide +kernel
theorem dL_act_185 : decode cL_act 185 = .ok (.invokestatic 89, 3) := by decide +kernel
theorem dL_act_188 : decode cL_act 188 = .ok (.ifCond .le 7, 3) := by decide +kernel
theorem dL_act_191 : decode cL_act 191 = .ok (.iconst 1, 1) := by decide +kernel
theorem dL_act_192 : decode cL_act 192 = .ok (.goto 4, 3) := by decide +kernel
theorem dL_act_195 : decode cL_act 195 = .ok (.iconst 0, 1) := by decide +kernel
theorem dL_act_196 : decode cL_act 196 = .ok (.invokevirtual 111, 3) := by decide +kernel
theorem dL_act_199 : decode cL_act 199 = .ok (.ifCond .eq 7, 3) := by decide +kernel
theorem dL_act_202 : decode cL_act 202 = .ok (.iconst 1, 1) := by decide +kernel
theorem dL_act_203 : decode cL_act 203 = .ok (.goto 4, 3) := by decide +kernel
theorem dL_act_206 : decode cL_act 206 = .ok (.iconst 0, 1) := by decide +kernel
theorem dL_act_207 : decode cL_act 207 = .ok (.ireturn, 1) := by decide +kernel
theorem dL_ends_0 : decode cL_ends 0 = .ok (.iload_n 1, 1) := by decide +kernel
theorem dL_ends_1 : decode cL_ends 1 = .ok (.aload_n 0, 1) := by decide +kernel
theorem dL_ends_2 : decode cL_ends 2 = .ok (.invokevirtual 86, 3) := by decide +kernel
theorem dL_ends_5 : decode cL_ends 5 = .ok (.iconst 1, 1) := by decide +kernel
theorem dL_ends_6 : decode cL_ends 6 = .ok (.isub, 1) := by decide +kernel
theorem dL_ends_7 : decode cL_ends 7 = .ok (.if_icmp .eq 12, 3) := by decide +kernel
theorem dL_ends_10 : decode cL_ends 10 = .ok (.aload_n 0, 1) := by decide +kernel
theorem dL_ends_11 : decode cL_ends 11 = .ok (.iload_n 1, 1) := by decide +kernel
theorem dL_ends_12 : decode cL_ends 12 = .ok (.invokestatic 115, 3) := by decide +kernel
theorem dL_ends_15 : decode cL_ends 15 = .ok (.iconst 2, 1) := by decide +kernel
theorem dL_ends_16 : decode cL_ends 16 = .ok (.if_icmp .ne 7, 3) := by decide +kernel
theorem dL_ends_19 : decode cL_ends 19 = .ok (.iconst 1, 1) := by decide +kernel
theorem dL_ends_20 : decode cL_ends 20 = .ok (.goto 4, 3) := by decide +kernel
theorem dL_ends_23 : decode cL_ends 23 = .ok (.iconst 0, 1) := by decide +kernel
theorem dL_ends_24 : decode cL_ends 24 = .ok (.ireturn, 1) := by decide +kernel
theorem dL_lines_0 : decode cL_lines 0 = .ok (.aload_n 0, 1) := by decide +kernel
theorem dL_lines_1 : decode cL_lines 1 = .ok (.invokevirtual 86, 3) := by decide +kernel
theorem dL_lines_4 : decode cL_lines 4 = .ok (.istore_n 2, 1) := by decide +kernel
theorem dL_lines_5 : decode cL_lines 5 = .ok (.aload_n 0, 1) := by decide +kernel
theorem dL_lines_6 : decode cL_lines 6 = .ok (.invokevirtual 117, 3) := by decide +kernel
theorem dL_lines_9 : decode cL_lines 9 = .ok (.istore_n 3, 1) := by decide +kernel
theorem dL_lines_10 : decode cL_lines 10 = .ok (.iconst 0, 1) := by decide +kernel
theorem dL_lines_11 : decode cL_lines 11 = .ok (.istore 4, 2) := by decide +kernel
theorem dL_lines_13 : decode cL_lines 13 = .ok (.iconst 0, 1) := by decide +kernel
theorem dL_lines_14 : decode cL_lines 14 = .ok (.istore 5, 2) := by decide +kernel
theorem dL_lines_16 : decode cL_lines 16 = .ok (.iconst 0, 1) := by decide +kernel
theorem dL_lines_17 : decode cL_lines 17 = .ok (.istore 6, 2) := by decide +kernel
theorem dL_lines_19 : decode cL_lines 19 = .ok (.iconst 0, 1) := by decide +kernel
theorem dL_lines_20 : decode cL_lines 20 = .ok (.istore 7, 2) := by decide +kernel
theorem dL_lines_22 : decode cL_lines 22 = .ok (.iconst 1, 1) := by decide +kernel
theorem dL_lines_23 : decode cL_lines 23 = .ok (.istore 8, 2) := by decide +kernel
theorem dL_lines_25 : decode cL_lines 25 = .ok (.iconst 0, 1) := by decide +kernel
theorem dL_lines_26 : decode cL_lines 26 = .ok (.istore 9, 2) := by decide +kernel
theorem dL_lines_28 : decode cL_lines 28 = .ok (.iload 9, 2) := by decide +kernel
theorem dL_lines_30 : decode cL_lines 30 = .ok (.iload_n 3, 1) := by decide +kernel
theorem dL_lines_31 : decode cL_lines 31 = .ok (.if_icmp .ge 399, 3) := by decide +kernel
theorem dL_lines_34 : decode cL_lines 34 = .ok (.aload_n 1, 1) := by decide +kernel
theorem dL_lines_35 : decode cL_lines 35 = .ok (.iconst 1, 1) := by decide +kernel
theorem dL_lines_36 : decode cL_lines 36 = .ok (.iaload, 1) := by decide +kernel
theorem dL_lines_37 : decode cL_lines 37 = .ok (.ineg, 1) := by decide +kernel
theorem dL_lines_38 : decode cL_lines 38 = .ok (.istore 10, 2) := by decide +kernel
theorem dL_lines_40 : decode cL_lines 40 = .ok (.aload_n 0, 1) := by decide +kernel
theorem dL_lines_41 : decode cL_lines 41 = .ok (.iload 9, 2) := by decide +kernel
theorem dL_lines_43 : decode cL_lines 43 = .ok (.invokestatic 120, 3) := by decide +kernel
theorem dL_lines_46 : decode cL_lines 46 = .ok (.iload 7, 2) := by decide +kernel
theorem dL_lines_48 : decode cL_lines 48 = .ok (.if_icmp .eq 5, 3) := by decide +kernel
theorem dL_lines_51 : decode cL_lines 51 = .ok (.iconst 0, 1) := by decide +kernel
theorem dL_lines_52 : decode cL_lines 52 = .ok (.ireturn, 1) := by decide +kernel
theorem dL_lines_53 : decode cL_lines 53 = .ok (.iconst 1, 1) := by decide +kernel
theorem dL_lines_54 : decode cL_lines 54 = .ok (.istore 11, 2) := by decide +kernel
theorem dL_lines_56 : decode cL_lines 56 = .ok (.iload 11, 2) := by decide +kernel
theorem dL_lines_58 : decode cL_lines 58 = .ok (.ifCond .eq 110, 3) := by decide +kernel
theorem dL_lines_61 : decode cL_lines 61 = .ok (.iload 7, 2) := by decide +kernel
theorem dL_lines_63 : decode cL_lines 63 = .ok (.iload_n 2, 1) := by decide +kernel
theorem dL_lines_64 : decode cL_lines 64 = .ok (.if_icmp .ge 14, 3) := by decide +kernel
theorem dL_lines_67 : decode cL_lines 67 = .ok (.aload_n 0, 1) := by decide +kernel
theorem dL_lines_68 : decode cL_lines 68 = .ok (.iload 7, 2) := by decide +kernel
theorem dL_lines_70 : decode cL_lines 70 = .ok (.invokestatic 122, 3) := by decide +kernel
theorem dL_lines_73 : decode cL_lines 73 = .ok (.iload 9, 2) := by decide +kernel
theorem dL_lines_75 : decode cL_lines 75 = .ok (.if_icmp .eq 5, 3) := by decide +kernel
theorem dL_lines_78 : decode cL_lines 78 = .ok (.iconst 0, 1) := by decide +kernel
theorem dL_lines_79 : decode cL_lines 79 = .ok (.ireturn, 1) := by decide +kernel
theorem dL_lines_80 : decode cL_lines 80 = .ok (.iload 10, 2) := by decide +kernel
theorem dL_lines_82 : decode cL_lines 82 = .ok (.aload_n 1, 1) := by decide +kernel
theorem dL_lines_83 : decode cL_lines 83 = .ok (.iconst 1, 1) := by decide +kernel
theorem dL_lines_84 : decode cL_lines 84 = .ok (.iaload, 1) := by decide +kernel
theorem dL_lines_85 : decode cL_lines 85 = .ok (.aload_n 0, 1) := by decide +kernel
theorem dL_lines_86 : decode cL_lines 86 = .ok (.iload 7, 2) := by decide +kernel
theorem dL_lines_88 : decode cL_lines 88 = .ok (.invokestatic 124, 3) := by decide +kernel
theorem dL_lines_91 : decode cL_lines 91 = .ok (.iadd, 1) := by decide +kernel
theorem dL_lines_92 : decode cL_lines 92 = .ok (.iadd, 1) := by decide +kernel
theorem dL_lines_93 : decode cL_lines 93 = .ok (.istore 10, 2) := by decide +kernel
theorem dL_lines_95 : decode cL_lines 95 = .ok (.iload 7, 2) := by decide +kernel
theorem dL_lines_97 : decode cL_lines 97 = .ok (.iload_n 2, 1) := by decide +kernel
theorem dL_lines_98 : decode cL_lines 98 = .ok (.iconst 1, 1) := by decide +kernel
theorem dL_lines_99 : decode cL_lines 99 = .ok (.isub, 1) := by decide +kernel
theorem dL_lines_100 : decode cL_lines 100 = .ok (.if_icmp .ge 20, 3) := by decide +kernel
theorem dL_lines_103 : decode cL_lines 103 = .ok (.aload_n 0, 1) := by decide +kernel
theorem dL_lines_104 : decode cL_lines 104 = .ok (.iload 7, 2) := by decide +kernel
theorem dL_lines_106 : decode cL_lines 106 = .ok (.iconst 1, 1) := by decide +kernel
theorem dL_lines_107 : decode cL_lines 107 = .ok (.iadd, 1) := by decide +kernel
theorem dL_lines_108 : decode cL_lines 108 = .ok (.invokestatic 122, 3) := by decide +kernel
theorem dL_lines_111 : decode cL_lines 111 = .ok (.iload 9, 2) := by decide +kernel
theorem dL_lines_113 : decode cL_lines 113 = .ok (.if_icmp .ne 7, 3) := by decide +kernel
theorem dL_lines_116 : decode cL_lines 116 = .ok (.iconst 1, 1) := by decide +kernel
theorem dL_lines_117 : decode cL_lines 117 = .ok (.goto 4, 3) := by decide +kernel
theorem dL_lines_120 : decode cL_lines 120 = .ok (.iconst 0, 1) := by decide +kernel
theorem dL_lines_121 : decode cL_lines 121 = .ok (.istore 11, 2) := by decide +kernel
theorem dL_lines_123 : decode cL_lines 123 = .ok (.iload 11, 2) := by decide +kernel
theorem dL_lines_125 : decode cL_lines 125 = .ok (.ifCond .eq 21, 3) := by decide +kernel
theorem dL_lines_128 : decode cL_lines 128 = .ok (.aload_n 0, 1) := by decide +kernel
theorem dL_lines_129 : decode cL_lines 129 = .ok (.iload 7, 2) := by decide +kernel
theorem dL_lines_131 : decode cL_lines 131 = .ok (.invokestatic 115, 3) := by decide +kernel
theorem dL_lines_134 : decode cL_lines 134 = .ok (.ifCond .ne 26, 3) := by decide +kernel
theorem dL_lines_137 : decode cL_lines 137 = .ok (.aload_n 0, 1) := by decide +kernel
theorem dL_lines_138 : decode cL_lines 138 = .ok (.iload 7, 2) := by decide +kernel
theorem dL_lines_140 : decode cL_lines 140 = .ok (.invokestatic 126, 3) := by decide +kernel
theorem dL_lines_143 : decode cL_lines 143 = .ok (.ifCond .ne 17, 3) := by decide +kernel
theorem dL_lines_146 : decode cL_lines 146 = .ok (.iload 11, 2) := by decide +kernel
theorem dL_lines_148 : decode cL_lines 148 = .ok (.ifCond .ne 14, 3) := by decide +kernel
theorem dL_lines_151 : decode cL_lines 151 = .ok (.aload_n 0, 1) := by decide +kernel
theorem dL_lines_152 : decode cL_lines 152 = .ok (.iload 7, 2) := by decide +kernel
theorem dL_lines_154 : decode cL_lines 154 = .ok (.invokestatic 126, 3) := by decide +kernel
theorem dL_lines_157 : decode cL_lines 157 = .ok (.ifCond .ne 5, 3) := by decide +kernel
theorem dL_lines_160 : decode cL_lines 160 = .ok (.iconst 0, 1) := by decide +kernel
theorem dL_lines_161 : decode cL_lines 161 = .ok (.ireturn, 1) := by decide +kernel
theorem dL_lines_162 : decode cL_lines 162 = .ok (.iinc 7 1, 3) := by decide +kernel
theorem dL_lines_165 : decode cL_lines 165 = .ok (.goto (-109), 3) := by decide +kernel
theorem dL_lines_168 : decode cL_lines 168 = .ok (.aload_n 0, 1) := by decide +kernel
theorem dL_lines_169 : decode cL_lines 169 = .ok (.iload 7, 2) := by decide +kernel
theorem dL_lines_171 : decode cL_lines 171 = .ok (.iconst 1, 1) := by decide +kernel
theorem dL_lines_172 : decode cL_lines 172 = .ok (.isub, 1) := by decide +kernel
theorem dL_lines_173 : decode cL_lines 173 = .ok (.invokestatic 128, 3) := by decide +kernel
theorem dL_lines_176 : decode cL_lines 176 = .ok (.istore 12, 2) := by decide +kernel
theorem dL_lines_178 : decode cL_lines 178 = .ok (.aload_n 0, 1) := by decide +kernel
theorem dL_lines_179 : decode cL_lines 179 = .ok (.iload 7, 2) := by decide +kernel
theorem dL_lines_181 : decode cL_lines 181 = .ok (.iconst 1, 1) := by decide +kernel
theorem dL_lines_182 : decode cL_lines 182 = .ok (.isub, 1) := by decide +kernel
theorem dL_lines_183 : decode cL_lines 183 = .ok (.invokestatic 126, 3) := by decide +kernel
theorem dL_lines_186 : decode cL_lines 186 = .ok (.istore 13, 2) := by decide +kernel
theorem dL_lines_188 : decode cL_lines 188 = .ok (.iload 7, 2) := by decide +kernel
theorem dL_lines_190 : decode cL_lines 190 = .ok (.iload_n 2, 1) := by decide +kernel
theorem dL_lines_191 : decode cL_lines 191 = .ok (.if_icmp .ge 26, 3) := by decide +kernel
theorem dL_lines_194 : decode cL_lines 194 = .ok (.iload 10, 2) := by decide +kernel
theorem dL_lines_196 : decode cL_lines 196 = .ok (.aload_n 1, 1) := by decide +kernel
theorem dL_lines_197 : decode cL_lines 197 = .ok (.iconst 1, 1) := by decide +kernel
theorem dL_lines_198 : decode cL_lines 198 = .ok (.iaload, 1) := by decide +kernel
theorem dL_lines_199 : decode cL_lines 199 = .ok (.iadd, 1) := by decide +kernel
theorem dL_lines_200 : decode cL_lines 200 = .ok (.aload_n 0, 1) := by decide +kernel
theorem dL_lines_201 : decode cL_lines 201 = .ok (.iload 7, 2) := by decide +kernel
theorem dL_lines_203 : decode cL_lines 203 = .ok (.invokestatic 124, 3) := by decide +kernel
theorem dL_lines_206 : decode cL_lines 206 = .ok (.iadd, 1) := by decide +kernel
theorem dL_lines_207 : decode cL_lines 207 = .ok (.aload_n 1, 1) := by decide +kernel
theorem dL_lines_208 : decode cL_lines 208 = .ok (.iconst 0, 1) := by decide +kernel
theorem dL_lines_209 : decode cL_lines 209 = .ok (.iaload, 1) := by decide +kernel
theorem dL_lines_210 : decode cL_lines 210 = .ok (.if_icmp .gt 7, 3) := by decide +kernel
theorem dL_lines_213 : decode cL_lines 213 = .ok (.iconst 1, 1) := by decide +kernel
theorem dL_lines_214 : decode cL_lines 214 = .ok (.goto 4, 3) := by decide +kernel
theorem dL_lines_217 : decode cL_lines 217 = .ok (.iconst 0, 1) := by decide +kernel
theorem dL_lines_218 : decode cL_lines 218 = .ok (.istore 14, 2) := by decide +kernel
theorem dL_lines_220 : decode cL_lines 220 = .ok (.iload 10, 2) := by decide +kernel
theorem dL_lines_222 : decode cL_lines 222 = .ok (.aload_n 1, 1) := by decide +kernel
theorem dL_lines_223 : decode cL_lines 223 = .ok (.iconst 0, 1) := by decide +kernel
theorem dL_lines_224 : decode cL_lines 224 = .ok (.iaload, 1) := by decide +kernel
theorem dL_lines_225 : decode cL_lines 225 = .ok (.if_icmp .gt 54, 3) := by decide +kernel
theorem dL_lines_228 : decode cL_lines 228 = .ok (.aload_n 0, 1) := by decide +kernel
theorem dL_lines_229 : decode cL_lines 229 = .ok (.iload 9, 2) := by decide +kernel
theorem dL_lines_231 : decode cL_lines 231 = .ok (.invokestatic 132, 3) := by decide +kernel
theorem dL_lines_234 : decode cL_lines 234 = .ok (.iload 10, 2) := by decide +kernel
theorem dL_lines_236 : decode cL_lines 236 = .ok (.if_icmp .ne 43, 3) := by decide +kernel
theorem dL_lines_239 : decode cL_lines 239 = .ok (.iload 13, 2) := by decide +kernel
theorem dL_lines_241 : decode cL_lines 241 = .ok (.iload 12, 2) := by decide +kernel
theorem dL_lines_243 : decode cL_lines 243 = .ok (.ifCond .eq 7, 3) := by decide +kernel
theorem dL_lines_246 : decode cL_lines 246 = .ok (.iconst 1, 1) := by decide +kernel
theorem dL_lines_247 : decode cL_lines 247 = .ok (.goto 29, 3) := by decide +kernel
theorem dL_lines_250 : decode cL_lines 250 = .ok (.aload_n 0, 1) := by decide +kernel
theorem dL_lines_251 : decode cL_lines 251 = .ok (.iload 7, 2) := by decide +kernel
theorem dL_lines_253 : decode cL_lines 253 = .ok (.iconst 1, 1) := by decide +kernel
theorem dL_lines_254 : decode cL_lines 254 = .ok (.isub, 1) := by decide +kernel
theorem dL_lines_255 : decode cL_lines 255 = .ok (.invokestatic 115, 3) := by decide +kernel
theorem dL_lines_258 : decode cL_lines 258 = .ok (.iconst 1, 1) := by decide +kernel
theorem dL_lines_259 : decode cL_lines 259 = .ok (.if_icmp .ne 7, 3) := by decide +kernel
theorem dL_lines_262 : decode cL_lines 262 = .ok (.iconst 2, 1) := by decide +kernel
theorem dL_lines_263 : decode cL_lines 263 = .ok (.goto 13, 3) := by decide +kernel
theorem dL_lines_266 : decode cL_lines 266 = .ok (.iload 14, 2) := by decide +kernel
theorem dL_lines_268 : decode cL_lines 268 = .ok (.ifCond .ne 7, 3) := by decide +kernel
theorem dL_lines_271 : decode cL_lines 271 = .ok (.iconst 3, 1) := by decide +kernel
theorem dL_lines_272 : decode cL_lines 272 = .ok (.goto 4, 3) := by decide +kernel
theorem dL_lines_275 : decode cL_lines 275 = .ok (.iconst 4, 1) := by decide +kernel
theorem dL_lines_276 : decode cL_lines 276 = .ok (.if_icmp .eq 5, 3) := by decide +kernel
theorem dL_lines_279 : decode cL_lines 279 = .ok (.iconst 0, 1) := by decide +kernel
theorem dL_lines_280 : decode cL_lines 280 = .ok (.ireturn, 1) := by decide +kernel
theorem dL_lines_281 : decode cL_lines 281 = .ok (.iload 4, 2) := by decide +kernel
theorem dL_lines_283 : decode cL_lines 283 = .ok (.iload 12, 2) := by decide +kernel
theorem dL_lines_285 : decode cL_lines 285 = .ok (.ifCond .ne 19, 3) := by decide +kernel
theorem dL_lines_288 : decode cL_lines 288 = .ok (.aload_n 1, 1) := by decide +kernel
theorem dL_lines_289 : decode cL_lines 289 = .ok (.iconst 0, 1) := by decide +kernel
theorem dL_lines_290 : decode cL_lines 290 = .ok (.iaload, 1) := by decide +kernel
theorem dL_lines_291 : decode cL_lines 291 = .ok (.iload 10, 2) := by decide +kernel
theorem dL_lines_293 : decode cL_lines 293 = .ok (.isub, 1) := by decide +kernel
theorem dL_lines_294 : decode cL_lines 294 = .ok (.aload_n 1, 1) := by decide +kernel
theorem dL_lines_295 : decode cL_lines 295 = .ok (.iconst 0, 1) := by decide +kernel
theorem dL_lines_296 : decode cL_lines 296 = .ok (.iaload, 1) := by decide +kernel
theorem dL_lines_297 : decode cL_lines 297 = .ok (.iload 10, 2) := by decide +kernel
theorem dL_lines_299 : decode cL_lines 299 = .ok (.isub, 1) := by decide +kernel
theorem dL_lines_300 : decode cL_lines 300 = .ok (.imul, 1) := by decide +kernel
theorem dL_lines_301 : decode cL_lines 301 = .ok (.goto 25, 3) := by decide +kernel
theorem dL_lines_304 : decode cL_lines 304 = .ok (.iload 8, 2) := by decide +kernel
theorem dL_lines_306 : decode cL_lines 306 = .ok (.ifCond .ne 19, 3) := by decide +kernel
theorem dL_lines_309 : decode cL_lines 309 = .ok (.iconst 4, 1) := by decide +kernel
theorem dL_lines_310 : decode cL_lines 310 = .ok (.iload 10, 2) := by decide +kernel
theorem dL_lines_312 : decode cL_lines 312 = .ok (.imul, 1) := by decide +kernel
theorem dL_lines_313 : decode cL_lines 313 = .ok (.aload_n 1, 1) := by decide +kernel
theorem dL_lines_314 : decode cL_lines 314 = .ok (.iconst 0, 1) := by decide +kernel
theorem dL_lines_315 : decode cL_lines 315 = .ok (.iaload, 1) := by decide +kernel
theorem dL_lines_316 : decode cL_lines 316 = .ok (.if_icmp .ge 9, 3) := by decide +kernel
theorem dL_lines_319 : decode cL_lines 319 = .ok (.aload_n 1, 1) := by decide +kernel
theorem dL_lines_320 : decode cL_lines 320 = .ok (.iconst 4, 1) := by decide +kernel
theorem dL_lines_321 : decode cL_lines 321 = .ok (.iaload, 1) := by decide +kernel
theorem dL_lines_322 : decode cL_lines 322 = .ok (.goto 4, 3) := by decide +kernel
theorem dL_lines_325 : decode cL_lines 325 = .ok (.iconst 0, 1) := by decide +kernel
theorem dL_lines_326 : decode cL_lines 326 = .ok (.iadd, 1) := by decide +kernel
theorem dL_lines_327 : decode cL_lines 327 = .ok (.istore 4, 2) := by decide +kernel
theorem dL_lines_329 : decode cL_lines 329 = .ok (.aload_n 0, 1) := by decide +kernel
theorem dL_lines_330 : decode cL_lines 330 = .ok (.iload 9, 2) := by decide +kernel
theorem dL_lines_332 : decode cL_lines 332 = .ok (.invokestatic 134, 3) := by decide +kernel
theorem dL_lines_335 : decode cL_lines 335 = .ok (.istore 15, 2) := by decide +kernel
theorem dL_lines_337 : decode cL_lines 337 = .ok (.iload 15, 2) := by decide +kernel
theorem dL_lines_339 : decode cL_lines 339 = .ok (.ifCond .eq 66, 3) := by decide +kernel
theorem dL_lines_342 : decode cL_lines 342 = .ok (.aload_n 0, 1) := by decide +kernel
theorem dL_lines_343 : decode cL_lines 343 = .ok (.iload 9, 2) := by decide +kernel
theorem dL_lines_345 : decode cL_lines 345 = .ok (.iconst 1, 1) := by decide +kernel
theorem dL_lines_346 : decode cL_lines 346 = .ok (.isub, 1) := by decide +kernel
theorem dL_lines_347 : decode cL_lines 347 = .ok (.invokestatic 132, 3) := by decide +kernel
theorem dL_lines_350 : decode cL_lines 350 = .ok (.istore 16, 2) := by decide +kernel
theorem dL_lines_352 : decode cL_lines 352 = .ok (.aload_n 0, 1) := by decide +kernel
theorem dL_lines_353 : decode cL_lines 353 = .ok (.iload 9, 2) := by decide +kernel
theorem dL_lines_355 : decode cL_lines 355 = .ok (.iconst 1, 1) := by decide +kernel
theorem dL_lines_356 : decode cL_lines 356 = .ok (.iadd, 1) := by decide +kernel
theorem dL_lines_357 : decode cL_lines 357 = .ok (.invokestatic 132, 3) := by decide +kernel
theorem dL_lines_360 : decode cL_lines 360 = .ok (.istore 17, 2) := by decide +kernel
theorem dL_lines_362 : decode cL_lines 362 = .ok (.iload 8, 2) := by decide +kernel
theorem dL_lines_364 : decode cL_lines 364 = .ok (.ifCond .ne 36, 3) := by decide +kernel
theorem dL_lines_367 : decode cL_lines 367 = .ok (.iload 12, 2) := by decide +kernel
theorem dL_lines_369 : decode cL_lines 369 = .ok (.ifCond .ne 31, 3) := by decide +kernel
theorem dL_lines_372 : decode cL_lines 372 = .ok (.iload 10, 2) := by decide +kernel
theorem dL_lines_374 : decode cL_lines 374 = .ok (.iload 16, 2) := by decide +kernel
theorem dL_lines_376 : decode cL_lines 376 = .ok (.isub, 1) := by decide +kernel
theorem dL_lines_377 : decode cL_lines 377 = .ok (.iload 15, 2) := by decide +kernel
theorem dL_lines_379 : decode cL_lines 379 = .ok (.imul, 1) := by decide +kernel
theorem dL_lines_380 : decode cL_lines 380 = .ok (.aload_n 1, 1) := by decide +kernel
theorem dL_lines_381 : decode cL_lines 381 = .ok (.iconst 2, 1) := by decide +kernel
theorem dL_lines_382 : decode cL_lines 382 = .ok (.iaload, 1) := by decide +kernel
theorem dL_lines_383 : decode cL_lines 383 = .ok (.if_icmp .lt 17, 3) := by decide +kernel
theorem dL_lines_386 : decode cL_lines 386 = .ok (.iload 17, 2) := by decide +kernel
theorem dL_lines_388 : decode cL_lines 388 = .ok (.iload 10, 2) := by decide +kernel
theorem dL_lines_390 : decode cL_lines 390 = .ok (.isub, 1) := by decide +kernel
theorem dL_lines_391 : decode cL_lines 391 = .ok (.iload 15, 2) := by decide +kernel
theorem dL_lines_393 : decode cL_lines 393 = .ok (.imul, 1) := by decide +kernel
theorem dL_lines_394 : decode cL_lines 394 = .ok (.aload_n 1, 1) := by decide +kernel
theorem dL_lines_395 : decode cL_lines 395 = .ok (.iconst 2, 1) := by decide +kernel
theorem dL_lines_396 : decode cL_lines 396 = .ok (.iaload, 1) := by decide +kernel
theorem dL_lines_397 : decode cL_lines 397 = .ok (.if_icmp .ge 5, 3) := by decide +kernel
theorem dL_lines_400 : decode cL_lines 400 = .ok (.iconst 0, 1) := by decide +kernel
theorem dL_lines_401 : decode cL_lines 401 = .ok (.ireturn, 1) := by decide +kernel
theorem dL_lines_402 : decode cL_lines 402 = .ok (.iinc 5 1, 3) := by decide +kernel
theorem dL_lines_405 : decode cL_lines 405 = .ok (.iload 6, 2) := by decide +kernel
theorem dL_lines_407 : decode cL_lines 407 = .ok (.iload 12, 2) := by decide +kernel
theorem dL_lines_409 : decode cL_lines 409 = .ok (.ifCond .eq 7, 3) := by decide +kernel
theorem dL_lines_412 : decode cL_lines 412 = .ok (.iconst 1, 1) := by decide +kernel
theorem dL_lines_413 : decode cL_lines 413 = .ok (.goto 4, 3) := by decide +kernel
theorem dL_lines_416 : decode cL_lines 416 = .ok (.iconst 0, 1) := by decide +kernel
theorem dL_lines_417 : decode cL_lines 417 = .ok (.iadd, 1) := by decide +kernel
theorem dL_lines_418 : decode cL_lines 418 = .ok (.istore 6, 2) := by decide +kernel
theorem dL_lines_420 : decode cL_lines 420 = .ok (.iload 12, 2) := by decide +kernel
theorem dL_lines_422 : decode cL_lines 422 = .ok (.istore 8, 2) := by decide +kernel
theorem dL_lines_424 : decode cL_lines 424 = .ok (.iinc 9 1, 3) := by decide +kernel
theorem dL_lines_427 : decode cL_lines 427 = .ok (.goto (-399), 3) := by decide +kernel
theorem dL_lines_430 : decode cL_lines 430 = .ok (.iload 7, 2) := by decide +kernel
theorem dL_lines_432 : decode cL_lines 432 = .ok (.iload_n 2, 1) := by decide +kernel
theorem dL_lines_433 : decode cL_lines 433 = .ok (.if_icmp .ne 41, 3) := by decide +kernel
theorem dL_lines_436 : decode cL_lines 436 = .ok (.aload_n 0, 1) := by decide +kernel
theorem dL_lines_437 : decode cL_lines 437 = .ok (.invokevirtual 136, 3) := by decide +kernel
theorem dL_lines_440 : decode cL_lines 440 = .ok (.iload 5, 2) := by decide +kernel
theorem dL_lines_442 : decode cL_lines 442 = .ok (.if_icmp .ne 32, 3) := by decide +kernel
theorem dL_lines_445 : decode cL_lines 445 = .ok (.aload_n 0, 1) := by decide +kernel
theorem dL_lines_446 : decode cL_lines 446 = .ok (.invokevirtual 139, 3) := by decide +kernel
theorem dL_lines_449 : decode cL_lines 449 = .ok (.iload 6, 2) := by decide +kernel
theorem dL_lines_451 : decode cL_lines 451 = .ok (.if_icmp .ne 23, 3) := by decide +kernel
theorem dL_lines_454 : decode cL_lines 454 = .ok (.aload_n 0, 1) := by decide +kernel
theorem dL_lines_455 : decode cL_lines 455 = .ok (.invokevirtual 142, 3) := by decide +kernel
theorem dL_lines_458 : decode cL_lines 458 = .ok (.iload 4, 2) := by decide +kernel
theorem dL_lines_460 : decode cL_lines 460 = .ok (.iload 5, 2) := by decide +kernel
theorem dL_lines_462 : decode cL_lines 462 = .ok (.aload_n 1, 1) := by decide +kernel
theorem dL_lines_463 : decode cL_lines 463 = .ok (.iconst 3, 1) := by decide +kernel
theorem dL_lines_464 : decode cL_lines 464 = .ok (.iaload, 1) := by decide +kernel
theorem dL_lines_465 : decode cL_lines 465 = .ok (.imul, 1) := by decide +kernel
theorem dL_lines_466 : decode cL_lines 466 = .ok (.iadd, 1) := by decide +kernel
theorem dL_lines_467 : decode cL_lines 467 = .ok (.if_icmp .ne 7, 3) := by decide +kernel
theorem dL_lines_470 : decode cL_lines 470 = .ok (.iconst 1, 1) := by decide +kernel
theorem dL_lines_471 : decode cL_lines 471 = .ok (.goto 4, 3) := by decide +kernel
theorem dL_lines_474 : decode cL_lines 474 = .ok (.iconst 0, 1) := by decide +kernel
theorem dL_lines_475 : decode cL_lines 475 = .ok (.ireturn, 1) := by decide +kernel
theorem dL_pages_0 : decode cL_pages 0 = .ok (.aload_n 0, 1) := by decide +kernel
theorem dL_pages_1 : decode cL_pages 1 = .ok (.invokevirtual 145, 3) := by decide +kernel
theorem dL_pages_4 : decode cL_pages 4 = .ok (.istore_n 2, 1) := by decide +kernel
theorem dL_pages_5 : decode cL_pages 5 = .ok (.iconst 0, 1) := by decide +kernel
theorem dL_pages_6 : decode cL_pages 6 = .ok (.istore_n 3, 1) := by decide +kernel
theorem dL_pages_7 : decode cL_pages 7 = .ok (.iconst 0, 1) := by decide +kernel
theorem dL_pages_8 : decode cL_pages 8 = .ok (.istore 4, 2) := by decide +kernel
theorem dL_pages_10 : decode cL_pages 10 = .ok (.iload 4, 2) := by decide +kernel
theorem dL_pages_12 : decode cL_pages 12 = .ok (.iload_n 2, 1) := by decide +kernel
theorem dL_pages_13 : decode cL_pages 13 = .ok (.if_icmp .ge 82, 3) := by decide +kernel
theorem dL_pages_16 : decode cL_pages 16 = .ok (.aload_n 0, 1) := by decide +kernel
theorem dL_pages_17 : decode cL_pages 17 = .ok (.iload 4, 2) := by decide +kernel
theorem dL_pages_19 : decode cL_pages 19 = .ok (.invokestatic 148, 3) := by decide +kernel
theorem dL_pages_22 : decode cL_pages 22 = .ok (.istore 5, 2) := by decide +kernel
theorem dL_pages_24 : decode cL_pages 24 = .ok (.iload 5, 2) := by decide +kernel
theorem dL_pages_26 : decode cL_pages 26 = .ok (.iconst 1, 1) := by decide +kernel
theorem dL_pages_27 : decode cL_pages 27 = .ok (.if_icmp .lt 29, 3) := by decide +kernel
theorem dL_pages_30 : decode cL_pages 30 = .ok (.iload 5, 2) := by decide +kernel
theorem dL_pages_32 : decode cL_pages 32 = .ok (.aload_n 1, 1) := by decide +kernel
theorem dL_pages_33 : decode cL_pages 33 = .ok (.iconst 5, 1) := by decide +kernel
theorem dL_pages_34 : decode cL_pages 34 = .ok (.iaload, 1) := by decide +kernel
theorem dL_pages_35 : decode cL_pages 35 = .ok (.if_icmp .gt 21, 3) := by decide +kernel
theorem dL_pages_38 : decode cL_pages 38 = .ok (.iload 4, 2) := by decide +kernel
theorem dL_pages_40 : decode cL_pages 40 = .ok (.iload_n 2, 1) := by decide +kernel
theorem dL_pages_41 : decode cL_pages 41 = .ok (.iconst 1, 1) := by decide +kernel
theorem dL_pages_42 : decode cL_pages 42 = .ok (.isub, 1) := by decide +kernel
theorem dL_pages_43 : decode cL_pages 43 = .ok (.if_icmp .ge 15, 3) := by decide +kernel
theorem dL_pages_46 : decode cL_pages 46 = .ok (.iload 5, 2) := by decide +kernel
theorem dL_pages_48 : decode cL_pages 48 = .ok (.aload_n 1, 1) := by decide +kernel
theorem dL_pages_49 : decode cL_pages 49 = .ok (.iconst 5, 1) := by decide +kernel
theorem dL_pages_50 : decode cL_pages 50 = .ok (.iaload, 1) := by decide +kernel
theorem dL_pages_51 : decode cL_pages 51 = .ok (.iconst 1, 1) := by decide +kernel
theorem dL_pages_52 : decode cL_pages 52 = .ok (.isub, 1) := by decide +kernel
theorem dL_pages_53 : decode cL_pages 53 = .ok (.if_icmp .ge 5, 3) := by decide +kernel
theorem dL_pages_56 : decode cL_pages 56 = .ok (.iconst 0, 1) := by decide +kernel
theorem dL_pages_57 : decode cL_pages 57 = .ok (.ireturn, 1) := by decide +kernel
theorem dL_pages_58 : decode cL_pages 58 = .ok (.iconst 0, 1) := by decide +kernel
theorem dL_pages_59 : decode cL_pages 59 = .ok (.istore 6, 2) := by decide +kernel
theorem dL_pages_61 : decode cL_pages 61 = .ok (.iload 6, 2) := by decide +kernel
theorem dL_pages_63 : decode cL_pages 63 = .ok (.iload 5, 2) := by decide +kernel
theorem dL_pages_65 : decode cL_pages 65 = .ok (.if_icmp .ge 24, 3) := by decide +kernel
theorem dL_pages_68 : decode cL_pages 68 = .ok (.aload_n 0, 1) := by decide +kernel
theorem dL_pages_69 : decode cL_pages 69 = .ok (.iload_n 3, 1) := by decide +kernel
theorem dL_pages_70 : decode cL_pages 70 = .ok (.invokestatic 150, 3) := by decide +kernel
theorem dL_pages_73 : decode cL_pages 73 = .ok (.iload 4, 2) := by decide +kernel
theorem dL_pages_75 : decode cL_pages 75 = .ok (.if_icmp .eq 5, 3) := by decide +kernel
theorem dL_pages_78 : decode cL_pages 78 = .ok (.iconst 0, 1) := by decide +kernel
theorem dL_pages_79 : decode cL_pages 79 = .ok (.ireturn, 1) := by decide +kernel
theorem dL_pages_80 : decode cL_pages 80 = .ok (.iinc 3 1, 3) := by decide +kernel
theorem dL_pages_83 : decode cL_pages 83 = .ok (.iinc 6 1, 3) := by decide +kernel
theorem dL_pages_86 : decode cL_pages 86 = .ok (.goto (-25), 3) := by decide +kernel
theorem dL_pages_89 : decode cL_pages 89 = .ok (.iinc 4 1, 3) := by decide +kernel
theorem dL_pages_92 : decode cL_pages 92 = .ok (.goto (-82), 3) := by decide +kernel
theorem dL_pages_95 : decode cL_pages 95 = .ok (.iload_n 3, 1) := by decide +kernel
theorem dL_pages_96 : decode cL_pages 96 = .ok (.aload_n 0, 1) := by decide +kernel
theorem dL_pages_97 : decode cL_pages 97 = .ok (.invokevirtual 117, 3) := by decide +kernel
theorem dL_pages_100 : decode cL_pages 100 = .ok (.if_icmp .ne 53, 3) := by decide +kernel
theorem dL_pages_103 : decode cL_pages 103 = .ok (.aload_n 0, 1) := by decide +kernel
theorem dL_pages_104 : decode cL_pages 104 = .ok (.invokevirtual 152, 3) := by decide +kernel
theorem dL_pages_107 : decode cL_pages 107 = .ok (.ifCond .lt 46, 3) := by decide +kernel
theorem dL_pages_110 : decode cL_pages 110 = .ok (.aload_n 0, 1) := by decide +kernel
theorem dL_pages_111 : decode cL_pages 111 = .ok (.invokevirtual 155, 3) := by decide +kernel
theorem dL_pages_114 : decode cL_pages 114 = .ok (.ifCond .lt 39, 3) := by decide +kernel
theorem dL_pages_117 : decode cL_pages 117 = .ok (.aload_n 0, 1) := by decide +kernel
theorem dL_pages_118 : decode cL_pages 118 = .ok (.invokevirtual 152, 3) := by decide +kernel
theorem dL_pages_121 : decode cL_pages 121 = .ok (.aload_n 0, 1) := by decide +kernel
theorem dL_pages_122 : decode cL_pages 122 = .ok (.invokevirtual 155, 3) := by decide +kernel
theorem dL_pages_125 : decode cL_pages 125 = .ok (.iadd, 1) := by decide +kernel
theorem dL_pages_126 : decode cL_pages 126 = .ok (.iconst 2, 1) := by decide +kernel
theorem dL_pages_127 : decode cL_pages 127 = .ok (.iload_n 2, 1) := by decide +kernel
theorem dL_pages_128 : decode cL_pages 128 = .ok (.imul, 1) := by decide +kernel
theorem dL_pages_129 : decode cL_pages 129 = .ok (.if_icmp .gt 24, 3) := by decide +kernel
theorem dL_pages_132 : decode cL_pages 132 = .ok (.iload_n 2, 1) := by decide +kernel
theorem dL_pages_133 : decode cL_pages 133 = .ok (.iconst 1, 1) := by decide +kernel
theorem dL_pages_134 : decode cL_pages 134 = .ok (.if_icmp .gt 15, 3) := by decide +kernel
theorem dL_pages_137 : decode cL_pages 137 = .ok (.aload_n 0, 1) := by decide +kernel
theorem dL_pages_138 : decode cL_pages 138 = .ok (.invokevirtual 152, 3) := by decide +kernel
theorem dL_pages_141 : decode cL_pages 141 = .ok (.aload_n 0, 1) := by decide +kernel
theorem dL_pages_142 : decode cL_pages 142 = .ok (.invokevirtual 155, 3) := by decide +kernel
theorem dL_pages_145 : decode cL_pages 145 = .ok (.iadd, 1) := by decide +kernel
theorem dL_pages_146 : decode cL_pages 146 = .ok (.ifCond .ne 7, 3) := by decide +kernel
theorem dL_pages_149 : decode cL_pages 149 = .ok (.iconst 1, 1) := by decide +kernel
theorem dL_pages_150 : decode cL_pages 150 = .ok (.goto 4, 3) := by decide +kernel
theorem dL_pages_153 : decode cL_pages 153 = .ok (.iconst 0, 1) := by decide +kernel
theorem dL_pages_154 : decode cL_pages 154 = .ok (.ireturn, 1) := by decide +kernel
theorem dL_print_0 : decode cL_print 0 = .ok (.ldc2_w 158, 3) := by decide +kernel
theorem dL_print_3 : decode cL_print 3 = .ok (.aload_n 0, 1) := by decide +kernel
theorem dL_print_4 : decode cL_print 4 = .ok (.invokevirtual 86, 3) := by decide +kernel
theorem dL_print_7 : decode cL_print 7 = .ok (.i2l, 1) := by decide +kernel
theorem dL_print_8 : decode cL_print 8 = .ok (.lmul, 1) := by decide +kernel
theorem dL_print_9 : decode cL_print 9 = .ok (.aload_n 0, 1) := by decide +kernel
theorem dL_print_10 : decode cL_print 10 = .ok (.invokevirtual 142, 3) := by decide +kernel
theorem dL_print_13 : decode cL_print 13 = .ok (.i2l, 1) := by decide +kernel
theorem dL_print_14 : decode cL_print 14 = .ok (.ladd, 1) := by decide +kernel
theorem dL_print_15 : decode cL_print 15 = .ok (.lstore_n 1, 1) := by decide +kernel
theorem dL_print_16 : decode cL_print 16 = .ok (.iconst 0, 1) := by decide +kernel
theorem dL_print_17 : decode cL_print 17 = .ok (.istore_n 3, 1) := by decide +kernel
theorem dL_print_18 : decode cL_print 18 = .ok (.iload_n 3, 1) := by decide +kernel
theorem dL_print_19 : decode cL_print 19 = .ok (.aload_n 0, 1) := by decide +kernel
theorem dL_print_20 : decode cL_print 20 = .ok (.invokevirtual 86, 3) := by decide +kernel
theorem dL_print_23 : decode cL_print 23 = .ok (.if_icmp .ge 46, 3) := by decide +kernel
theorem dL_print_26 : decode cL_print 26 = .ok (.ldc2_w 158, 3) := by decide +kernel
theorem dL_print_29 : decode cL_print 29 = .ok (.lload_n 1, 1) := by decide +kernel
theorem dL_print_30 : decode cL_print 30 = .ok (.lmul, 1) := by decide +kernel
theorem dL_print_31 : decode cL_print 31 = .ok (.ldc2_w 160, 3) := by decide +kernel
theorem dL_print_34 : decode cL_print 34 = .ok (.aload_n 0, 1) := by decide +kernel
theorem dL_print_35 : decode cL_print 35 = .ok (.iload_n 3, 1) := by decide +kernel
theorem dL_print_36 : decode cL_print 36 = .ok (.invokestatic 124, 3) := by decide +kernel
theorem dL_print_39 : decode cL_print 39 = .ok (.i2l, 1) := by decide +kernel
theorem dL_print_40 : decode cL_print 40 = .ok (.lmul, 1) := by decide +kernel
theorem dL_print_41 : decode cL_print 41 = .ok (.ladd, 1) := by decide +kernel
theorem dL_print_42 : decode cL_print 42 = .ok (.aload_n 0, 1) := by decide +kernel
theorem dL_print_43 : decode cL_print 43 = .ok (.iload_n 3, 1) := by decide +kernel
theorem dL_print_44 : decode cL_print 44 = .ok (.invokestatic 115, 3) := by decide +kernel
theorem dL_print_47 : decode cL_print 47 = .ok (.i2l, 1) := by decide +kernel
theorem dL_print_48 : decode cL_print 48 = .ok (.ladd, 1) := by decide +kernel
theorem dL_print_49 : decode cL_print 49 = .ok (.lstore_n 1, 1) := by decide +kernel
theorem dL_print_50 : decode cL_print 50 = .ok (.ldc2_w 158, 3) := by decide +kernel
theorem dL_print_53 : decode cL_print 53 = .ok (.lload_n 1, 1) := by decide +kernel
theorem dL_print_54 : decode cL_print 54 = .ok (.lmul, 1) := by decide +kernel
theorem dL_print_55 : decode cL_print 55 = .ok (.aload_n 0, 1) := by decide +kernel
theorem dL_print_56 : decode cL_print 56 = .ok (.iload_n 3, 1) := by decide +kernel
theorem dL_print_57 : decode cL_print 57 = .ok (.invokestatic 122, 3) := by decide +kernel
theorem dL_print_60 : decode cL_print 60 = .ok (.i2l, 1) := by decide +kernel
theorem dL_print_61 : decode cL_print 61 = .ok (.ladd, 1) := by decide +kernel
theorem dL_print_62 : decode cL_print 62 = .ok (.lstore_n 1, 1) := by decide +kernel
theorem dL_print_63 : decode cL_print 63 = .ok (.iinc 3 1, 3) := by decide +kernel
theorem dL_print_66 : decode cL_print 66 = .ok (.goto (-48), 3) := by decide +kernel
theorem dL_print_69 : decode cL_print 69 = .ok (.iconst 0, 1) := by decide +kernel
theorem dL_print_70 : decode cL_print 70 = .ok (.istore_n 3, 1) := by decide +kernel
theorem dL_print_71 : decode cL_print 71 = .ok (.iload_n 3, 1) := by decide +kernel
theorem dL_print_72 : decode cL_print 72 = .ok (.aload_n 0, 1) := by decide +kernel
theorem dL_print_73 : decode cL_print 73 = .ok (.invokevirtual 145, 3) := by decide +kernel
theorem dL_print_76 : decode cL_print 76 = .ok (.if_icmp .ge 22, 3) := by decide +kernel
theorem dL_print_79 : decode cL_print 79 = .ok (.ldc2_w 158, 3) := by decide +kernel
theorem dL_print_82 : decode cL_print 82 = .ok (.lload_n 1, 1) := by decide +kernel
theorem dL_print_83 : decode cL_print 83 = .ok (.lmul, 1) := by decide +kernel
theorem dL_print_84 : decode cL_print 84 = .ok (.aload_n 0, 1) := by decide +kernel
theorem dL_print_85 : decode cL_print 85 = .ok (.iload_n 3, 1) := by decide +kernel
theorem dL_print_86 : decode cL_print 86 = .ok (.invokestatic 148, 3) := by decide +kernel
theorem dL_print_89 : decode cL_print 89 = .ok (.i2l, 1) := by decide +kernel
theorem dL_print_90 : decode cL_print 90 = .ok (.ladd, 1) := by decide +kernel
theorem dL_print_91 : decode cL_print 91 = .ok (.lstore_n 1, 1) := by decide +kernel
theorem dL_print_92 : decode cL_print 92 = .ok (.iinc 3 1, 3) := by decide +kernel
theorem dL_print_95 : decode cL_print 95 = .ok (.goto (-24), 3) := by decide +kernel
theorem dL_print_98 : decode cL_print 98 = .ok (.lload_n 1, 1) := by decide +kernel
theorem dL_print_99 : decode cL_print 99 = .ok (.ldc2_w 158, 3) := by decide +kernel
theorem dL_print_102 : decode cL_print 102 = .ok (.lmul, 1) := by decide +kernel
theorem dL_print_103 : decode cL_print 103 = .ok (.aload_n 0, 1) := by decide +kernel
theorem dL_print_104 : decode cL_print 104 = .ok (.bipush 50, 2) := by decide +kernel
theorem dL_print_106 : decode cL_print 106 = .ok (.iconst 1, 1) := by decide +kernel
theorem dL_print_107 : decode cL_print 107 = .ok (.invokestatic 162, 3) := by decide +kernel
theorem dL_print_110 : decode cL_print 110 = .ok (.i2l, 1) := by decide +kernel
theorem dL_print_111 : decode cL_print 111 = .ok (.ladd, 1) := by decide +kernel
theorem dL_print_112 : decode cL_print 112 = .ok (.lreturn, 1) := by decide +kernel
theorem dL_columns_0 : decode cL_columns 0 = .ok (.aload_n 0, 1) := by decide +kernel
theorem dL_columns_1 : decode cL_columns 1 = .ok (.invokestatic 165, 3) := by decide +kernel
theorem dL_columns_4 : decode cL_columns 4 = .ok (.lstore_n 3, 1) := by decide +kernel
theorem dL_columns_5 : decode cL_columns 5 = .ok (.bipush 30, 2) := by decide +kernel
theorem dL_columns_7 : decode cL_columns 7 = .ok (.iload_n 2, 1) := by decide +kernel
theorem dL_columns_8 : decode cL_columns 8 = .ok (.bipush 71, 2) := by decide +kernel
theorem dL_columns_10 : decode cL_columns 10 = .ok (.invokestatic 89, 3) := by decide +kernel
theorem dL_columns_13 : decode cL_columns 13 = .ok (.iadd, 1) := by decide +kernel
theorem dL_columns_14 : decode cL_columns 14 = .ok (.istore 5, 2) := by decide +kernel
theorem dL_columns_16 : decode cL_columns 16 = .ok (.iload 5, 2) := by decide +kernel
theorem dL_columns_18 : decode cL_columns 18 = .ok (.iload_n 2, 1) := by decide +kernel
theorem dL_columns_19 : decode cL_columns 19 = .ok (.bipush 7, 2) := by decide +kernel
theorem dL_columns_21 : decode cL_columns 21 = .ok (.ishr, 1) := by decide +kernel
theorem dL_columns_22 : decode cL_columns 22 = .ok (.bipush 101, 2) := by decide +kernel
theorem dL_columns_24 : decode cL_columns 24 = .ok (.iload 5, 2) := by decide +kernel
theorem dL_columns_26 : decode cL_columns 26 = .ok (.isub, 1) := by decide +kernel
theorem dL_columns_27 : decode cL_columns 27 = .ok (.bipush 9, 2) := by decide +kernel
theorem dL_columns_29 : decode cL_columns 29 = .ok (.if_icmp .ge 11, 3) := by decide +kernel
theorem dL_columns_32 : decode cL_columns 32 = .ok (.bipush 101, 2) := by decide +kernel
theorem dL_columns_34 : decode cL_columns 34 = .ok (.iload 5, 2) := by decide +kernel
theorem dL_columns_36 : decode cL_columns 36 = .ok (.isub, 1) := by decide +kernel
theorem dL_columns_37 : decode cL_columns 37 = .ok (.goto 5, 3) := by decide +kernel
theorem dL_columns_40 : decode cL_columns 40 = .ok (.bipush 9, 2) := by decide +kernel
theorem dL_columns_42 : decode cL_columns 42 = .ok (.invokestatic 89, 3) := by decide +kernel
theorem dL_columns_45 : decode cL_columns 45 = .ok (.iadd, 1) := by decide +kernel
theorem dL_columns_46 : decode cL_columns 46 = .ok (.istore 6, 2) := by decide +kernel
theorem dL_columns_48 : decode cL_columns 48 = .ok (.aload_n 0, 1) := by decide +kernel
theorem dL_columns_49 : decode cL_columns 49 = .ok (.iload 5, 2) := by decide +kernel
theorem dL_columns_51 : decode cL_columns 51 = .ok (.iload 6, 2) := by decide +kernel
theorem dL_columns_53 : decode cL_columns 53 = .ok (.invokestatic 169, 3) := by decide +kernel
theorem dL_columns_56 : decode cL_columns 56 = .ok (.istore 7, 2) := by decide +kernel
theorem dL_columns_58 : decode cL_columns 58 = .ok (.aload_n 0, 1) := by decide +kernel
theorem dL_columns_59 : decode cL_columns 59 = .ok (.iload 7, 2) := by decide +kernel
theorem dL_columns_61 : decode cL_columns 61 = .ok (.iconst 1, 1) := by decide +kernel
theorem dL_columns_62 : decode cL_columns 62 = .ok (.invokestatic 162, 3) := by decide +kernel
theorem dL_columns_65 : decode cL_columns 65 = .ok (.istore 8, 2) := by decide +kernel
theorem dL_columns_67 : decode cL_columns 67 = .ok (.iload 7, 2) := by decide +kernel
theorem dL_columns_69 : decode cL_columns 69 = .ok (.iload 5, 2) := by decide +kernel
theorem dL_columns_71 : decode cL_columns 71 = .ok (.if_icmp .lt 14, 3) := by decide +kernel
theorem dL_columns_74 : decode cL_columns 74 = .ok (.iload 7, 2) := by decide +kernel
theorem dL_columns_76 : decode cL_columns 76 = .ok (.iload 6, 2) := by decide +kernel
theorem dL_columns_78 : decode cL_columns 78 = .ok (.if_icmp .gt 7, 3) := by decide +kernel
theorem dL_columns_81 : decode cL_columns 81 = .ok (.iconst 1, 1) := by decide +kernel
theorem dL_columns_82 : decode cL_columns 82 = .ok (.goto 4, 3) := by decide +kernel
theorem dL_columns_85 : decode cL_columns 85 = .ok (.iconst 0, 1) := by decide +kernel
theorem dL_columns_86 : decode cL_columns 86 = .ok (.istore 9, 2) := by decide +kernel
theorem dL_columns_88 : decode cL_columns 88 = .ok (.iload 5, 2) := by decide +kernel
theorem dL_columns_90 : decode cL_columns 90 = .ok (.istore 10, 2) := by decide +kernel
theorem dL_columns_92 : decode cL_columns 92 = .ok (.iload 10, 2) := by decide +kernel
theorem dL_columns_94 : decode cL_columns 94 = .ok (.iload 6, 2) := by decide +kernel
theorem dL_columns_96 : decode cL_columns 96 = .ok (.if_icmp .gt 66, 3) := by decide +kernel
theorem dL_columns_99 : decode cL_columns 99 = .ok (.iload 9, 2) := by decide +kernel
theorem dL_columns_101 : decode cL_columns 101 = .ok (.ifCond .eq 61, 3) := by decide +kernel
theorem dL_columns_104 : decode cL_columns 104 = .ok (.aload_n 0, 1) := by decide +kernel
theorem dL_columns_105 : decode cL_columns 105 = .ok (.iload 10, 2) := by decide +kernel
theorem dL_columns_107 : decode cL_columns 107 = .ok (.iconst 1, 1) := by decide +kernel
theorem dL_columns_108 : decode cL_columns 108 = .ok (.invokestatic 162, 3) := by decide +kernel
theorem dL_columns_111 : decode cL_columns 111 = .ok (.istore 11, 2) := by decide +kernel
theorem dL_columns_113 : decode cL_columns 113 = .ok (.iload 11, 2) := by decide +kernel
theorem dL_columns_115 : decode cL_columns 115 = .ok (.aload_n 0, 1) := by decide +kernel
theorem dL_columns_116 : decode cL_columns 116 = .ok (.iload 10, 2) := by decide +kernel
theorem dL_columns_118 : decode cL_columns 118 = .ok (.iconst 0, 1) := by decide +kernel
theorem dL_columns_119 : decode cL_columns 119 = .ok (.invokestatic 162, 3) := by decide +kernel
theorem dL_columns_122 : decode cL_columns 122 = .ok (.if_icmp .gt 31, 3) := by decide +kernel
theorem dL_columns_125 : decode cL_columns 125 = .ok (.iload 10, 2) := by decide +kernel
theorem dL_columns_127 : decode cL_columns 127 = .ok (.iload 7, 2) := by decide +kernel
theorem dL_columns_129 : decode cL_columns 129 = .ok (.if_icmp .ge 13, 3) := by decide +kernel
theorem dL_columns_132 : decode cL_columns 132 = .ok (.iload 11, 2) := by decide +kernel
theorem dL_columns_134 : decode cL_columns 134 = .ok (.iload 8, 2) := by decide +kernel
theorem dL_columns_136 : decode cL_columns 136 = .ok (.if_icmp .le 17, 3) := by decide +kernel
theorem dL_columns_139 : decode cL_columns 139 = .ok (.goto 10, 3) := by decide +kernel
theorem dL_columns_142 : decode cL_columns 142 = .ok (.iload 11, 2) := by decide +kernel
theorem dL_columns_144 : decode cL_columns 144 = .ok (.iload 8, 2) := by decide +kernel
theorem dL_columns_146 : decode cL_columns 146 = .ok (.if_icmp .lt 7, 3) := by decide +kernel
theorem dL_columns_149 : decode cL_columns 149 = .ok (.iconst 1, 1) := by decide +kernel
theorem dL_columns_150 : decode cL_columns 150 = .ok (.goto 4, 3) := by decide +kernel
theorem dL_columns_153 : decode cL_columns 153 = .ok (.iconst 0, 1) := by decide +kernel
theorem dL_columns_154 : decode cL_columns 154 = .ok (.istore 9, 2) := by decide +kernel
theorem dL_columns_156 : decode cL_columns 156 = .ok (.iinc 10 1, 3) := by decide +kernel
theorem dL_columns_159 : decode cL_columns 159 = .ok (.goto (-67), 3) := by decide +kernel
theorem dL_columns_162 : decode cL_columns 162 = .ok (.aload_n 0, 1) := by decide +kernel
theorem dL_columns_163 : decode cL_columns 163 = .ok (.aload_n 1, 1) := by decide +kernel
theorem dL_columns_164 : decode cL_columns 164 = .ok (.iconst 0, 1) := by decide +kernel
theorem dL_columns_165 : decode cL_columns 165 = .ok (.iaload, 1) := by decide +kernel
theorem dL_columns_166 : decode cL_columns 166 = .ok (.iconst 1, 1) := by decide +kernel
theorem dL_columns_167 : decode cL_columns 167 = .ok (.invokestatic 162, 3) := by decide +kernel
theorem dL_columns_170 : decode cL_columns 170 = .ok (.istore 10, 2) := by decide +kernel
theorem dL_columns_172 : decode cL_columns 172 = .ok (.aload_n 0, 1) := by decide +kernel
theorem dL_columns_173 : decode cL_columns 173 = .ok (.aload_n 1, 1) := by decide +kernel
theorem dL_columns_174 : decode cL_columns 174 = .ok (.iconst 0, 1) := by decide +kernel
theorem dL_columns_175 : decode cL_columns 175 = .ok (.iaload, 1) := by decide +kernel
theorem dL_columns_176 : decode cL_columns 176 = .ok (.iconst 0, 1) := by decide +kernel
theorem dL_columns_177 : decode cL_columns 177 = .ok (.invokestatic 162, 3) := by decide +kernel
theorem dL_columns_180 : decode cL_columns 180 = .ok (.istore 11, 2) := by decide +kernel
theorem dL_columns_182 : decode cL_columns 182 = .ok (.aload_n 0, 1) := by decide +kernel
theorem dL_columns_183 : decode cL_columns 183 = .ok (.iconst 1, 1) := by decide +kernel
theorem dL_columns_184 : decode cL_columns 184 = .ok (.invokevirtual 111, 3) := by decide +kernel
theorem dL_columns_187 : decode cL_columns 187 = .ok (.istore 12, 2) := by decide +kernel
theorem dL_columns_189 : decode cL_columns 189 = .ok (.iload 9, 2) := by decide +kernel
theorem dL_columns_191 : decode cL_columns 191 = .ok (.ifCond .eq 99, 3) := by decide +kernel
theorem dL_columns_194 : decode cL_columns 194 = .ok (.aload_n 0, 1) := by decide +kernel
theorem dL_columns_195 : decode cL_columns 195 = .ok (.invokevirtual 142, 3) := by decide +kernel
theorem dL_columns_198 : decode cL_columns 198 = .ok (.iload 10, 2) := by decide +kernel
theorem dL_columns_200 : decode cL_columns 200 = .ok (.if_icmp .ne 90, 3) := by decide +kernel
theorem dL_columns_203 : decode cL_columns 203 = .ok (.aload_n 0, 1) := by decide +kernel
theorem dL_columns_204 : decode cL_columns 204 = .ok (.invokevirtual 171, 3) := by decide +kernel
theorem dL_columns_207 : decode cL_columns 207 = .ok (.iload 11, 2) := by decide +kernel
theorem dL_columns_209 : decode cL_columns 209 = .ok (.iload 10, 2) := by decide +kernel
theorem dL_columns_211 : decode cL_columns 211 = .ok (.isub, 1) := by decide +kernel
theorem dL_columns_212 : decode cL_columns 212 = .ok (.if_icmp .ne 78, 3) := by decide +kernel
theorem dL_columns_215 : decode cL_columns 215 = .ok (.aload_n 0, 1) := by decide +kernel
theorem dL_columns_216 : decode cL_columns 216 = .ok (.iconst 0, 1) := by decide +kernel
theorem dL_columns_217 : decode cL_columns 217 = .ok (.invokevirtual 111, 3) := by decide +kernel
theorem dL_columns_220 : decode cL_columns 220 = .ok (.ifCond .eq 70, 3) := by decide +kernel
theorem dL_columns_223 : decode cL_columns 223 = .ok (.aload_n 0, 1) := by decide +kernel
theorem dL_columns_224 : decode cL_columns 224 = .ok (.invokevirtual 142, 3) := by decide +kernel
theorem dL_columns_227 : decode cL_columns 227 = .ok (.iload 11, 2) := by decide +kernel
theorem dL_columns_229 : decode cL_columns 229 = .ok (.if_icmp .ne 61, 3) := by decide +kernel
theorem dL_columns_232 : decode cL_columns 232 = .ok (.aload_n 0, 1) := by decide +kernel
theorem dL_columns_233 : decode cL_columns 233 = .ok (.invokevirtual 171, 3) := by decide +kernel
theorem dL_columns_236 : decode cL_columns 236 = .ok (.iload 11, 2) := by decide +kernel
theorem dL_columns_238 : decode cL_columns 238 = .ok (.iload 10, 2) := by decide +kernel
theorem dL_columns_240 : decode cL_columns 240 = .ok (.isub, 1) := by decide +kernel
theorem dL_columns_241 : decode cL_columns 241 = .ok (.if_icmp .ne 49, 3) := by decide +kernel
theorem dL_columns_244 : decode cL_columns 244 = .ok (.aload_n 0, 1) := by decide +kernel
theorem dL_columns_245 : decode cL_columns 245 = .ok (.invokestatic 174, 3) := by decide +kernel
theorem dL_columns_248 : decode cL_columns 248 = .ok (.ifCond .lt 42, 3) := by decide +kernel
theorem dL_columns_251 : decode cL_columns 251 = .ok (.aload_n 0, 1) := by decide +kernel
theorem dL_columns_252 : decode cL_columns 252 = .ok (.invokestatic 174, 3) := by decide +kernel
theorem dL_columns_255 : decode cL_columns 255 = .ok (.ifCond .lt 35, 3) := by decide +kernel
theorem dL_columns_258 : decode cL_columns 258 = .ok (.aload_n 0, 1) := by decide +kernel
theorem dL_columns_259 : decode cL_columns 259 = .ok (.invokestatic 165, 3) := by decide +kernel
theorem dL_columns_262 : decode cL_columns 262 = .ok (.lload_n 3, 1) := by decide +kernel
theorem dL_columns_263 : decode cL_columns 263 = .ok (.lcmp, 1) := by decide +kernel
theorem dL_columns_264 : decode cL_columns 264 = .ok (.ifCond .ne 26, 3) := by decide +kernel
theorem dL_columns_267 : decode cL_columns 267 = .ok (.aload_n 0, 1) := by decide +kernel
theorem dL_columns_268 : decode cL_columns 268 = .ok (.invokevirtual 142, 3) := by decide +kernel
theorem dL_columns_271 : decode cL_columns 271 = .ok (.iload 12, 2) := by decide +kernel
theorem dL_columns_273 : decode cL_columns 273 = .ok (.ifCond .eq 8, 3) := by decide +kernel
theorem dL_columns_276 : decode cL_columns 276 = .ok (.iload 10, 2) := by decide +kernel
theorem dL_columns_278 : decode cL_columns 278 = .ok (.goto 5, 3) := by decide +kernel
theorem dL_columns_281 : decode cL_columns 281 = .ok (.iload 11, 2) := by decide +kernel
theorem dL_columns_283 : decode cL_columns 283 = .ok (.if_icmp .ne 7, 3) := by decide +kernel
theorem dL_columns_286 : decode cL_columns 286 = .ok (.iconst 1, 1) := by decide +kernel
theorem dL_columns_287 : decode cL_columns 287 = .ok (.goto 4, 3) := by decide +kernel
theorem dL_columns_290 : decode cL_columns 290 = .ok (.iconst 0, 1) := by decide +kernel
theorem dL_columns_291 : decode cL_columns 291 = .ok (.istore 9, 2) := by decide +kernel
theorem dL_columns_293 : decode cL_columns 293 = .ok (.iload 9, 2) := by decide +kernel
theorem dL_columns_295 : decode cL_columns 295 = .ok (.ifCond .eq 40, 3) := by decide +kernel
theorem dL_columns_298 : decode cL_columns 298 = .ok (.aload_n 0, 1) := by decide +kernel
theorem dL_columns_299 : decode cL_columns 299 = .ok (.iload 7, 2) := by decide +kernel
theorem dL_columns_301 : decode cL_columns 301 = .ok (.invokestatic 102, 3) := by decide +kernel
theorem dL_columns_304 : decode cL_columns 304 = .ok (.aload_n 1, 1) := by decide +kernel
theorem dL_columns_305 : decode cL_columns 305 = .ok (.iconst 0, 1) := by decide +kernel
theorem dL_columns_306 : decode cL_columns 306 = .ok (.iaload, 1) := by decide +kernel
theorem dL_columns_307 : decode cL_columns 307 = .ok (.if_icmp .ne 28, 3) := by decide +kernel
theorem dL_columns_310 : decode cL_columns 310 = .ok (.iload 12, 2) := by decide +kernel
theorem dL_columns_312 : decode cL_columns 312 = .ok (.ifCond .eq 12, 3) := by decide +kernel
theorem dL_columns_315 : decode cL_columns 315 = .ok (.aload_n 0, 1) := by decide +kernel
theorem dL_columns_316 : decode cL_columns 316 = .ok (.invokevirtual 142, 3) := by decide +kernel
theorem dL_columns_319 : decode cL_columns 319 = .ok (.iload 8, 2) := by decide +kernel
theorem dL_columns_321 : decode cL_columns 321 = .ok (.if_icmp .ne 14, 3) := by decide +kernel
theorem dL_columns_324 : decode cL_columns 324 = .ok (.aload_n 0, 1) := by decide +kernel
theorem dL_columns_325 : decode cL_columns 325 = .ok (.invokestatic 174, 3) := by decide +kernel
theorem dL_columns_328 : decode cL_columns 328 = .ok (.ifCond .lt 7, 3) := by decide +kernel
theorem dL_columns_331 : decode cL_columns 331 = .ok (.iconst 1, 1) := by decide +kernel
theorem dL_columns_332 : decode cL_columns 332 = .ok (.goto 4, 3) := by decide +kernel
theorem dL_columns_335 : decode cL_columns 335 = .ok (.iconst 0, 1) := by decide +kernel
theorem dL_columns_336 : decode cL_columns 336 = .ok (.istore 9, 2) := by decide +kernel
theorem dL_columns_338 : decode cL_columns 338 = .ok (.iload 9, 2) := by decide +kernel
theorem dL_columns_340 : decode cL_columns 340 = .ok (.ifCond .eq 16, 3) := by decide +kernel
theorem dL_columns_343 : decode cL_columns 343 = .ok (.aload_n 0, 1) := by decide +kernel
theorem dL_columns_344 : decode cL_columns 344 = .ok (.invokestatic 165, 3) := by decide +kernel
theorem dL_columns_347 : decode cL_columns 347 = .ok (.lload_n 3, 1) := by decide +kernel
theorem dL_columns_348 : decode cL_columns 348 = .ok (.lcmp, 1) := by decide +kernel
theorem dL_columns_349 : decode cL_columns 349 = .ok (.ifCond .ne 7, 3) := by decide +kernel
theorem dL_columns_352 : decode cL_columns 352 = .ok (.iconst 1, 1) := by decide +kernel
theorem dL_columns_353 : decode cL_columns 353 = .ok (.goto 4, 3) := by decide +kernel
theorem dL_columns_356 : decode cL_columns 356 = .ok (.iconst 0, 1) := by decide +kernel
theorem dL_columns_357 : decode cL_columns 357 = .ok (.ireturn, 1) := by decide +kernel
theorem dL_marked_0 : decode cL_marked 0 = .ok (.aload_n 0, 1) := by decide +kernel
theorem dL_marked_1 : decode cL_marked 1 = .ok (.iload_n 1, 1) := by decide +kernel
theorem dL_marked_2 : decode cL_marked 2 = .ok (.iload_n 2, 1) := by decide +kernel
theorem dL_marked_3 : decode cL_marked 3 = .ok (.invokestatic 177, 3) := by decide +kernel
theorem dL_marked_6 : decode cL_marked 6 = .ok (.istore_n 3, 1) := by decide +kernel
theorem dL_marked_7 : decode cL_marked 7 = .ok (.iload_n 1, 1) := by decide +kernel
theorem dL_marked_8 : decode cL_marked 8 = .ok (.aload_n 0, 1) := by decide +kernel
theorem dL_marked_9 : decode cL_marked 9 = .ok (.invokevirtual 86, 3) := by decide +kernel
theorem dL_marked_12 : decode cL_marked 12 = .ok (.if_icmp .lt 15, 3) := by decide +kernel
theorem dL_marked_15 : decode cL_marked 15 = .ok (.iload_n 3, 1) := by decide +kernel
theorem dL_marked_16 : decode cL_marked 16 = .ok (.ldc 18, 2) := by decide +kernel
theorem dL_marked_18 : decode cL_marked 18 = .ok (.if_icmp .ne 7, 3) := by decide +kernel
theorem dL_marked_21 : decode cL_marked 21 = .ok (.iconst 1, 1) := by decide +kernel
theorem dL_marked_22 : decode cL_marked 22 = .ok (.goto 4, 3) := by decide +kernel
theorem dL_marked_25 : decode cL_marked 25 = .ok (.iconst 0, 1) := by decide +kernel
theorem dL_marked_26 : decode cL_marked 26 = .ok (.ireturn, 1) := by decide +kernel
theorem dL_marked_27 : decode cL_marked 27 = .ok (.aload_n 0, 1) := by decide +kernel
theorem dL_marked_28 : decode cL_marked 28 = .ok (.invokestatic 165, 3) := by decide +kernel
theorem dL_marked_31 : decode cL_marked 31 = .ok (.lstore 4, 2) := by decide +kernel
theorem dL_marked_33 : decode cL_marked 33 = .ok (.aload_n 0, 1) := by decide +kernel
theorem dL_marked_34 : decode cL_marked 34 = .ok (.iload_n 1, 1) := by decide +kernel
theorem dL_marked_35 : decode cL_marked 35 = .ok (.invokestatic 115, 3) := by decide +kernel
theorem dL_marked_38 : decode cL_marked 38 = .ok (.istore 6, 2) := by decide +kernel
theorem dL_marked_40 : decode cL_marked 40 = .ok (.iload_n 3, 1) := by decide +kernel
theorem dL_marked_41 : decode cL_marked 41 = .ok (.ifCond .lt 57, 3) := by decide +kernel
theorem dL_marked_44 : decode cL_marked 44 = .ok (.aload_n 0, 1) := by decide +kernel
theorem dL_marked_45 : decode cL_marked 45 = .ok (.iload_n 1, 1) := by decide +kernel
theorem dL_marked_46 : decode cL_marked 46 = .ok (.iload 6, 2) := by decide +kernel
theorem dL_marked_48 : decode cL_marked 48 = .ok (.invokestatic 177, 3) := by decide +kernel
theorem dL_marked_51 : decode cL_marked 51 = .ok (.aload_n 0, 1) := by decide +kernel
theorem dL_marked_52 : decode cL_marked 52 = .ok (.invokevirtual 142, 3) := by decide +kernel
theorem dL_marked_55 : decode cL_marked 55 = .ok (.if_icmp .ne 43, 3) := by decide +kernel
theorem dL_marked_58 : decode cL_marked 58 = .ok (.aload_n 0, 1) := by decide +kernel
theorem dL_marked_59 : decode cL_marked 59 = .ok (.iload_n 1, 1) := by decide +kernel
theorem dL_marked_60 : decode cL_marked 60 = .ok (.iload_n 2, 1) := by decide +kernel
theorem dL_marked_61 : decode cL_marked 61 = .ok (.invokestatic 100, 3) := by decide +kernel
theorem dL_marked_64 : decode cL_marked 64 = .ok (.iload 6, 2) := by decide +kernel
theorem dL_marked_66 : decode cL_marked 66 = .ok (.if_icmp .ne 32, 3) := by decide +kernel
theorem dL_marked_69 : decode cL_marked 69 = .ok (.aload_n 0, 1) := by decide +kernel
theorem dL_marked_70 : decode cL_marked 70 = .ok (.invokevirtual 142, 3) := by decide +kernel
theorem dL_marked_73 : decode cL_marked 73 = .ok (.iload_n 3, 1) := by decide +kernel
theorem dL_marked_74 : decode cL_marked 74 = .ok (.if_icmp .ne 24, 3) := by decide +kernel
theorem dL_marked_77 : decode cL_marked 77 = .ok (.aload_n 0, 1) := by decide +kernel
theorem dL_marked_78 : decode cL_marked 78 = .ok (.invokestatic 174, 3) := by decide +kernel
theorem dL_marked_81 : decode cL_marked 81 = .ok (.ifCond .lt 17, 3) := by decide +kernel
theorem dL_marked_84 : decode cL_marked 84 = .ok (.aload_n 0, 1) := by decide +kernel
theorem dL_marked_85 : decode cL_marked 85 = .ok (.invokestatic 165, 3) := by decide +kernel
theorem dL_marked_88 : decode cL_marked 88 = .ok (.lload 4, 2) := by decide +kernel
theorem dL_marked_90 : decode cL_marked 90 = .ok (.lcmp, 1) := by decide +kernel
theorem dL_marked_91 : decode cL_marked 91 = .ok (.ifCond .ne 7, 3) := by decide +kernel
theorem dL_marked_94 : decode cL_marked 94 = .ok (.iconst 1, 1) := by decide +kernel
theorem dL_marked_95 : decode cL_marked 95 = .ok (.goto 4, 3) := by decide +kernel
theorem dL_marked_98 : decode cL_marked 98 = .ok (.iconst 0, 1) := by decide +kernel
theorem dL_marked_99 : decode cL_marked 99 = .ok (.ireturn, 1) := by decide +kernel
theorem dL_law_0 : decode cL_law 0 = .ok (.new 11, 3) := by decide +kernel
theorem dL_law_3 : decode cL_law 3 = .ok (.dup, 1) := by decide +kernel
theorem dL_law_4 : decode cL_law 4 = .ok (.invokespecial 179, 3) := by decide +kernel
theorem dL_law_7 : decode cL_law 7 = .ok (.astore_n 1, 1) := by decide +kernel
theorem dL_law_8 : decode cL_law 8 = .ok (.bipush 6, 2) := by decide +kernel
theorem dL_law_10 : decode cL_law 10 = .ok (.newarray .int, 2) := by decide +kernel
theorem dL_law_12 : decode cL_law 12 = .ok (.astore_n 2, 1) := by decide +kernel
theorem dL_law_13 : decode cL_law 13 = .ok (.aload_n 2, 1) := by decide +kernel
theorem dL_law_14 : decode cL_law 14 = .ok (.iconst 0, 1) := by decide +kernel
theorem dL_law_15 : decode cL_law 15 = .ok (.bipush 60, 2) := by decide +kernel
theorem dL_law_17 : decode cL_law 17 = .ok (.iastore, 1) := by decide +kernel
theorem dL_law_18 : decode cL_law 18 = .ok (.aload_n 2, 1) := by decide +kernel
theorem dL_law_19 : decode cL_law 19 = .ok (.iconst 1, 1) := by decide +kernel
theorem dL_law_20 : decode cL_law 20 = .ok (.iconst 2, 1) := by decide +kernel
theorem dL_law_21 : decode cL_law 21 = .ok (.iastore, 1) := by decide +kernel
theorem dL_law_22 : decode cL_law 22 = .ok (.aload_n 2, 1) := by decide +kernel
theorem dL_law_23 : decode cL_law 23 = .ok (.iconst 2, 1) := by decide +kernel
theorem dL_law_24 : decode cL_law 24 = .ok (.iconst 3, 1) := by decide +kernel
theorem dL_law_25 : decode cL_law 25 = .ok (.iastore, 1) := by decide +kernel
theorem dL_law_26 : decode cL_law 26 = .ok (.aload_n 2, 1) := by decide +kernel
theorem dL_law_27 : decode cL_law 27 = .ok (.iconst 3, 1) := by decide +kernel
theorem dL_law_28 : decode cL_law 28 = .ok (.sipush 500, 3) := by decide +kernel
theorem dL_law_31 : decode cL_law 31 = .ok (.iastore, 1) := by decide +kernel
theorem dL_law_32 : decode cL_law 32 = .ok (.aload_n 2, 1) := by decide +kernel
theorem dL_law_33 : decode cL_law 33 = .ok (.iconst 4, 1) := by decide +kernel
theorem dL_law_34 : decode cL_law 34 = .ok (.sipush 300, 3) := by decide +kernel
theorem dL_law_37 : decode cL_law 37 = .ok (.iastore, 1) := by decide +kernel
theorem dL_law_38 : decode cL_law 38 = .ok (.aload_n 2, 1) := by decide +kernel
theorem dL_law_39 : decode cL_law 39 = .ok (.iconst 5, 1) := by decide +kernel
theorem dL_law_40 : decode cL_law 40 = .ok (.bipush 6, 2) := by decide +kernel
theorem dL_law_42 : decode cL_law 42 = .ok (.iastore, 1) := by decide +kernel
theorem dL_law_43 : decode cL_law 43 = .ok (.aload_n 1, 1) := by decide +kernel
theorem dL_law_44 : decode cL_law 44 = .ok (.aload_n 2, 1) := by decide +kernel
theorem dL_law_45 : decode cL_law 45 = .ok (.invokestatic 180, 3) := by decide +kernel
theorem dL_law_48 : decode cL_law 48 = .ok (.ifCond .eq 15, 3) := by decide +kernel
theorem dL_law_51 : decode cL_law 51 = .ok (.aload_n 1, 1) := by decide +kernel
theorem dL_law_52 : decode cL_law 52 = .ok (.aload_n 2, 1) := by decide +kernel
theorem dL_law_53 : decode cL_law 53 = .ok (.invokestatic 183, 3) := by decide +kernel
theorem dL_law_56 : decode cL_law 56 = .ok (.ifCond .eq 7, 3) := by decide +kernel
theorem dL_law_59 : decode cL_law 59 = .ok (.iconst 1, 1) := by decide +kernel
theorem dL_law_60 : decode cL_law 60 = .ok (.goto 4, 3) := by decide +kernel
theorem dL_law_63 : decode cL_law 63 = .ok (.iconst 0, 1) := by decide +kernel
theorem dL_law_64 : decode cL_law 64 = .ok (.istore_n 3, 1) := by decide +kernel
theorem dL_law_65 : decode cL_law 65 = .ok (.iconst 0, 1) := by decide +kernel
theorem dL_law_66 : decode cL_law 66 = .ok (.istore 4, 2) := by decide +kernel
theorem dL_law_68 : decode cL_law 68 = .ok (.iload 4, 2) := by decide +kernel
theorem dL_law_70 : decode cL_law 70 = .ok (.bipush 40, 2) := by decide +kernel
theorem dL_law_72 : decode cL_law 72 = .ok (.if_icmp .ge 420, 3) := by decide +kernel
theorem dL_law_75 : decode cL_law 75 = .ok (.iload_n 3, 1) := by decide +kernel
theorem dL_law_76 : decode cL_law 76 = .ok (.ifCond .eq 416, 3) := by decide +kernel
theorem dL_law_79 : decode cL_law 79 = .ok (.aload_n 0, 1) := by decide +kernel
theorem dL_law_80 : decode cL_law 80 = .ok (.iconst 2, 1) := by decide +kernel
theorem dL_law_81 : decode cL_law 81 = .ok (.iload 4, 2) := by decide +kernel
theorem dL_law_83 : decode cL_law 83 = .ok (.imul, 1) := by decide +kernel
theorem dL_law_84 : decode cL_law 84 = .ok (.invokestatic 185, 3) := by decide +kernel
theorem dL_law_87 : decode cL_law 87 = .ok (.istore 5, 2) := by decide +kernel
theorem dL_law_89 : decode cL_law 89 = .ok (.aload_n 0, 1) := by decide +kernel
theorem dL_law_90 : decode cL_law 90 = .ok (.iconst 2, 1) := by decide +kernel
theorem dL_law_91 : decode cL_law 91 = .ok (.iload 4, 2) := by decide +kernel
theorem dL_law_93 : decode cL_law 93 = .ok (.imul, 1) := by decide +kernel
theorem dL_law_94 : decode cL_law 94 = .ok (.iconst 1, 1) := by decide +kernel
theorem dL_law_95 : decode cL_law 95 = .ok (.iadd, 1) := by decide +kernel
theorem dL_law_96 : decode cL_law 96 = .ok (.invokestatic 185, 3) := by decide +kernel
theorem dL_law_99 : decode cL_law 99 = .ok (.istore 6, 2) := by decide +kernel
theorem dL_law_101 : decode cL_law 101 = .ok (.iload 4, 2) := by decide +kernel
theorem dL_law_103 : decode cL_law 103 = .ok (.bipush 12, 2) := by decide +kernel
theorem dL_law_105 : decode cL_law 105 = .ok (.if_icmp .ge 7, 3) := by decide +kernel
theorem dL_law_108 : decode cL_law 108 = .ok (.iconst 0, 1) := by decide +kernel
theorem dL_law_109 : decode cL_law 109 = .ok (.goto 10, 3) := by decide +kernel
theorem dL_law_112 : decode cL_law 112 = .ok (.iload 5, 2) := by decide +kernel
theorem dL_law_114 : decode cL_law 114 = .ok (.bipush 13, 2) := by decide +kernel
theorem dL_law_116 : decode cL_law 116 = .ok (.invokestatic 89, 3) := by decide +kernel
theorem dL_law_119 : decode cL_law 119 = .ok (.istore 7, 2) := by decide +kernel
theorem dL_law_121 : decode cL_law 121 = .ok (.aload_n 1, 1) := by decide +kernel
theorem dL_law_122 : decode cL_law 122 = .ok (.invokevirtual 189, 3) := by decide +kernel
theorem dL_law_125 : decode cL_law 125 = .ok (.istore 8, 2) := by decide +kernel
theorem dL_law_127 : decode cL_law 127 = .ok (.aload_n 1, 1) := by decide +kernel
theorem dL_law_128 : decode cL_law 128 = .ok (.invokestatic 165, 3) := by decide +kernel
theorem dL_law_131 : decode cL_law 131 = .ok (.lstore 9, 2) := by decide +kernel
theorem dL_law_133 : decode cL_law 133 = .ok (.iload 4, 2) := by decide +kernel
theorem dL_law_135 : decode cL_law 135 = .ok (.bipush 12, 2) := by decide +kernel
theorem dL_law_137 : decode cL_law 137 = .ok (.if_icmp .ge 28, 3) := by decide +kernel
theorem dL_law_140 : decode cL_law 140 = .ok (.aload_n 1, 1) := by decide +kernel
theorem dL_law_141 : decode cL_law 141 = .ok (.iload 5, 2) := by decide +kernel
theorem dL_law_143 : decode cL_law 143 = .ok (.iload 4, 2) := by decide +kernel
theorem dL_law_145 : decode cL_law 145 = .ok (.iconst 1, 1) := by decide +kernel
theorem dL_law_146 : decode cL_law 146 = .ok (.iadd, 1) := by decide +kernel
theorem dL_law_147 : decode cL_law 147 = .ok (.invokestatic 89, 3) := by decide +kernel
theorem dL_law_150 : decode cL_law 150 = .ok (.iconst 1, 1) := by decide +kernel
theorem dL_law_151 : decode cL_law 151 = .ok (.iload 6, 2) := by decide +kernel
theorem dL_law_153 : decode cL_law 153 = .ok (.bipush 30, 2) := by decide +kernel
theorem dL_law_155 : decode cL_law 155 = .ok (.invokestatic 89, 3) := by decide +kernel
theorem dL_law_158 : decode cL_law 158 = .ok (.iadd, 1) := by decide +kernel
theorem dL_law_159 : decode cL_law 159 = .ok (.invokestatic 94, 3) := by decide +kernel
theorem dL_law_162 : decode cL_law 162 = .ok (.goto 11, 3) := by decide +kernel
theorem dL_law_165 : decode cL_law 165 = .ok (.aload_n 1, 1) := by decide +kernel
theorem dL_law_166 : decode cL_law 166 = .ok (.iload 5, 2) := by decide +kernel
theorem dL_law_168 : decode cL_law 168 = .ok (.iload 6, 2) := by decide +kernel
theorem dL_law_170 : decode cL_law 170 = .ok (.invokestatic 192, 3) := by decide +kernel
theorem dL_law_173 : decode cL_law 173 = .ok (.istore 11, 2) := by decide +kernel
theorem dL_law_175 : decode cL_law 175 = .ok (.aload_n 2, 1) := by decide +kernel
theorem dL_law_176 : decode cL_law 176 = .ok (.iconst 0, 1) := by decide +kernel
theorem dL_law_177 : decode cL_law 177 = .ok (.iload 11, 2) := by decide +kernel
theorem dL_law_179 : decode cL_law 179 = .ok (.ifCond .le 30, 3) := by decide +kernel
theorem dL_law_182 : decode cL_law 182 = .ok (.iload 7, 2) := by decide +kernel
theorem dL_law_184 : decode cL_law 184 = .ok (.bipush 8, 2) := by decide +kernel
theorem dL_law_186 : decode cL_law 186 = .ok (.if_icmp .ne 23, 3) := by decide +kernel
theorem dL_law_189 : decode cL_law 189 = .ok (.iload 4, 2) := by decide +kernel
theorem dL_law_191 : decode cL_law 191 = .ok (.bipush 11, 2) := by decide +kernel
theorem dL_law_193 : decode cL_law 193 = .ok (.if_icmp .le 16, 3) := by decide +kernel
theorem dL_law_196 : decode cL_law 196 = .ok (.bipush 30, 2) := by decide +kernel
theorem dL_law_198 : decode cL_law 198 = .ok (.iload 6, 2) := by decide +kernel
theorem dL_law_200 : decode cL_law 200 = .ok (.bipush 71, 2) := by decide +kernel
theorem dL_law_202 : decode cL_law 202 = .ok (.invokestatic 89, 3) := by decide +kernel
theorem dL_law_205 : decode cL_law 205 = .ok (.iadd, 1) := by decide +kernel
theorem dL_law_206 : decode cL_law 206 = .ok (.goto 6, 3) := by decide +kernel
theorem dL_law_209 : decode cL_law 209 = .ok (.aload_n 2, 1) := by decide +kernel
theorem dL_law_210 : decode cL_law 210 = .ok (.iconst 0, 1) := by decide +kernel
theorem dL_law_211 : decode cL_law 211 = .ok (.iaload, 1) := by decide +kernel
theorem dL_law_212 : decode cL_law 212 = .ok (.iastore, 1) := by decide +kernel
theorem dL_law_213 : decode cL_law 213 = .ok (.aload_n 2, 1) := by decide +kernel
theorem dL_law_214 : decode cL_law 214 = .ok (.iconst 1, 1) := by decide +kernel
theorem dL_law_215 : decode cL_law 215 = .ok (.iload 11, 2) := by decide +kernel
theorem dL_law_217 : decode cL_law 217 = .ok (.ifCond .le 28, 3) := by decide +kernel
theorem dL_law_220 : decode cL_law 220 = .ok (.iload 7, 2) := by decide +kernel
theorem dL_law_222 : decode cL_law 222 = .ok (.bipush 9, 2) := by decide +kernel
theorem dL_law_224 : decode cL_law 224 = .ok (.if_icmp .ne 21, 3) := by decide +kernel
theorem dL_law_227 : decode cL_law 227 = .ok (.iload 4, 2) := by decide +kernel
theorem dL_law_229 : decode cL_law 229 = .ok (.bipush 11, 2) := by decide +kernel
theorem dL_law_231 : decode cL_law 231 = .ok (.if_icmp .le 14, 3) := by decide +kernel
theorem dL_law_234 : decode cL_law 234 = .ok (.iconst 1, 1) := by decide +kernel
theorem dL_law_235 : decode cL_law 235 = .ok (.iload 6, 2) := by decide +kernel
theorem dL_law_237 : decode cL_law 237 = .ok (.iconst 5, 1) := by decide +kernel
theorem dL_law_238 : decode cL_law 238 = .ok (.invokestatic 89, 3) := by decide +kernel
theorem dL_law_241 : decode cL_law 241 = .ok (.iadd, 1) := by decide +kernel
theorem dL_law_242 : decode cL_law 242 = .ok (.goto 6, 3) := by decide +kernel
theorem dL_law_245 : decode cL_law 245 = .ok (.aload_n 2, 1) := by decide +kernel
theorem dL_law_246 : decode cL_law 246 = .ok (.iconst 1, 1) := by decide +kernel
theorem dL_law_247 : decode cL_law 247 = .ok (.iaload, 1) := by decide +kernel
theorem dL_law_248 : decode cL_law 248 = .ok (.iastore, 1) := by decide +kernel
theorem dL_law_249 : decode cL_law 249 = .ok (.aload_n 2, 1) := by decide +kernel
theorem dL_law_250 : decode cL_law 250 = .ok (.iconst 5, 1) := by decide +kernel
theorem dL_law_251 : decode cL_law 251 = .ok (.iload 11, 2) := by decide +kernel
theorem dL_law_253 : decode cL_law 253 = .ok (.ifCond .le 29, 3) := by decide +kernel
theorem dL_law_256 : decode cL_law 256 = .ok (.iload 7, 2) := by decide +kernel
theorem dL_law_258 : decode cL_law 258 = .ok (.bipush 11, 2) := by decide +kernel
theorem dL_law_260 : decode cL_law 260 = .ok (.if_icmp .ne 22, 3) := by decide +kernel
theorem dL_law_263 : decode cL_law 263 = .ok (.iload 4, 2) := by decide +kernel
theorem dL_law_265 : decode cL_law 265 = .ok (.bipush 11, 2) := by decide +kernel
theorem dL_law_267 : decode cL_law 267 = .ok (.if_icmp .le 15, 3) := by decide +kernel
theorem dL_law_270 : decode cL_law 270 = .ok (.iconst 2, 1) := by decide +kernel
theorem dL_law_271 : decode cL_law 271 = .ok (.iload 6, 2) := by decide +kernel
theorem dL_law_273 : decode cL_law 273 = .ok (.bipush 8, 2) := by decide +kernel
theorem dL_law_275 : decode cL_law 275 = .ok (.invokestatic 89, 3) := by decide +kernel
theorem dL_law_278 : decode cL_law 278 = .ok (.iadd, 1) := by decide +kernel
theorem dL_law_279 : decode cL_law 279 = .ok (.goto 6, 3) := by decide +kernel
theorem dL_law_282 : decode cL_law 282 = .ok (.aload_n 2, 1) := by decide +kernel
theorem dL_law_283 : decode cL_law 283 = .ok (.iconst 5, 1) := by decide +kernel
theorem dL_law_284 : decode cL_law 284 = .ok (.iaload, 1) := by decide +kernel
theorem dL_law_285 : decode cL_law 285 = .ok (.iastore, 1) := by decide +kernel
theorem dL_law_286 : decode cL_law 286 = .ok (.iload 11, 2) := by decide +kernel
theorem dL_law_288 : decode cL_law 288 = .ok (.ifCond .le 56, 3) := by decide +kernel
theorem dL_law_291 : decode cL_law 291 = .ok (.iload 7, 2) := by decide +kernel
theorem dL_law_293 : decode cL_law 293 = .ok (.bipush 10, 2) := by decide +kernel
theorem dL_law_295 : decode cL_law 295 = .ok (.if_icmp .ne 49, 3) := by decide +kernel
theorem dL_law_298 : decode cL_law 298 = .ok (.iload 4, 2) := by decide +kernel
theorem dL_law_300 : decode cL_law 300 = .ok (.bipush 11, 2) := by decide +kernel
theorem dL_law_302 : decode cL_law 302 = .ok (.if_icmp .le 42, 3) := by decide +kernel
theorem dL_law_305 : decode cL_law 305 = .ok (.aload_n 2, 1) := by decide +kernel
theorem dL_law_306 : decode cL_law 306 = .ok (.iconst 2, 1) := by decide +kernel
theorem dL_law_307 : decode cL_law 307 = .ok (.iconst 1, 1) := by decide +kernel
theorem dL_law_308 : decode cL_law 308 = .ok (.iload 6, 2) := by decide +kernel
theorem dL_law_310 : decode cL_law 310 = .ok (.bipush 9, 2) := by decide +kernel
theorem dL_law_312 : decode cL_law 312 = .ok (.invokestatic 89, 3) := by decide +kernel
theorem dL_law_315 : decode cL_law 315 = .ok (.iadd, 1) := by decide +kernel
theorem dL_law_316 : decode cL_law 316 = .ok (.iastore, 1) := by decide +kernel
theorem dL_law_317 : decode cL_law 317 = .ok (.aload_n 2, 1) := by decide +kernel
theorem dL_law_318 : decode cL_law 318 = .ok (.iconst 3, 1) := by decide +kernel
theorem dL_law_319 : decode cL_law 319 = .ok (.iload 6, 2) := by decide +kernel
theorem dL_law_321 : decode cL_law 321 = .ok (.iconst 4, 1) := by decide +kernel
theorem dL_law_322 : decode cL_law 322 = .ok (.ishr, 1) := by decide +kernel
theorem dL_law_323 : decode cL_law 323 = .ok (.sipush 1200, 3) := by decide +kernel
theorem dL_law_326 : decode cL_law 326 = .ok (.invokestatic 89, 3) := by decide +kernel
theorem dL_law_329 : decode cL_law 329 = .ok (.iastore, 1) := by decide +kernel
theorem dL_law_330 : decode cL_law 330 = .ok (.aload_n 2, 1) := by decide +kernel
theorem dL_law_331 : decode cL_law 331 = .ok (.iconst 4, 1) := by decide +kernel
theorem dL_law_332 : decode cL_law 332 = .ok (.iload 6, 2) := by decide +kernel
theorem dL_law_334 : decode cL_law 334 = .ok (.bipush 6, 2) := by decide +kernel
theorem dL_law_336 : decode cL_law 336 = .ok (.ishr, 1) := by decide +kernel
theorem dL_law_337 : decode cL_law 337 = .ok (.sipush 1200, 3) := by decide +kernel
theorem dL_law_340 : decode cL_law 340 = .ok (.invokestatic 89, 3) := by decide +kernel
theorem dL_law_343 : decode cL_law 343 = .ok (.iastore, 1) := by decide +kernel
theorem dL_law_344 : decode cL_law 344 = .ok (.iload 11, 2) := by decide +kernel
theorem dL_law_346 : decode cL_law 346 = .ok (.ifCond .ge 30, 3) := by decide +kernel
theorem dL_law_349 : decode cL_law 349 = .ok (.aload_n 1, 1) := by decide +kernel
theorem dL_law_350 : decode cL_law 350 = .ok (.invokevirtual 189, 3) := by decide +kernel
theorem dL_law_353 : decode cL_law 353 = .ok (.iload 8, 2) := by decide +kernel
theorem dL_law_355 : decode cL_law 355 = .ok (.if_icmp .ne 17, 3) := by decide +kernel
theorem dL_law_358 : decode cL_law 358 = .ok (.aload_n 1, 1) := by decide +kernel
theorem dL_law_359 : decode cL_law 359 = .ok (.invokestatic 165, 3) := by decide +kernel
theorem dL_law_362 : decode cL_law 362 = .ok (.lload 9, 2) := by decide +kernel
theorem dL_law_364 : decode cL_law 364 = .ok (.lcmp, 1) := by decide +kernel
theorem dL_law_365 : decode cL_law 365 = .ok (.ifCond .ne 7, 3) := by decide +kernel
theorem dL_law_368 : decode cL_law 368 = .ok (.iconst 1, 1) := by decide +kernel
theorem dL_law_369 : decode cL_law 369 = .ok (.goto 35, 3) := by decide +kernel
theorem dL_law_372 : decode cL_law 372 = .ok (.iconst 0, 1) := by decide +kernel
theorem dL_law_373 : decode cL_law 373 = .ok (.goto 31, 3) := by decide +kernel
theorem dL_law_376 : decode cL_law 376 = .ok (.aload_n 1, 1) := by decide +kernel
theorem dL_law_377 : decode cL_law 377 = .ok (.invokevirtual 189, 3) := by decide +kernel
theorem dL_law_380 : decode cL_law 380 = .ok (.iload 8, 2) := by decide +kernel
theorem dL_law_382 : decode cL_law 382 = .ok (.bipush 6, 2) := by decide +kernel
theorem dL_law_384 : decode cL_law 384 = .ok (.if_icmp .ge 10, 3) := by decide +kernel
theorem dL_law_387 : decode cL_law 387 = .ok (.iload 8, 2) := by decide +kernel
theorem dL_law_389 : decode cL_law 389 = .ok (.iconst 1, 1) := by decide +kernel
theorem dL_law_390 : decode cL_law 390 = .ok (.iadd, 1) := by decide +kernel
theorem dL_law_391 : decode cL_law 391 = .ok (.goto 5, 3) := by decide +kernel
theorem dL_law_394 : decode cL_law 394 = .ok (.bipush 6, 2) := by decide +kernel
theorem dL_law_396 : decode cL_law 396 = .ok (.if_icmp .ne 7, 3) := by decide +kernel
theorem dL_law_399 : decode cL_law 399 = .ok (.iconst 1, 1) := by decide +kernel
theorem dL_law_400 : decode cL_law 400 = .ok (.goto 4, 3) := by decide +kernel
theorem dL_law_403 : decode cL_law 403 = .ok (.iconst 0, 1) := by decide +kernel
theorem dL_law_404 : decode cL_law 404 = .ok (.istore_n 3, 1) := by decide +kernel
theorem dL_law_405 : decode cL_law 405 = .ok (.iload_n 3, 1) := by decide +kernel
theorem dL_law_406 : decode cL_law 406 = .ok (.ifCond .eq 78, 3) := by decide +kernel
theorem dL_law_409 : decode cL_law 409 = .ok (.aload_n 1, 1) := by decide +kernel
theorem dL_law_410 : decode cL_law 410 = .ok (.aload_n 2, 1) := by decide +kernel
theorem dL_law_411 : decode cL_law 411 = .ok (.invokestatic 180, 3) := by decide +kernel
theorem dL_law_414 : decode cL_law 414 = .ok (.ifCond .eq 70, 3) := by decide +kernel
theorem dL_law_417 : decode cL_law 417 = .ok (.aload_n 1, 1) := by decide +kernel
theorem dL_law_418 : decode cL_law 418 = .ok (.aload_n 2, 1) := by decide +kernel
theorem dL_law_419 : decode cL_law 419 = .ok (.invokestatic 183, 3) := by decide +kernel
theorem dL_law_422 : decode cL_law 422 = .ok (.ifCond .eq 62, 3) := by decide +kernel
theorem dL_law_425 : decode cL_law 425 = .ok (.iload 4, 2) := by decide +kernel
theorem dL_law_427 : decode cL_law 427 = .ok (.iconst 3, 1) := by decide +kernel
theorem dL_law_428 : decode cL_law 428 = .ok (.irem, 1) := by decide +kernel
theorem dL_law_429 : decode cL_law 429 = .ok (.ifCond .gt 15, 3) := by decide +kernel
theorem dL_law_432 : decode cL_law 432 = .ok (.aload_n 1, 1) := by decide +kernel
theorem dL_law_433 : decode cL_law 433 = .ok (.aload_n 2, 1) := by decide +kernel
theorem dL_law_434 : decode cL_law 434 = .ok (.iload 5, 2) := by decide +kernel
theorem dL_law_436 : decode cL_law 436 = .ok (.iconst 3, 1) := by decide +kernel
theorem dL_law_437 : decode cL_law 437 = .ok (.ishr, 1) := by decide +kernel
theorem dL_law_438 : decode cL_law 438 = .ok (.invokestatic 195, 3) := by decide +kernel
theorem dL_law_441 : decode cL_law 441 = .ok (.ifCond .eq 43, 3) := by decide +kernel
theorem dL_law_444 : decode cL_law 444 = .ok (.iload 4, 2) := by decide +kernel
theorem dL_law_446 : decode cL_law 446 = .ok (.iconst 2, 1) := by decide +kernel
theorem dL_law_447 : decode cL_law 447 = .ok (.irem, 1) := by decide +kernel
theorem dL_law_448 : decode cL_law 448 = .ok (.ifCond .gt 32, 3) := by decide +kernel
theorem dL_law_451 : decode cL_law 451 = .ok (.aload_n 1, 1) := by decide +kernel
theorem dL_law_452 : decode cL_law 452 = .ok (.iload 6, 2) := by decide +kernel
theorem dL_law_454 : decode cL_law 454 = .ok (.iconst 3, 1) := by decide +kernel
theorem dL_law_455 : decode cL_law 455 = .ok (.ishr, 1) := by decide +kernel
theorem dL_law_456 : decode cL_law 456 = .ok (.aload_n 1, 1) := by decide +kernel
theorem dL_law_457 : decode cL_law 457 = .ok (.invokevirtual 86, 3) := by decide +kernel
theorem dL_law_460 : decode cL_law 460 = .ok (.iconst 1, 1) := by decide +kernel
theorem dL_law_461 : decode cL_law 461 = .ok (.iadd, 1) := by decide +kernel
theorem dL_law_462 : decode cL_law 462 = .ok (.invokestatic 89, 3) := by decide +kernel
theorem dL_law_465 : decode cL_law 465 = .ok (.iload 6, 2) := by decide +kernel
theorem dL_law_467 : decode cL_law 467 = .ok (.bipush 9, 2) := by decide +kernel
theorem dL_law_469 : decode cL_law 469 = .ok (.ishr, 1) := by decide +kernel
theorem dL_law_470 : decode cL_law 470 = .ok (.iconst 3, 1) := by decide +kernel
theorem dL_law_471 : decode cL_law 471 = .ok (.invokestatic 89, 3) := by decide +kernel
theorem dL_law_474 : decode cL_law 474 = .ok (.invokestatic 199, 3) := by decide +kernel
theorem dL_law_477 : decode cL_law 477 = .ok (.ifCond .eq 7, 3) := by decide +kernel
theorem dL_law_480 : decode cL_law 480 = .ok (.iconst 1, 1) := by decide +kernel
theorem dL_law_481 : decode cL_law 481 = .ok (.goto 4, 3) := by decide +kernel
theorem dL_law_484 : decode cL_law 484 = .ok (.iconst 0, 1) := by decide +kernel
theorem dL_law_485 : decode cL_law 485 = .ok (.istore_n 3, 1) := by decide +kernel
theorem dL_law_486 : decode cL_law 486 = .ok (.iinc 4 1, 3) := by decide +kernel
theorem dL_law_489 : decode cL_law 489 = .ok (.goto (-421), 3) := by decide +kernel
theorem dL_law_492 : decode cL_law 492 = .ok (.iload_n 3, 1) := by decide +kernel
theorem dL_law_493 : decode cL_law 493 = .ok (.ireturn, 1) := by decide +kernel
