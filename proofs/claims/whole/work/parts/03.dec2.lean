theorem dX3_add_63 : decode cX3_add 63 = .ok (.aload_n 0, 1) := by decide +kernel
theorem dX3_add_64 : decode cX3_add 64 = .ok (.dup, 1) := by decide +kernel
theorem dX3_add_65 : decode cX3_add 65 = .ok (.getfield 52, 3) := by decide +kernel
theorem dX3_add_68 : decode cX3_add 68 = .ok (.iconst 1, 1) := by decide +kernel
theorem dX3_add_69 : decode cX3_add 69 = .ok (.iadd, 1) := by decide +kernel
theorem dX3_add_70 : decode cX3_add 70 = .ok (.putfield 52, 3) := by decide +kernel
theorem dX3_add_73 : decode cX3_add 73 = .ok (.aload_n 0, 1) := by decide +kernel
theorem dX3_add_74 : decode cX3_add 74 = .ok (.getfield 52, 3) := by decide +kernel
theorem dX3_add_77 : decode cX3_add 77 = .ok (.ireturn, 1) := by decide +kernel
set_option maxRecDepth 20000 in
theorem ggX3_end_X3_within : GoodIn wsX3_end wsX3_within := goodIn_r _ [10] (by decide +kernel) (by decide +kernel)
set_option maxRecDepth 20000 in
theorem gX3_end_X3_within : GoodIn wsX3_end (va_wsS RX3 48 yX3_within wsX3_within) := goodIn_app (goodIn_of _ (by decide +kernel)) ggX3_end_X3_within
set_option maxRecDepth 20000 in
theorem ggX3_end_X3_isFull : GoodIn wsX3_end wsX3_isFull := goodIn_r _ [14, 15, 6, 16, 29, 30, 31, 32, 33, 34, 35, 36, 37, 38, 39, 40, 41] (by decide +kernel) (by decide +kernel)
set_option maxRecDepth 20000 in
theorem gX3_end_X3_isFull : GoodIn wsX3_end (wsV RX3 55 RX3 yX3_isFull wsX3_isFull) := goodIn_app (goodIn_of _ (by decide +kernel)) ggX3_end_X3_isFull
set_option maxRecDepth 20000 in
theorem ggX3_end_X3_head : GoodIn wsX3_end wsX3_head := goodIn_r _ [20, 15, 6, 4, 29, 30, 31, 32, 33, 34, 35, 36, 37, 38, 39, 40, 41] (by decide +kernel) (by decide +kernel)
set_option maxRecDepth 20000 in
theorem gX3_end_X3_head : GoodIn wsX3_end (wsV RX3 59 RX3 yX3_head wsX3_head) := goodIn_app (goodIn_of _ (by decide +kernel)) ggX3_end_X3_head
set_option maxRecDepth 20000 in
theorem ggX3_end_X3_close : GoodIn wsX3_end wsX3_close := goodIn_r _ [24, 4, 15, 6, 25, 26, 9, 27, 28, 29, 30, 31, 32, 33, 34, 35, 36, 37, 38, 39, 40, 41] (by decide +kernel) (by decide +kernel)
set_option maxRecDepth 20000 in
theorem gX3_end_X3_close : GoodIn wsX3_end (wsV RX3 63 RX3 yX3_close wsX3_close) := goodIn_app (goodIn_of _ (by decide +kernel)) ggX3_end_X3_close
theorem dX3_end_0 : decode cX3_end 0 = .ok (.aload_n 0, 1) := by decide +kernel
theorem dX3_end_1 : decode cX3_end 1 = .ok (.iload_n 1, 1) := by decide +kernel
theorem dX3_end_2 : decode cX3_end 2 = .ok (.iconst 1, 1) := by decide +kernel
theorem dX3_end_3 : decode cX3_end 3 = .ok (.iconst 4, 1) := by decide +kernel
theorem dX3_end_4 : decode cX3_end 4 = .ok (.invokestatic 48, 3) := by decide +kernel
theorem dX3_end_7 : decode cX3_end 7 = .ok (.ifCond .ne 7, 3) := by decide +kernel
theorem dX3_end_10 : decode cX3_end 10 = .ok (.iconst 1, 1) := by decide +kernel
theorem dX3_end_11 : decode cX3_end 11 = .ok (.goto 30, 3) := by decide +kernel
theorem dX3_end_14 : decode cX3_end 14 = .ok (.aload_n 0, 1) := by decide +kernel
theorem dX3_end_15 : decode cX3_end 15 = .ok (.getfield 16, 3) := by decide +kernel
theorem dX3_end_18 : decode cX3_end 18 = .ok (.ifCond .ne 7, 3) := by decide +kernel
theorem dX3_end_21 : decode cX3_end 21 = .ok (.iconst 2, 1) := by decide +kernel
theorem dX3_end_22 : decode cX3_end 22 = .ok (.goto 19, 3) := by decide +kernel
theorem dX3_end_25 : decode cX3_end 25 = .ok (.aload_n 0, 1) := by decide +kernel
theorem dX3_end_26 : decode cX3_end 26 = .ok (.aload_n 0, 1) := by decide +kernel
theorem dX3_end_27 : decode cX3_end 27 = .ok (.getfield 52, 3) := by decide +kernel
theorem dX3_end_30 : decode cX3_end 30 = .ok (.invokevirtual 55, 3) := by decide +kernel
theorem dX3_end_33 : decode cX3_end 33 = .ok (.ifCond .eq 7, 3) := by decide +kernel
theorem dX3_end_36 : decode cX3_end 36 = .ok (.iconst 3, 1) := by decide +kernel
theorem dX3_end_37 : decode cX3_end 37 = .ok (.goto 4, 3) := by decide +kernel
theorem dX3_end_40 : decode cX3_end 40 = .ok (.iconst 0, 1) := by decide +kernel
theorem dX3_end_41 : decode cX3_end 41 = .ok (.putfield 33, 3) := by decide +kernel
theorem dX3_end_44 : decode cX3_end 44 = .ok (.aload_n 0, 1) := by decide +kernel
theorem dX3_end_45 : decode cX3_end 45 = .ok (.getfield 33, 3) := by decide +kernel
theorem dX3_end_48 : decode cX3_end 48 = .ok (.ifCond .eq 5, 3) := by decide +kernel
theorem dX3_end_51 : decode cX3_end 51 = .ok (.iconst 0, 1) := by decide +kernel
theorem dX3_end_52 : decode cX3_end 52 = .ok (.ireturn, 1) := by decide +kernel
theorem dX3_end_53 : decode cX3_end 53 = .ok (.aload_n 0, 1) := by decide +kernel
theorem dX3_end_54 : decode cX3_end 54 = .ok (.iload_n 1, 1) := by decide +kernel
theorem dX3_end_55 : decode cX3_end 55 = .ok (.aload_n 0, 1) := by decide +kernel
theorem dX3_end_56 : decode cX3_end 56 = .ok (.getfield 52, 3) := by decide +kernel
theorem dX3_end_59 : decode cX3_end 59 = .ok (.invokevirtual 59, 3) := by decide +kernel
theorem dX3_end_62 : decode cX3_end 62 = .ok (.istore_n 2, 1) := by decide +kernel
theorem dX3_end_63 : decode cX3_end 63 = .ok (.iconst 0, 1) := by decide +kernel
theorem dX3_end_64 : decode cX3_end 64 = .ok (.istore_n 3, 1) := by decide +kernel
theorem dX3_end_65 : decode cX3_end 65 = .ok (.iload_n 3, 1) := by decide +kernel
theorem dX3_end_66 : decode cX3_end 66 = .ok (.aload_n 0, 1) := by decide +kernel
theorem dX3_end_67 : decode cX3_end 67 = .ok (.getfield 52, 3) := by decide +kernel
theorem dX3_end_70 : decode cX3_end 70 = .ok (.if_icmp .ge 23, 3) := by decide +kernel
theorem dX3_end_73 : decode cX3_end 73 = .ok (.aload_n 0, 1) := by decide +kernel
theorem dX3_end_74 : decode cX3_end 74 = .ok (.getfield 20, 3) := by decide +kernel
theorem dX3_end_77 : decode cX3_end 77 = .ok (.iload_n 2, 1) := by decide +kernel
theorem dX3_end_78 : decode cX3_end 78 = .ok (.iload_n 3, 1) := by decide +kernel
theorem dX3_end_79 : decode cX3_end 79 = .ok (.iadd, 1) := by decide +kernel
theorem dX3_end_80 : decode cX3_end 80 = .ok (.aload_n 0, 1) := by decide +kernel
theorem dX3_end_81 : decode cX3_end 81 = .ok (.getfield 26, 3) := by decide +kernel
theorem dX3_end_84 : decode cX3_end 84 = .ok (.iload_n 3, 1) := by decide +kernel
theorem dX3_end_85 : decode cX3_end 85 = .ok (.iaload, 1) := by decide +kernel
theorem dX3_end_86 : decode cX3_end 86 = .ok (.iastore, 1) := by decide +kernel
theorem dX3_end_87 : decode cX3_end 87 = .ok (.iinc 3 1, 3) := by decide +kernel
theorem dX3_end_90 : decode cX3_end 90 = .ok (.goto (-25), 3) := by decide +kernel
theorem dX3_end_93 : decode cX3_end 93 = .ok (.aload_n 0, 1) := by decide +kernel
theorem dX3_end_94 : decode cX3_end 94 = .ok (.iload_n 2, 1) := by decide +kernel
theorem dX3_end_95 : decode cX3_end 95 = .ok (.aload_n 0, 1) := by decide +kernel
theorem dX3_end_96 : decode cX3_end 96 = .ok (.getfield 52, 3) := by decide +kernel
theorem dX3_end_99 : decode cX3_end 99 = .ok (.iadd, 1) := by decide +kernel
theorem dX3_end_100 : decode cX3_end 100 = .ok (.invokevirtual 63, 3) := by decide +kernel
theorem dX3_end_103 : decode cX3_end 103 = .ok (.aload_n 0, 1) := by decide +kernel
theorem dX3_end_104 : decode cX3_end 104 = .ok (.iconst 0, 1) := by decide +kernel
theorem dX3_end_105 : decode cX3_end 105 = .ok (.putfield 52, 3) := by decide +kernel
theorem dX3_end_108 : decode cX3_end 108 = .ok (.aload_n 0, 1) := by decide +kernel
theorem dX3_end_109 : decode cX3_end 109 = .ok (.getfield 41, 3) := by decide +kernel
theorem dX3_end_112 : decode cX3_end 112 = .ok (.ireturn, 1) := by decide +kernel
set_option maxRecDepth 20000 in
theorem ggX3_whole_X3_isFull : GoodIn wsX3_whole wsX3_isFull := goodIn_r _ [9, 10, 3, 11, 32, 33, 34, 35, 36, 37, 38, 39, 40, 41, 42, 43, 44] (by decide +kernel) (by decide +kernel)
set_option maxRecDepth 20000 in
theorem gX3_whole_X3_isFull : GoodIn wsX3_whole (wsV RX3 55 RX3 yX3_isFull wsX3_isFull) := goodIn_app (goodIn_of _ (by decide +kernel)) ggX3_whole_X3_isFull
set_option maxRecDepth 20000 in
theorem ggX3_whole_X3_head : GoodIn wsX3_whole wsX3_head := goodIn_r _ [15, 10, 3, 4, 32, 33, 34, 35, 36, 37, 38, 39, 40, 41, 42, 43, 44] (by decide +kernel) (by decide +kernel)
set_option maxRecDepth 20000 in
theorem gX3_whole_X3_head : GoodIn wsX3_whole (wsV RX3 59 RX3 yX3_head wsX3_head) := goodIn_app (goodIn_of _ (by decide +kernel)) ggX3_whole_X3_head
set_option maxRecDepth 20000 in
theorem ggX3_whole_X3_rowsOf : GoodIn wsX3_whole wsX3_rowsOf := goodIn_r _ [19, 20, 21, 22, 8, 23, 4, 10, 32, 33, 34, 35, 36, 37, 38, 39, 40, 41, 42, 43, 44] (by decide +kernel) (by decide +kernel)
set_option maxRecDepth 20000 in
theorem gX3_whole_X3_rowsOf : GoodIn wsX3_whole (wsV RX3 67 RX3 yX3_rowsOf wsX3_rowsOf) := goodIn_app (goodIn_of _ (by decide +kernel)) ggX3_whole_X3_rowsOf
set_option maxRecDepth 20000 in
theorem ggX3_whole_X3_close : GoodIn wsX3_whole wsX3_close := goodIn_r _ [27, 4, 10, 3, 28, 29, 8, 30, 31, 32, 33, 34, 35, 36, 37, 38, 39, 40, 41, 42, 43, 44] (by decide +kernel) (by decide +kernel)
set_option maxRecDepth 20000 in
theorem gX3_whole_X3_close : GoodIn wsX3_whole (wsV RX3 63 RX3 yX3_close wsX3_close) := goodIn_app (goodIn_of _ (by decide +kernel)) ggX3_whole_X3_close
theorem dX3_whole_0 : decode cX3_whole 0 = .ok (.aload_n 0, 1) := by decide +kernel
theorem dX3_whole_1 : decode cX3_whole 1 = .ok (.aload_n 0, 1) := by decide +kernel
theorem dX3_whole_2 : decode cX3_whole 2 = .ok (.getfield 16, 3) := by decide +kernel
theorem dX3_whole_5 : decode cX3_whole 5 = .ok (.ifCond .ne 7, 3) := by decide +kernel
theorem dX3_whole_8 : decode cX3_whole 8 = .ok (.iconst 1, 1) := by decide +kernel
theorem dX3_whole_9 : decode cX3_whole 9 = .ok (.goto 17, 3) := by decide +kernel
theorem dX3_whole_12 : decode cX3_whole 12 = .ok (.aload_n 0, 1) := by decide +kernel
theorem dX3_whole_13 : decode cX3_whole 13 = .ok (.bipush 8, 2) := by decide +kernel
theorem dX3_whole_15 : decode cX3_whole 15 = .ok (.invokevirtual 55, 3) := by decide +kernel
theorem dX3_whole_18 : decode cX3_whole 18 = .ok (.ifCond .eq 7, 3) := by decide +kernel
theorem dX3_whole_21 : decode cX3_whole 21 = .ok (.iconst 2, 1) := by decide +kernel
theorem dX3_whole_22 : decode cX3_whole 22 = .ok (.goto 4, 3) := by decide +kernel
theorem dX3_whole_25 : decode cX3_whole 25 = .ok (.iconst 0, 1) := by decide +kernel
theorem dX3_whole_26 : decode cX3_whole 26 = .ok (.putfield 33, 3) := by decide +kernel
theorem dX3_whole_29 : decode cX3_whole 29 = .ok (.aload_n 0, 1) := by decide +kernel
theorem dX3_whole_30 : decode cX3_whole 30 = .ok (.getfield 33, 3) := by decide +kernel
theorem dX3_whole_33 : decode cX3_whole 33 = .ok (.ifCond .eq 5, 3) := by decide +kernel
theorem dX3_whole_36 : decode cX3_whole 36 = .ok (.iconst 0, 1) := by decide +kernel
theorem dX3_whole_37 : decode cX3_whole 37 = .ok (.ireturn, 1) := by decide +kernel
theorem dX3_whole_38 : decode cX3_whole 38 = .ok (.aload_n 0, 1) := by decide +kernel
theorem dX3_whole_39 : decode cX3_whole 39 = .ok (.iconst 5, 1) := by decide +kernel
theorem dX3_whole_40 : decode cX3_whole 40 = .ok (.bipush 8, 2) := by decide +kernel
theorem dX3_whole_42 : decode cX3_whole 42 = .ok (.invokevirtual 59, 3) := by decide +kernel
theorem dX3_whole_45 : decode cX3_whole 45 = .ok (.istore_n 1, 1) := by decide +kernel
theorem dX3_whole_46 : decode cX3_whole 46 = .ok (.iconst 1, 1) := by decide +kernel
theorem dX3_whole_47 : decode cX3_whole 47 = .ok (.istore_n 2, 1) := by decide +kernel
theorem dX3_whole_48 : decode cX3_whole 48 = .ok (.iload_n 2, 1) := by decide +kernel
theorem dX3_whole_49 : decode cX3_whole 49 = .ok (.iconst 4, 1) := by decide +kernel
theorem dX3_whole_50 : decode cX3_whole 50 = .ok (.if_icmp .gt 52, 3) := by decide +kernel
theorem dX3_whole_53 : decode cX3_whole 53 = .ok (.aload_n 0, 1) := by decide +kernel
theorem dX3_whole_54 : decode cX3_whole 54 = .ok (.iload_n 2, 1) := by decide +kernel
theorem dX3_whole_55 : decode cX3_whole 55 = .ok (.aload_n 0, 1) := by decide +kernel
theorem dX3_whole_56 : decode cX3_whole 56 = .ok (.getfield 41, 3) := by decide +kernel
theorem dX3_whole_59 : decode cX3_whole 59 = .ok (.invokevirtual 67, 3) := by decide +kernel
theorem dX3_whole_62 : decode cX3_whole 62 = .ok (.istore_n 3, 1) := by decide +kernel
theorem dX3_whole_63 : decode cX3_whole 63 = .ok (.aload_n 0, 1) := by decide +kernel
theorem dX3_whole_64 : decode cX3_whole 64 = .ok (.getfield 20, 3) := by decide +kernel
theorem dX3_whole_67 : decode cX3_whole 67 = .ok (.iload_n 1, 1) := by decide +kernel
theorem dX3_whole_68 : decode cX3_whole 68 = .ok (.iconst 2, 1) := by decide +kernel
theorem dX3_whole_69 : decode cX3_whole 69 = .ok (.iload_n 2, 1) := by decide +kernel
theorem dX3_whole_70 : decode cX3_whole 70 = .ok (.imul, 1) := by decide +kernel
theorem dX3_whole_71 : decode cX3_whole 71 = .ok (.iadd, 1) := by decide +kernel
theorem dX3_whole_72 : decode cX3_whole 72 = .ok (.iconst 2, 1) := by decide +kernel
theorem dX3_whole_73 : decode cX3_whole 73 = .ok (.isub, 1) := by decide +kernel
theorem dX3_whole_74 : decode cX3_whole 74 = .ok (.iload_n 3, 1) := by decide +kernel
theorem dX3_whole_75 : decode cX3_whole 75 = .ok (.bipush 8, 2) := by decide +kernel
theorem dX3_whole_77 : decode cX3_whole 77 = .ok (.ishr, 1) := by decide +kernel
theorem dX3_whole_78 : decode cX3_whole 78 = .ok (.iastore, 1) := by decide +kernel
theorem dX3_whole_79 : decode cX3_whole 79 = .ok (.aload_n 0, 1) := by decide +kernel
theorem dX3_whole_80 : decode cX3_whole 80 = .ok (.getfield 20, 3) := by decide +kernel
theorem dX3_whole_83 : decode cX3_whole 83 = .ok (.iload_n 1, 1) := by decide +kernel
theorem dX3_whole_84 : decode cX3_whole 84 = .ok (.iconst 2, 1) := by decide +kernel
theorem dX3_whole_85 : decode cX3_whole 85 = .ok (.iload_n 2, 1) := by decide +kernel
theorem dX3_whole_86 : decode cX3_whole 86 = .ok (.imul, 1) := by decide +kernel
theorem dX3_whole_87 : decode cX3_whole 87 = .ok (.iadd, 1) := by decide +kernel
theorem dX3_whole_88 : decode cX3_whole 88 = .ok (.iconst 1, 1) := by decide +kernel
theorem dX3_whole_89 : decode cX3_whole 89 = .ok (.isub, 1) := by decide +kernel
theorem dX3_whole_90 : decode cX3_whole 90 = .ok (.iload_n 3, 1) := by decide +kernel
theorem dX3_whole_91 : decode cX3_whole 91 = .ok (.sipush 255, 3) := by decide +kernel
theorem dX3_whole_94 : decode cX3_whole 94 = .ok (.iand, 1) := by decide +kernel
theorem dX3_whole_95 : decode cX3_whole 95 = .ok (.iastore, 1) := by decide +kernel
theorem dX3_whole_96 : decode cX3_whole 96 = .ok (.iinc 2 1, 3) := by decide +kernel
theorem dX3_whole_99 : decode cX3_whole 99 = .ok (.goto (-51), 3) := by decide +kernel
theorem dX3_whole_102 : decode cX3_whole 102 = .ok (.aload_n 0, 1) := by decide +kernel
theorem dX3_whole_103 : decode cX3_whole 103 = .ok (.iload_n 1, 1) := by decide +kernel
theorem dX3_whole_104 : decode cX3_whole 104 = .ok (.bipush 8, 2) := by decide +kernel
theorem dX3_whole_106 : decode cX3_whole 106 = .ok (.iadd, 1) := by decide +kernel
theorem dX3_whole_107 : decode cX3_whole 107 = .ok (.invokevirtual 63, 3) := by decide +kernel
theorem dX3_whole_110 : decode cX3_whole 110 = .ok (.aload_n 0, 1) := by decide +kernel
theorem dX3_whole_111 : decode cX3_whole 111 = .ok (.getfield 41, 3) := by decide +kernel
theorem dX3_whole_114 : decode cX3_whole 114 = .ok (.ireturn, 1) := by decide +kernel
theorem dX3_inMemory_0 : decode cX3_inMemory 0 = .ok (.aload_n 0, 1) := by decide +kernel
theorem dX3_inMemory_1 : decode cX3_inMemory 1 = .ok (.getfield 23, 3) := by decide +kernel
theorem dX3_inMemory_4 : decode cX3_inMemory 4 = .ok (.aload_n 0, 1) := by decide +kernel
theorem dX3_inMemory_5 : decode cX3_inMemory 5 = .ok (.getfield 41, 3) := by decide +kernel
theorem dX3_inMemory_8 : decode cX3_inMemory 8 = .ok (.iaload, 1) := by decide +kernel
theorem dX3_inMemory_9 : decode cX3_inMemory 9 = .ok (.aload_n 0, 1) := by decide +kernel
theorem dX3_inMemory_10 : decode cX3_inMemory 10 = .ok (.getfield 23, 3) := by decide +kernel
theorem dX3_inMemory_13 : decode cX3_inMemory 13 = .ok (.aload_n 0, 1) := by decide +kernel
theorem dX3_inMemory_14 : decode cX3_inMemory 14 = .ok (.getfield 70, 3) := by decide +kernel
theorem dX3_inMemory_17 : decode cX3_inMemory 17 = .ok (.iaload, 1) := by decide +kernel
theorem dX3_inMemory_18 : decode cX3_inMemory 18 = .ok (.isub, 1) := by decide +kernel
theorem dX3_inMemory_19 : decode cX3_inMemory 19 = .ok (.ireturn, 1) := by decide +kernel
theorem dX3_sync_0 : decode cX3_sync 0 = .ok (.aload_n 0, 1) := by decide +kernel
theorem dX3_sync_1 : decode cX3_sync 1 = .ok (.aload_n 0, 1) := by decide +kernel
theorem dX3_sync_2 : decode cX3_sync 2 = .ok (.getfield 16, 3) := by decide +kernel
theorem dX3_sync_5 : decode cX3_sync 5 = .ok (.ifCond .eq 7, 3) := by decide +kernel
theorem dX3_sync_8 : decode cX3_sync 8 = .ok (.iconst 0, 1) := by decide +kernel
theorem dX3_sync_9 : decode cX3_sync 9 = .ok (.goto 4, 3) := by decide +kernel
theorem dX3_sync_12 : decode cX3_sync 12 = .ok (.iconst 1, 1) := by decide +kernel
theorem dX3_sync_13 : decode cX3_sync 13 = .ok (.putfield 33, 3) := by decide +kernel
theorem dX3_sync_16 : decode cX3_sync 16 = .ok (.aload_n 0, 1) := by decide +kernel
theorem dX3_sync_17 : decode cX3_sync 17 = .ok (.getfield 33, 3) := by decide +kernel
theorem dX3_sync_20 : decode cX3_sync 20 = .ok (.ifCond .eq 5, 3) := by decide +kernel
theorem dX3_sync_23 : decode cX3_sync 23 = .ok (.iconst 0, 1) := by decide +kernel
theorem dX3_sync_24 : decode cX3_sync 24 = .ok (.ireturn, 1) := by decide +kernel
theorem dX3_sync_25 : decode cX3_sync 25 = .ok (.aload_n 0, 1) := by decide +kernel
theorem dX3_sync_26 : decode cX3_sync 26 = .ok (.getfield 23, 3) := by decide +kernel
theorem dX3_sync_29 : decode cX3_sync 29 = .ok (.aload_n 0, 1) := by decide +kernel
theorem dX3_sync_30 : decode cX3_sync 30 = .ok (.getfield 70, 3) := by decide +kernel
theorem dX3_sync_33 : decode cX3_sync 33 = .ok (.iaload, 1) := by decide +kernel
theorem dX3_sync_34 : decode cX3_sync 34 = .ok (.istore_n 1, 1) := by decide +kernel
theorem dX3_sync_35 : decode cX3_sync 35 = .ok (.iload_n 1, 1) := by decide +kernel
theorem dX3_sync_36 : decode cX3_sync 36 = .ok (.aload_n 0, 1) := by decide +kernel
theorem dX3_sync_37 : decode cX3_sync 37 = .ok (.getfield 23, 3) := by decide +kernel
theorem dX3_sync_40 : decode cX3_sync 40 = .ok (.aload_n 0, 1) := by decide +kernel
theorem dX3_sync_41 : decode cX3_sync 41 = .ok (.getfield 41, 3) := by decide +kernel
theorem dX3_sync_44 : decode cX3_sync 44 = .ok (.iaload, 1) := by decide +kernel
theorem dX3_sync_45 : decode cX3_sync 45 = .ok (.if_icmp .ge 21, 3) := by decide +kernel
theorem dX3_sync_48 : decode cX3_sync 48 = .ok (.aload_n 0, 1) := by decide +kernel
theorem dX3_sync_49 : decode cX3_sync 49 = .ok (.getfield 7, 3) := by decide +kernel
theorem dX3_sync_52 : decode cX3_sync 52 = .ok (.iload_n 1, 1) := by decide +kernel
theorem dX3_sync_53 : decode cX3_sync 53 = .ok (.aload_n 0, 1) := by decide +kernel
theorem dX3_sync_54 : decode cX3_sync 54 = .ok (.getfield 20, 3) := by decide +kernel
theorem dX3_sync_57 : decode cX3_sync 57 = .ok (.iload_n 1, 1) := by decide +kernel
theorem dX3_sync_58 : decode cX3_sync 58 = .ok (.iaload, 1) := by decide +kernel
theorem dX3_sync_59 : decode cX3_sync 59 = .ok (.iastore, 1) := by decide +kernel
theorem dX3_sync_60 : decode cX3_sync 60 = .ok (.iinc 1 1, 3) := by decide +kernel
theorem dX3_sync_63 : decode cX3_sync 63 = .ok (.goto (-28), 3) := by decide +kernel
theorem dX3_sync_66 : decode cX3_sync 66 = .ok (.aload_n 0, 1) := by decide +kernel
theorem dX3_sync_67 : decode cX3_sync 67 = .ok (.getfield 41, 3) := by decide +kernel
theorem dX3_sync_70 : decode cX3_sync 70 = .ok (.aload_n 0, 1) := by decide +kernel
theorem dX3_sync_71 : decode cX3_sync 71 = .ok (.getfield 70, 3) := by decide +kernel
theorem dX3_sync_74 : decode cX3_sync 74 = .ok (.isub, 1) := by decide +kernel
theorem dX3_sync_75 : decode cX3_sync 75 = .ok (.istore_n 1, 1) := by decide +kernel
theorem dX3_sync_76 : decode cX3_sync 76 = .ok (.aload_n 0, 1) := by decide +kernel
theorem dX3_sync_77 : decode cX3_sync 77 = .ok (.aload_n 0, 1) := by decide +kernel
theorem dX3_sync_78 : decode cX3_sync 78 = .ok (.getfield 41, 3) := by decide +kernel
theorem dX3_sync_81 : decode cX3_sync 81 = .ok (.putfield 70, 3) := by decide +kernel
theorem dX3_sync_84 : decode cX3_sync 84 = .ok (.iload_n 1, 1) := by decide +kernel
theorem dX3_sync_85 : decode cX3_sync 85 = .ok (.ireturn, 1) := by decide +kernel
set_option maxRecDepth 20000 in
theorem ggX3_cut_X3_within : GoodIn wsX3_cut wsX3_within := goodIn_r _ [12] (by decide +kernel) (by decide +kernel)
set_option maxRecDepth 20000 in
theorem gX3_cut_X3_within : GoodIn wsX3_cut (va_wsS RX3 48 yX3_within wsX3_within) := goodIn_app (goodIn_of _ (by decide +kernel)) ggX3_cut_X3_within
set_option maxRecDepth 20000 in
theorem ggX3_cut_X3_inMemory : GoodIn wsX3_cut wsX3_inMemory := goodIn_r _ [16, 3, 7, 4, 17, 18, 19, 20, 21, 22, 23, 24, 25, 26, 27, 28, 29] (by decide +kernel) (by decide +kernel)
set_option maxRecDepth 20000 in
theorem gX3_cut_X3_inMemory : GoodIn wsX3_cut (wsV RX3 73 RX3 yX3_inMemory wsX3_inMemory) := goodIn_app (goodIn_of _ (by decide +kernel)) ggX3_cut_X3_inMemory
theorem dX3_cut_0 : decode cX3_cut 0 = .ok (.aload_n 0, 1) := by decide +kernel
theorem dX3_cut_1 : decode cX3_cut 1 = .ok (.iload_n 2, 1) := by decide +kernel
theorem dX3_cut_2 : decode cX3_cut 2 = .ok (.iconst 0, 1) := by decide +kernel
theorem dX3_cut_3 : decode cX3_cut 3 = .ok (.sipush 255, 3) := by decide +kernel
theorem dX3_cut_6 : decode cX3_cut 6 = .ok (.invokestatic 48, 3) := by decide +kernel
theorem dX3_cut_9 : decode cX3_cut 9 = .ok (.ifCond .eq 26, 3) := by decide +kernel
theorem dX3_cut_12 : decode cX3_cut 12 = .ok (.iload_n 1, 1) := by decide +kernel
theorem dX3_cut_13 : decode cX3_cut 13 = .ok (.iconst 0, 1) := by decide +kernel
theorem dX3_cut_14 : decode cX3_cut 14 = .ok (.aload_n 0, 1) := by decide +kernel
theorem dX3_cut_15 : decode cX3_cut 15 = .ok (.getfield 16, 3) := by decide +kernel
theorem dX3_cut_18 : decode cX3_cut 18 = .ok (.ifCond .eq 10, 3) := by decide +kernel
theorem dX3_cut_21 : decode cX3_cut 21 = .ok (.aload_n 0, 1) := by decide +kernel
theorem dX3_cut_22 : decode cX3_cut 22 = .ok (.invokevirtual 73, 3) := by decide +kernel
theorem dX3_cut_25 : decode cX3_cut 25 = .ok (.goto 4, 3) := by decide +kernel
theorem dX3_cut_28 : decode cX3_cut 28 = .ok (.iconst 0, 1) := by decide +kernel
theorem dX3_cut_29 : decode cX3_cut 29 = .ok (.invokestatic 48, 3) := by decide +kernel
theorem dX3_cut_32 : decode cX3_cut 32 = .ok (.ifCond .ne 7, 3) := by decide +kernel
theorem dX3_cut_35 : decode cX3_cut 35 = .ok (.iconst 1, 1) := by decide +kernel
theorem dX3_cut_36 : decode cX3_cut 36 = .ok (.goto 15, 3) := by decide +kernel
theorem dX3_cut_39 : decode cX3_cut 39 = .ok (.aload_n 0, 1) := by decide +kernel
theorem dX3_cut_40 : decode cX3_cut 40 = .ok (.getfield 16, 3) := by decide +kernel
theorem dX3_cut_43 : decode cX3_cut 43 = .ok (.ifCond .ne 7, 3) := by decide +kernel
theorem dX3_cut_46 : decode cX3_cut 46 = .ok (.iconst 2, 1) := by decide +kernel
theorem dX3_cut_47 : decode cX3_cut 47 = .ok (.goto 4, 3) := by decide +kernel
theorem dX3_cut_50 : decode cX3_cut 50 = .ok (.iconst 0, 1) := by decide +kernel
theorem dX3_cut_51 : decode cX3_cut 51 = .ok (.putfield 33, 3) := by decide +kernel
theorem dX3_cut_54 : decode cX3_cut 54 = .ok (.aload_n 0, 1) := by decide +kernel
theorem dX3_cut_55 : decode cX3_cut 55 = .ok (.getfield 33, 3) := by decide +kernel
theorem dX3_cut_58 : decode cX3_cut 58 = .ok (.ifCond .eq 4, 3) := by decide +kernel
theorem dX3_cut_61 : decode cX3_cut 61 = .ok (.return_, 1) := by decide +kernel
theorem dX3_cut_62 : decode cX3_cut 62 = .ok (.aload_n 0, 1) := by decide +kernel
theorem dX3_cut_63 : decode cX3_cut 63 = .ok (.getfield 23, 3) := by decide +kernel
theorem dX3_cut_66 : decode cX3_cut 66 = .ok (.aload_n 0, 1) := by decide +kernel
theorem dX3_cut_67 : decode cX3_cut 67 = .ok (.getfield 70, 3) := by decide +kernel
theorem dX3_cut_70 : decode cX3_cut 70 = .ok (.iaload, 1) := by decide +kernel
theorem dX3_cut_71 : decode cX3_cut 71 = .ok (.istore_n 3, 1) := by decide +kernel
theorem dX3_cut_72 : decode cX3_cut 72 = .ok (.iload_n 3, 1) := by decide +kernel
theorem dX3_cut_73 : decode cX3_cut 73 = .ok (.istore 4, 2) := by decide +kernel
theorem dX3_cut_75 : decode cX3_cut 75 = .ok (.iload 4, 2) := by decide +kernel
theorem dX3_cut_77 : decode cX3_cut 77 = .ok (.iload_n 3, 1) := by decide +kernel
theorem dX3_cut_78 : decode cX3_cut 78 = .ok (.iload_n 1, 1) := by decide +kernel
theorem dX3_cut_79 : decode cX3_cut 79 = .ok (.iadd, 1) := by decide +kernel
theorem dX3_cut_80 : decode cX3_cut 80 = .ok (.if_icmp .ge 23, 3) := by decide +kernel
theorem dX3_cut_83 : decode cX3_cut 83 = .ok (.aload_n 0, 1) := by decide +kernel
theorem dX3_cut_84 : decode cX3_cut 84 = .ok (.getfield 7, 3) := by decide +kernel
theorem dX3_cut_87 : decode cX3_cut 87 = .ok (.iload 4, 2) := by decide +kernel
theorem dX3_cut_89 : decode cX3_cut 89 = .ok (.aload_n 0, 1) := by decide +kernel
theorem dX3_cut_90 : decode cX3_cut 90 = .ok (.getfield 20, 3) := by decide +kernel
theorem dX3_cut_93 : decode cX3_cut 93 = .ok (.iload 4, 2) := by decide +kernel
theorem dX3_cut_95 : decode cX3_cut 95 = .ok (.iaload, 1) := by decide +kernel
theorem dX3_cut_96 : decode cX3_cut 96 = .ok (.iastore, 1) := by decide +kernel
theorem dX3_cut_97 : decode cX3_cut 97 = .ok (.iinc 4 1, 3) := by decide +kernel
theorem dX3_cut_100 : decode cX3_cut 100 = .ok (.goto (-25), 3) := by decide +kernel
theorem dX3_cut_103 : decode cX3_cut 103 = .ok (.iload_n 1, 1) := by decide +kernel
theorem dX3_cut_104 : decode cX3_cut 104 = .ok (.aload_n 0, 1) := by decide +kernel
theorem dX3_cut_105 : decode cX3_cut 105 = .ok (.invokevirtual 73, 3) := by decide +kernel
theorem dX3_cut_108 : decode cX3_cut 108 = .ok (.if_icmp .ge 25, 3) := by decide +kernel
theorem dX3_cut_111 : decode cX3_cut 111 = .ok (.iload_n 2, 1) := by decide +kernel
theorem dX3_cut_112 : decode cX3_cut 112 = .ok (.ifCond .eq 21, 3) := by decide +kernel
theorem dX3_cut_115 : decode cX3_cut 115 = .ok (.aload_n 0, 1) := by decide +kernel
theorem dX3_cut_116 : decode cX3_cut 116 = .ok (.getfield 7, 3) := by decide +kernel
theorem dX3_cut_119 : decode cX3_cut 119 = .ok (.iload_n 3, 1) := by decide +kernel
theorem dX3_cut_120 : decode cX3_cut 120 = .ok (.iload_n 1, 1) := by decide +kernel
theorem dX3_cut_121 : decode cX3_cut 121 = .ok (.iadd, 1) := by decide +kernel
theorem dX3_cut_122 : decode cX3_cut 122 = .ok (.aload_n 0, 1) := by decide +kernel
theorem dX3_cut_123 : decode cX3_cut 123 = .ok (.getfield 20, 3) := by decide +kernel
theorem dX3_cut_126 : decode cX3_cut 126 = .ok (.iload_n 3, 1) := by decide +kernel
theorem dX3_cut_127 : decode cX3_cut 127 = .ok (.iload_n 1, 1) := by decide +kernel
theorem dX3_cut_128 : decode cX3_cut 128 = .ok (.iadd, 1) := by decide +kernel
theorem dX3_cut_129 : decode cX3_cut 129 = .ok (.iaload, 1) := by decide +kernel
theorem dX3_cut_130 : decode cX3_cut 130 = .ok (.iload_n 2, 1) := by decide +kernel
theorem dX3_cut_131 : decode cX3_cut 131 = .ok (.ixor, 1) := by decide +kernel
theorem dX3_cut_132 : decode cX3_cut 132 = .ok (.iastore, 1) := by decide +kernel
theorem dX3_cut_133 : decode cX3_cut 133 = .ok (.aload_n 0, 1) := by decide +kernel
theorem dX3_cut_134 : decode cX3_cut 134 = .ok (.aload_n 0, 1) := by decide +kernel
theorem dX3_cut_135 : decode cX3_cut 135 = .ok (.getfield 70, 3) := by decide +kernel
theorem dX3_cut_138 : decode cX3_cut 138 = .ok (.putfield 41, 3) := by decide +kernel
theorem dX3_cut_141 : decode cX3_cut 141 = .ok (.aload_n 0, 1) := by decide +kernel
theorem dX3_cut_142 : decode cX3_cut 142 = .ok (.iconst 0, 1) := by decide +kernel
theorem dX3_cut_143 : decode cX3_cut 143 = .ok (.putfield 52, 3) := by decide +kernel
theorem dX3_cut_146 : decode cX3_cut 146 = .ok (.aload_n 0, 1) := by decide +kernel
theorem dX3_cut_147 : decode cX3_cut 147 = .ok (.iconst 0, 1) := by decide +kernel
theorem dX3_cut_148 : decode cX3_cut 148 = .ok (.putfield 16, 3) := by decide +kernel
theorem dX3_cut_151 : decode cX3_cut 151 = .ok (.return_, 1) := by decide +kernel
set_option maxRecDepth 20000 in
theorem ggX3_look_X3_within : GoodIn wsX3_look wsX3_within := goodIn_r _ [7] (by decide +kernel) (by decide +kernel)
set_option maxRecDepth 20000 in
theorem gX3_look_X3_within : GoodIn wsX3_look (va_wsS RX3 48 yX3_within wsX3_within) := goodIn_app (goodIn_of _ (by decide +kernel)) ggX3_look_X3_within
set_option maxRecDepth 20000 in
theorem ggX3_look_X3_sumOf : GoodIn wsX3_look wsX3_sumOf := goodIn_r _ [10, 11] (by decide +kernel) (by decide +kernel)
set_option maxRecDepth 20000 in
theorem gX3_look_X3_sumOf : GoodIn wsX3_look (va_wsS RX3 44 yX3_sumOf wsX3_sumOf) := goodIn_app (goodIn_of _ (by decide +kernel)) ggX3_look_X3_sumOf
set_option maxRecDepth 20000 in
theorem ggX3_look_X3_countsRight : GoodIn wsX3_look wsX3_countsRight := goodIn_r _ [15, 2, 3, 16, 17, 18, 6, 19, 20, 21, 22, 23, 24, 25, 26, 27, 28, 29, 30, 31, 32, 33, 34, 35, 36, 37, 38] (by decide +kernel) (by decide +kernel)
set_option maxRecDepth 20000 in
theorem gX3_look_X3_countsRight : GoodIn wsX3_look (wsV RX3 77 RX3 yX3_countsRight wsX3_countsRight) := goodIn_app (goodIn_of _ (by decide +kernel)) ggX3_look_X3_countsRight
theorem dX3_look_0 : decode cX3_look 0 = .ok (.iconst 1, 1) := by decide +kernel
theorem dX3_look_1 : decode cX3_look 1 = .ok (.istore_n 2, 1) := by decide +kernel
theorem dX3_look_2 : decode cX3_look 2 = .ok (.iload_n 1, 1) := by decide +kernel
theorem dX3_look_3 : decode cX3_look 3 = .ok (.istore_n 3, 1) := by decide +kernel
theorem dX3_look_4 : decode cX3_look 4 = .ok (.iload_n 3, 1) := by decide +kernel
theorem dX3_look_5 : decode cX3_look 5 = .ok (.aload_n 0, 1) := by decide +kernel
theorem dX3_look_6 : decode cX3_look 6 = .ok (.getfield 29, 3) := by decide +kernel
theorem dX3_look_9 : decode cX3_look 9 = .ok (.if_icmp .ge 20, 3) := by decide +kernel
theorem dX3_look_12 : decode cX3_look 12 = .ok (.aload_n 0, 1) := by decide +kernel
theorem dX3_look_13 : decode cX3_look 13 = .ok (.getfield 7, 3) := by decide +kernel
theorem dX3_look_16 : decode cX3_look 16 = .ok (.iload_n 3, 1) := by decide +kernel
theorem dX3_look_17 : decode cX3_look 17 = .ok (.iaload, 1) := by decide +kernel
theorem dX3_look_18 : decode cX3_look 18 = .ok (.ifCond .eq 5, 3) := by decide +kernel
theorem dX3_look_21 : decode cX3_look 21 = .ok (.iconst 0, 1) := by decide +kernel
theorem dX3_look_22 : decode cX3_look 22 = .ok (.istore_n 2, 1) := by decide +kernel
theorem dX3_look_23 : decode cX3_look 23 = .ok (.iinc 3 1, 3) := by decide +kernel
theorem dX3_look_26 : decode cX3_look 26 = .ok (.goto (-22), 3) := by decide +kernel
theorem dX3_look_29 : decode cX3_look 29 = .ok (.iload_n 2, 1) := by decide +kernel
theorem dX3_look_30 : decode cX3_look 30 = .ok (.ifCond .eq 6, 3) := by decide +kernel
theorem dX3_look_33 : decode cX3_look 33 = .ok (.bipush 7, 2) := by decide +kernel
theorem dX3_look_35 : decode cX3_look 35 = .ok (.ireturn, 1) := by decide +kernel
theorem dX3_look_36 : decode cX3_look 36 = .ok (.aload_n 0, 1) := by decide +kernel
theorem dX3_look_37 : decode cX3_look 37 = .ok (.getfield 7, 3) := by decide +kernel
theorem dX3_look_40 : decode cX3_look 40 = .ok (.iload_n 1, 1) := by decide +kernel
theorem dX3_look_41 : decode cX3_look 41 = .ok (.iaload, 1) := by decide +kernel
theorem dX3_look_42 : decode cX3_look 42 = .ok (.bipush 90, 2) := by decide +kernel
theorem dX3_look_44 : decode cX3_look 44 = .ok (.if_icmp .eq 5, 3) := by decide +kernel
theorem dX3_look_47 : decode cX3_look 47 = .ok (.iconst 1, 1) := by decide +kernel
theorem dX3_look_48 : decode cX3_look 48 = .ok (.ireturn, 1) := by decide +kernel
theorem dX3_look_49 : decode cX3_look 49 = .ok (.iload_n 1, 1) := by decide +kernel
theorem dX3_look_50 : decode cX3_look 50 = .ok (.iconst 5, 1) := by decide +kernel
theorem dX3_look_51 : decode cX3_look 51 = .ok (.iadd, 1) := by decide +kernel
theorem dX3_look_52 : decode cX3_look 52 = .ok (.aload_n 0, 1) := by decide +kernel
theorem dX3_look_53 : decode cX3_look 53 = .ok (.getfield 29, 3) := by decide +kernel
theorem dX3_look_56 : decode cX3_look 56 = .ok (.if_icmp .le 5, 3) := by decide +kernel
theorem dX3_look_59 : decode cX3_look 59 = .ok (.iconst 4, 1) := by decide +kernel
theorem dX3_look_60 : decode cX3_look 60 = .ok (.ireturn, 1) := by decide +kernel
theorem dX3_look_61 : decode cX3_look 61 = .ok (.aload_n 0, 1) := by decide +kernel
theorem dX3_look_62 : decode cX3_look 62 = .ok (.getfield 7, 3) := by decide +kernel
theorem dX3_look_65 : decode cX3_look 65 = .ok (.iload_n 1, 1) := by decide +kernel
theorem dX3_look_66 : decode cX3_look 66 = .ok (.iconst 1, 1) := by decide +kernel
theorem dX3_look_67 : decode cX3_look 67 = .ok (.iadd, 1) := by decide +kernel
theorem dX3_look_68 : decode cX3_look 68 = .ok (.iaload, 1) := by decide +kernel
theorem dX3_look_69 : decode cX3_look 69 = .ok (.iconst 1, 1) := by decide +kernel
theorem dX3_look_70 : decode cX3_look 70 = .ok (.iconst 5, 1) := by decide +kernel
theorem dX3_look_71 : decode cX3_look 71 = .ok (.invokestatic 48, 3) := by decide +kernel
theorem dX3_look_74 : decode cX3_look 74 = .ok (.ifCond .ne 5, 3) := by decide +kernel
theorem dX3_look_77 : decode cX3_look 77 = .ok (.iconst 2, 1) := by decide +kernel
theorem dX3_look_78 : decode cX3_look 78 = .ok (.ireturn, 1) := by decide +kernel
theorem dX3_look_79 : decode cX3_look 79 = .ok (.sipush 256, 3) := by decide +kernel
theorem dX3_look_82 : decode cX3_look 82 = .ok (.aload_n 0, 1) := by decide +kernel
theorem dX3_look_83 : decode cX3_look 83 = .ok (.getfield 7, 3) := by decide +kernel
theorem dX3_look_86 : decode cX3_look 86 = .ok (.iload_n 1, 1) := by decide +kernel
theorem dX3_look_87 : decode cX3_look 87 = .ok (.iconst 2, 1) := by decide +kernel
theorem dX3_look_88 : decode cX3_look 88 = .ok (.iadd, 1) := by decide +kernel
theorem dX3_look_89 : decode cX3_look 89 = .ok (.iaload, 1) := by decide +kernel
theorem dX3_look_90 : decode cX3_look 90 = .ok (.imul, 1) := by decide +kernel
theorem dX3_look_91 : decode cX3_look 91 = .ok (.aload_n 0, 1) := by decide +kernel
theorem dX3_look_92 : decode cX3_look 92 = .ok (.getfield 7, 3) := by decide +kernel
theorem dX3_look_95 : decode cX3_look 95 = .ok (.iload_n 1, 1) := by decide +kernel
theorem dX3_look_96 : decode cX3_look 96 = .ok (.iconst 3, 1) := by decide +kernel
theorem dX3_look_97 : decode cX3_look 97 = .ok (.iadd, 1) := by decide +kernel
theorem dX3_look_98 : decode cX3_look 98 = .ok (.iaload, 1) := by decide +kernel
theorem dX3_look_99 : decode cX3_look 99 = .ok (.iadd, 1) := by decide +kernel
theorem dX3_look_100 : decode cX3_look 100 = .ok (.aload_n 0, 1) := by decide +kernel
theorem dX3_look_101 : decode cX3_look 101 = .ok (.getfield 41, 3) := by decide +kernel
theorem dX3_look_104 : decode cX3_look 104 = .ok (.iconst 1, 1) := by decide +kernel
theorem dX3_look_105 : decode cX3_look 105 = .ok (.iadd, 1) := by decide +kernel
theorem dX3_look_106 : decode cX3_look 106 = .ok (.if_icmp .eq 5, 3) := by decide +kernel
theorem dX3_look_109 : decode cX3_look 109 = .ok (.iconst 3, 1) := by decide +kernel
theorem dX3_look_110 : decode cX3_look 110 = .ok (.ireturn, 1) := by decide +kernel
theorem dX3_look_111 : decode cX3_look 111 = .ok (.aload_n 0, 1) := by decide +kernel
theorem dX3_look_112 : decode cX3_look 112 = .ok (.getfield 7, 3) := by decide +kernel
theorem dX3_look_115 : decode cX3_look 115 = .ok (.iload_n 1, 1) := by decide +kernel
theorem dX3_look_116 : decode cX3_look 116 = .ok (.iconst 4, 1) := by decide +kernel
theorem dX3_look_117 : decode cX3_look 117 = .ok (.iadd, 1) := by decide +kernel
theorem dX3_look_118 : decode cX3_look 118 = .ok (.iaload, 1) := by decide +kernel
theorem dX3_look_119 : decode cX3_look 119 = .ok (.istore_n 3, 1) := by decide +kernel
theorem dX3_look_120 : decode cX3_look 120 = .ok (.iload_n 3, 1) := by decide +kernel
theorem dX3_look_121 : decode cX3_look 121 = .ok (.bipush 20, 2) := by decide +kernel
theorem dX3_look_123 : decode cX3_look 123 = .ok (.if_icmp .gt 16, 3) := by decide +kernel
theorem dX3_look_126 : decode cX3_look 126 = .ok (.iload_n 1, 1) := by decide +kernel
theorem dX3_look_127 : decode cX3_look 127 = .ok (.bipush 9, 2) := by decide +kernel
theorem dX3_look_129 : decode cX3_look 129 = .ok (.iadd, 1) := by decide +kernel
theorem dX3_look_130 : decode cX3_look 130 = .ok (.iload_n 3, 1) := by decide +kernel
theorem dX3_look_131 : decode cX3_look 131 = .ok (.iadd, 1) := by decide +kernel
theorem dX3_look_132 : decode cX3_look 132 = .ok (.aload_n 0, 1) := by decide +kernel
theorem dX3_look_133 : decode cX3_look 133 = .ok (.getfield 29, 3) := by decide +kernel
theorem dX3_look_136 : decode cX3_look 136 = .ok (.if_icmp .le 5, 3) := by decide +kernel
theorem dX3_look_139 : decode cX3_look 139 = .ok (.iconst 4, 1) := by decide +kernel
theorem dX3_look_140 : decode cX3_look 140 = .ok (.ireturn, 1) := by decide +kernel
theorem dX3_look_141 : decode cX3_look 141 = .ok (.aload_n 0, 1) := by decide +kernel
theorem dX3_look_142 : decode cX3_look 142 = .ok (.getfield 7, 3) := by decide +kernel
theorem dX3_look_145 : decode cX3_look 145 = .ok (.iload_n 1, 1) := by decide +kernel
theorem dX3_look_146 : decode cX3_look 146 = .ok (.iconst 1, 1) := by decide +kernel
theorem dX3_look_147 : decode cX3_look 147 = .ok (.iadd, 1) := by decide +kernel
theorem dX3_look_148 : decode cX3_look 148 = .ok (.iload_n 1, 1) := by decide +kernel
theorem dX3_look_149 : decode cX3_look 149 = .ok (.iconst 5, 1) := by decide +kernel
theorem dX3_look_150 : decode cX3_look 150 = .ok (.iadd, 1) := by decide +kernel
theorem dX3_look_151 : decode cX3_look 151 = .ok (.iload_n 3, 1) := by decide +kernel
theorem dX3_look_152 : decode cX3_look 152 = .ok (.iadd, 1) := by decide +kernel
theorem dX3_look_153 : decode cX3_look 153 = .ok (.invokestatic 44, 3) := by decide +kernel
theorem dX3_look_156 : decode cX3_look 156 = .ok (.istore 4, 2) := by decide +kernel
theorem dX3_look_158 : decode cX3_look 158 = .ok (.iconst 0, 1) := by decide +kernel
theorem dX3_look_159 : decode cX3_look 159 = .ok (.istore 5, 2) := by decide +kernel
theorem dX3_look_161 : decode cX3_look 161 = .ok (.iload 5, 2) := by decide +kernel
theorem dX3_look_163 : decode cX3_look 163 = .ok (.iconst 4, 1) := by decide +kernel
theorem dX3_look_164 : decode cX3_look 164 = .ok (.if_icmp .ge 42, 3) := by decide +kernel
theorem dX3_look_167 : decode cX3_look 167 = .ok (.aload_n 0, 1) := by decide +kernel
theorem dX3_look_168 : decode cX3_look 168 = .ok (.getfield 7, 3) := by decide +kernel
theorem dX3_look_171 : decode cX3_look 171 = .ok (.iload_n 1, 1) := by decide +kernel
theorem dX3_look_172 : decode cX3_look 172 = .ok (.iconst 5, 1) := by decide +kernel
theorem dX3_look_173 : decode cX3_look 173 = .ok (.iadd, 1) := by decide +kernel
theorem dX3_look_174 : decode cX3_look 174 = .ok (.iload_n 3, 1) := by decide +kernel
theorem dX3_look_175 : decode cX3_look 175 = .ok (.iadd, 1) := by decide +kernel
theorem dX3_look_176 : decode cX3_look 176 = .ok (.iload 5, 2) := by decide +kernel
theorem dX3_look_178 : decode cX3_look 178 = .ok (.iadd, 1) := by decide +kernel
theorem dX3_look_179 : decode cX3_look 179 = .ok (.iaload, 1) := by decide +kernel
theorem dX3_look_180 : decode cX3_look 180 = .ok (.iload 4, 2) := by decide +kernel
theorem dX3_look_182 : decode cX3_look 182 = .ok (.bipush 24, 2) := by decide +kernel
theorem dX3_look_184 : decode cX3_look 184 = .ok (.bipush 8, 2) := by decide +kernel
theorem dX3_look_186 : decode cX3_look 186 = .ok (.iload 5, 2) := by decide +kernel
theorem dX3_look_188 : decode cX3_look 188 = .ok (.imul, 1) := by decide +kernel
theorem dX3_look_189 : decode cX3_look 189 = .ok (.isub, 1) := by decide +kernel
theorem dX3_look_190 : decode cX3_look 190 = .ok (.iushr, 1) := by decide +kernel
theorem dX3_look_191 : decode cX3_look 191 = .ok (.sipush 255, 3) := by decide +kernel
theorem dX3_look_194 : decode cX3_look 194 = .ok (.iand, 1) := by decide +kernel
theorem dX3_look_195 : decode cX3_look 195 = .ok (.if_icmp .eq 5, 3) := by decide +kernel
theorem dX3_look_198 : decode cX3_look 198 = .ok (.iconst 5, 1) := by decide +kernel
theorem dX3_look_199 : decode cX3_look 199 = .ok (.ireturn, 1) := by decide +kernel
theorem dX3_look_200 : decode cX3_look 200 = .ok (.iinc 5 1, 3) := by decide +kernel
theorem dX3_look_203 : decode cX3_look 203 = .ok (.goto (-42), 3) := by decide +kernel
theorem dX3_look_206 : decode cX3_look 206 = .ok (.aload_n 0, 1) := by decide +kernel
theorem dX3_look_207 : decode cX3_look 207 = .ok (.getfield 7, 3) := by decide +kernel
theorem dX3_look_210 : decode cX3_look 210 = .ok (.iload_n 1, 1) := by decide +kernel
theorem dX3_look_211 : decode cX3_look 211 = .ok (.iconst 1, 1) := by decide +kernel
theorem dX3_look_212 : decode cX3_look 212 = .ok (.iadd, 1) := by decide +kernel
theorem dX3_look_213 : decode cX3_look 213 = .ok (.iaload, 1) := by decide +kernel
theorem dX3_look_214 : decode cX3_look 214 = .ok (.iconst 5, 1) := by decide +kernel
theorem dX3_look_215 : decode cX3_look 215 = .ok (.if_icmp .ne 19, 3) := by decide +kernel
theorem dX3_look_218 : decode cX3_look 218 = .ok (.aload_n 0, 1) := by decide +kernel
theorem dX3_look_219 : decode cX3_look 219 = .ok (.iload_n 1, 1) := by decide +kernel
theorem dX3_look_220 : decode cX3_look 220 = .ok (.iconst 5, 1) := by decide +kernel
theorem dX3_look_221 : decode cX3_look 221 = .ok (.iadd, 1) := by decide +kernel
theorem dX3_look_222 : decode cX3_look 222 = .ok (.iload_n 3, 1) := by decide +kernel
theorem dX3_look_223 : decode cX3_look 223 = .ok (.invokevirtual 77, 3) := by decide +kernel
theorem dX3_look_226 : decode cX3_look 226 = .ok (.ifCond .ne 8, 3) := by decide +kernel
theorem dX3_look_229 : decode cX3_look 229 = .ok (.bipush 6, 2) := by decide +kernel
theorem dX3_look_231 : decode cX3_look 231 = .ok (.goto 4, 3) := by decide +kernel
theorem dX3_look_234 : decode cX3_look 234 = .ok (.iconst 0, 1) := by decide +kernel
theorem dX3_look_235 : decode cX3_look 235 = .ok (.ireturn, 1) := by decide +kernel
set_option maxRecDepth 20000 in
theorem ggX3_countsRight_X3_rowsOf : GoodIn wsX3_countsRight wsX3_rowsOf := goodIn_r _ [7, 8, 9, 10, 6, 11, 12, 13, 14, 15, 16, 17, 18, 19, 20, 21, 22, 23, 24, 25, 26] (by decide +kernel) (by decide +kernel)
set_option maxRecDepth 20000 in
theorem gX3_countsRight_X3_rowsOf : GoodIn wsX3_countsRight (wsV RX3 67 RX3 yX3_rowsOf wsX3_rowsOf) := goodIn_app (goodIn_of _ (by decide +kernel)) ggX3_countsRight_X3_rowsOf
theorem dX3_countsRight_0 : decode cX3_countsRight 0 = .ok (.iload_n 2, 1) := by decide +kernel
theorem dX3_countsRight_1 : decode cX3_countsRight 1 = .ok (.bipush 8, 2) := by decide +kernel
theorem dX3_countsRight_3 : decode cX3_countsRight 3 = .ok (.if_icmp .eq 5, 3) := by decide +kernel
theorem dX3_countsRight_6 : decode cX3_countsRight 6 = .ok (.iconst 0, 1) := by decide +kernel
theorem dX3_countsRight_7 : decode cX3_countsRight 7 = .ok (.ireturn, 1) := by decide +kernel
theorem dX3_countsRight_8 : decode cX3_countsRight 8 = .ok (.iconst 1, 1) := by decide +kernel
theorem dX3_countsRight_9 : decode cX3_countsRight 9 = .ok (.istore_n 3, 1) := by decide +kernel
theorem dX3_countsRight_10 : decode cX3_countsRight 10 = .ok (.iload_n 3, 1) := by decide +kernel
theorem dX3_countsRight_11 : decode cX3_countsRight 11 = .ok (.iconst 4, 1) := by decide +kernel
theorem dX3_countsRight_12 : decode cX3_countsRight 12 = .ok (.if_icmp .gt 52, 3) := by decide +kernel
theorem dX3_countsRight_15 : decode cX3_countsRight 15 = .ok (.sipush 256, 3) := by decide +kernel
theorem dX3_countsRight_18 : decode cX3_countsRight 18 = .ok (.aload_n 0, 1) := by decide +kernel
theorem dX3_countsRight_19 : decode cX3_countsRight 19 = .ok (.getfield 7, 3) := by decide +kernel
theorem dX3_countsRight_22 : decode cX3_countsRight 22 = .ok (.iload_n 1, 1) := by decide +kernel
theorem dX3_countsRight_23 : decode cX3_countsRight 23 = .ok (.iconst 2, 1) := by decide +kernel
theorem dX3_countsRight_24 : decode cX3_countsRight 24 = .ok (.iload_n 3, 1) := by decide +kernel
theorem dX3_countsRight_25 : decode cX3_countsRight 25 = .ok (.imul, 1) := by decide +kernel
theorem dX3_countsRight_26 : decode cX3_countsRight 26 = .ok (.iadd, 1) := by decide +kernel
theorem dX3_countsRight_27 : decode cX3_countsRight 27 = .ok (.iconst 2, 1) := by decide +kernel
theorem dX3_countsRight_28 : decode cX3_countsRight 28 = .ok (.isub, 1) := by decide +kernel
theorem dX3_countsRight_29 : decode cX3_countsRight 29 = .ok (.iaload, 1) := by decide +kernel
theorem dX3_countsRight_30 : decode cX3_countsRight 30 = .ok (.imul, 1) := by decide +kernel
theorem dX3_countsRight_31 : decode cX3_countsRight 31 = .ok (.aload_n 0, 1) := by decide +kernel
theorem dX3_countsRight_32 : decode cX3_countsRight 32 = .ok (.getfield 7, 3) := by decide +kernel
theorem dX3_countsRight_35 : decode cX3_countsRight 35 = .ok (.iload_n 1, 1) := by decide +kernel
theorem dX3_countsRight_36 : decode cX3_countsRight 36 = .ok (.iconst 2, 1) := by decide +kernel
theorem dX3_countsRight_37 : decode cX3_countsRight 37 = .ok (.iload_n 3, 1) := by decide +kernel
theorem dX3_countsRight_38 : decode cX3_countsRight 38 = .ok (.imul, 1) := by decide +kernel
theorem dX3_countsRight_39 : decode cX3_countsRight 39 = .ok (.iadd, 1) := by decide +kernel
theorem dX3_countsRight_40 : decode cX3_countsRight 40 = .ok (.iconst 1, 1) := by decide +kernel
theorem dX3_countsRight_41 : decode cX3_countsRight 41 = .ok (.isub, 1) := by decide +kernel
theorem dX3_countsRight_42 : decode cX3_countsRight 42 = .ok (.iaload, 1) := by decide +kernel
theorem dX3_countsRight_43 : decode cX3_countsRight 43 = .ok (.iadd, 1) := by decide +kernel
theorem dX3_countsRight_44 : decode cX3_countsRight 44 = .ok (.aload_n 0, 1) := by decide +kernel
theorem dX3_countsRight_45 : decode cX3_countsRight 45 = .ok (.iload_n 3, 1) := by decide +kernel
theorem dX3_countsRight_46 : decode cX3_countsRight 46 = .ok (.aload_n 0, 1) := by decide +kernel
theorem dX3_countsRight_47 : decode cX3_countsRight 47 = .ok (.getfield 41, 3) := by decide +kernel
theorem dX3_countsRight_50 : decode cX3_countsRight 50 = .ok (.invokevirtual 67, 3) := by decide +kernel
theorem dX3_countsRight_53 : decode cX3_countsRight 53 = .ok (.if_icmp .eq 5, 3) := by decide +kernel
theorem dX3_countsRight_56 : decode cX3_countsRight 56 = .ok (.iconst 0, 1) := by decide +kernel
theorem dX3_countsRight_57 : decode cX3_countsRight 57 = .ok (.ireturn, 1) := by decide +kernel
theorem dX3_countsRight_58 : decode cX3_countsRight 58 = .ok (.iinc 3 1, 3) := by decide +kernel
theorem dX3_countsRight_61 : decode cX3_countsRight 61 = .ok (.goto (-51), 3) := by decide +kernel
theorem dX3_countsRight_64 : decode cX3_countsRight 64 = .ok (.iconst 1, 1) := by decide +kernel
theorem dX3_countsRight_65 : decode cX3_countsRight 65 = .ok (.ireturn, 1) := by decide +kernel
set_option maxRecDepth 20000 in
theorem ggX3_read_X3_look : GoodIn wsX3_read wsX3_look := goodIn_r _ [13, 14, 4, 1, 15, 16, 12, 17, 18, 19, 20, 21, 22, 23, 24, 25, 26, 27, 28, 29, 30, 31, 32, 33, 5, 6, 34, 35, 36, 37, 38, 39, 40, 41, 42, 43, 44, 45, 46] (by decide +kernel) (by decide +kernel)
set_option maxRecDepth 20000 in
theorem gX3_read_X3_look : GoodIn wsX3_read (wsV RX3 81 RX3 yX3_look wsX3_look) := goodIn_app (goodIn_of _ (by decide +kernel)) ggX3_read_X3_look
theorem dX3_read_0 : decode cX3_read 0 = .ok (.aload_n 0, 1) := by decide +kernel
theorem dX3_read_1 : decode cX3_read 1 = .ok (.iconst 0, 1) := by decide +kernel
theorem dX3_read_2 : decode cX3_read 2 = .ok (.putfield 41, 3) := by decide +kernel
theorem dX3_read_5 : decode cX3_read 5 = .ok (.aload_n 0, 1) := by decide +kernel
theorem dX3_read_6 : decode cX3_read 6 = .ok (.iconst 0, 1) := by decide +kernel
theorem dX3_read_7 : decode cX3_read 7 = .ok (.putfield 52, 3) := by decide +kernel
theorem dX3_read_10 : decode cX3_read 10 = .ok (.aload_n 0, 1) := by decide +kernel
theorem dX3_read_11 : decode cX3_read 11 = .ok (.iconst 1, 1) := by decide +kernel
theorem dX3_read_12 : decode cX3_read 12 = .ok (.putfield 16, 3) := by decide +kernel
theorem dX3_read_15 : decode cX3_read 15 = .ok (.iconst 0, 1) := by decide +kernel
theorem dX3_read_16 : decode cX3_read 16 = .ok (.istore_n 1, 1) := by decide +kernel
theorem dX3_read_17 : decode cX3_read 17 = .ok (.aload_n 0, 1) := by decide +kernel
theorem dX3_read_18 : decode cX3_read 18 = .ok (.iconst 0, 1) := by decide +kernel
theorem dX3_read_19 : decode cX3_read 19 = .ok (.invokevirtual 81, 3) := by decide +kernel
theorem dX3_read_22 : decode cX3_read 22 = .ok (.istore_n 2, 1) := by decide +kernel
theorem dX3_read_23 : decode cX3_read 23 = .ok (.iload_n 2, 1) := by decide +kernel
theorem dX3_read_24 : decode cX3_read 24 = .ok (.ifCond .ne 77, 3) := by decide +kernel
theorem dX3_read_27 : decode cX3_read 27 = .ok (.iload_n 1, 1) := by decide +kernel
theorem dX3_read_28 : decode cX3_read 28 = .ok (.bipush 9, 2) := by decide +kernel
theorem dX3_read_30 : decode cX3_read 30 = .ok (.iadd, 1) := by decide +kernel
theorem dX3_read_31 : decode cX3_read 31 = .ok (.aload_n 0, 1) := by decide +kernel
theorem dX3_read_32 : decode cX3_read 32 = .ok (.getfield 7, 3) := by decide +kernel
theorem dX3_read_35 : decode cX3_read 35 = .ok (.iload_n 1, 1) := by decide +kernel
theorem dX3_read_36 : decode cX3_read 36 = .ok (.iconst 4, 1) := by decide +kernel
theorem dX3_read_37 : decode cX3_read 37 = .ok (.iadd, 1) := by decide +kernel
theorem dX3_read_38 : decode cX3_read 38 = .ok (.iaload, 1) := by decide +kernel
theorem dX3_read_39 : decode cX3_read 39 = .ok (.iadd, 1) := by decide +kernel
theorem dX3_read_40 : decode cX3_read 40 = .ok (.istore_n 3, 1) := by decide +kernel
theorem dX3_read_41 : decode cX3_read 41 = .ok (.iload_n 1, 1) := by decide +kernel
theorem dX3_read_42 : decode cX3_read 42 = .ok (.istore 4, 2) := by decide +kernel
theorem dX3_read_44 : decode cX3_read 44 = .ok (.iload 4, 2) := by decide +kernel
theorem dX3_read_46 : decode cX3_read 46 = .ok (.iload_n 3, 1) := by decide +kernel
theorem dX3_read_47 : decode cX3_read 47 = .ok (.if_icmp .ge 23, 3) := by decide +kernel
theorem dX3_read_50 : decode cX3_read 50 = .ok (.aload_n 0, 1) := by decide +kernel
theorem dX3_read_51 : decode cX3_read 51 = .ok (.getfield 20, 3) := by decide +kernel
theorem dX3_read_54 : decode cX3_read 54 = .ok (.iload 4, 2) := by decide +kernel
theorem dX3_read_56 : decode cX3_read 56 = .ok (.aload_n 0, 1) := by decide +kernel
theorem dX3_read_57 : decode cX3_read 57 = .ok (.getfield 7, 3) := by decide +kernel
theorem dX3_read_60 : decode cX3_read 60 = .ok (.iload 4, 2) := by decide +kernel
theorem dX3_read_62 : decode cX3_read 62 = .ok (.iaload, 1) := by decide +kernel
theorem dX3_read_63 : decode cX3_read 63 = .ok (.iastore, 1) := by decide +kernel
theorem dX3_read_64 : decode cX3_read 64 = .ok (.iinc 4 1, 3) := by decide +kernel
theorem dX3_read_67 : decode cX3_read 67 = .ok (.goto (-23), 3) := by decide +kernel
theorem dX3_read_70 : decode cX3_read 70 = .ok (.aload_n 0, 1) := by decide +kernel
theorem dX3_read_71 : decode cX3_read 71 = .ok (.dup, 1) := by decide +kernel
theorem dX3_read_72 : decode cX3_read 72 = .ok (.getfield 41, 3) := by decide +kernel
theorem dX3_read_75 : decode cX3_read 75 = .ok (.iconst 1, 1) := by decide +kernel
theorem dX3_read_76 : decode cX3_read 76 = .ok (.iadd, 1) := by decide +kernel
theorem dX3_read_77 : decode cX3_read 77 = .ok (.putfield 41, 3) := by decide +kernel
theorem dX3_read_80 : decode cX3_read 80 = .ok (.aload_n 0, 1) := by decide +kernel
theorem dX3_read_81 : decode cX3_read 81 = .ok (.getfield 23, 3) := by decide +kernel
theorem dX3_read_84 : decode cX3_read 84 = .ok (.aload_n 0, 1) := by decide +kernel
theorem dX3_read_85 : decode cX3_read 85 = .ok (.getfield 41, 3) := by decide +kernel
theorem dX3_read_88 : decode cX3_read 88 = .ok (.iload_n 3, 1) := by decide +kernel
theorem dX3_read_89 : decode cX3_read 89 = .ok (.iastore, 1) := by decide +kernel
theorem dX3_read_90 : decode cX3_read 90 = .ok (.iload_n 3, 1) := by decide +kernel
theorem dX3_read_91 : decode cX3_read 91 = .ok (.istore_n 1, 1) := by decide +kernel
theorem dX3_read_92 : decode cX3_read 92 = .ok (.aload_n 0, 1) := by decide +kernel
theorem dX3_read_93 : decode cX3_read 93 = .ok (.iload_n 1, 1) := by decide +kernel
theorem dX3_read_94 : decode cX3_read 94 = .ok (.invokevirtual 81, 3) := by decide +kernel
theorem dX3_read_97 : decode cX3_read 97 = .ok (.istore_n 2, 1) := by decide +kernel
theorem dX3_read_98 : decode cX3_read 98 = .ok (.goto (-75), 3) := by decide +kernel
theorem dX3_read_101 : decode cX3_read 101 = .ok (.aload_n 0, 1) := by decide +kernel
theorem dX3_read_102 : decode cX3_read 102 = .ok (.iload_n 2, 1) := by decide +kernel
theorem dX3_read_103 : decode cX3_read 103 = .ok (.bipush 7, 2) := by decide +kernel
theorem dX3_read_105 : decode cX3_read 105 = .ok (.if_icmp .ne 7, 3) := by decide +kernel
theorem dX3_read_108 : decode cX3_read 108 = .ok (.iconst 0, 1) := by decide +kernel
theorem dX3_read_109 : decode cX3_read 109 = .ok (.goto 4, 3) := by decide +kernel
theorem dX3_read_112 : decode cX3_read 112 = .ok (.iload_n 2, 1) := by decide +kernel
theorem dX3_read_113 : decode cX3_read 113 = .ok (.putfield 84, 3) := by decide +kernel
theorem dX3_read_116 : decode cX3_read 116 = .ok (.aload_n 0, 1) := by decide +kernel
theorem dX3_read_117 : decode cX3_read 117 = .ok (.aload_n 0, 1) := by decide +kernel
theorem dX3_read_118 : decode cX3_read 118 = .ok (.getfield 41, 3) := by decide +kernel
theorem dX3_read_121 : decode cX3_read 121 = .ok (.putfield 70, 3) := by decide +kernel
theorem dX3_read_124 : decode cX3_read 124 = .ok (.return_, 1) := by decide +kernel
set_option maxRecDepth 20000 in
theorem ggX3_start_X3_read : GoodIn wsX3_start wsX3_read := goodIn_r _ [7, 2, 8, 9, 10, 11, 12, 13, 14, 15, 16, 17, 6, 18, 19, 20, 21, 22, 23, 24, 25, 26, 27, 28, 29, 30, 31, 32, 33, 34, 35, 36, 37, 38, 39, 40, 41, 42, 43, 44, 45, 46, 47, 48, 49, 50, 51] (by decide +kernel) (by decide +kernel)
set_option maxRecDepth 20000 in
theorem gX3_start_X3_read : GoodIn wsX3_start (wsV RX3 87 RX3 yX3_read wsX3_read) := goodIn_app (goodIn_of _ (by decide +kernel)) ggX3_start_X3_read
theorem dX3_start_0 : decode cX3_start 0 = .ok (.aload_n 0, 1) := by decide +kernel
theorem dX3_start_1 : decode cX3_start 1 = .ok (.iconst 0, 1) := by decide +kernel
theorem dX3_start_2 : decode cX3_start 2 = .ok (.putfield 33, 3) := by decide +kernel
theorem dX3_start_5 : decode cX3_start 5 = .ok (.aload_n 0, 1) := by decide +kernel
theorem dX3_start_6 : decode cX3_start 6 = .ok (.invokevirtual 87, 3) := by decide +kernel
theorem dX3_start_9 : decode cX3_start 9 = .ok (.aload_n 0, 1) := by decide +kernel
theorem dX3_start_10 : decode cX3_start 10 = .ok (.getfield 41, 3) := by decide +kernel
theorem dX3_start_13 : decode cX3_start 13 = .ok (.ireturn, 1) := by decide +kernel
set_option maxRecDepth 20000 in
theorem ggX3_isByte_X3_within : GoodIn wsX3_isByte wsX3_within := goodIn_r _ [5] (by decide +kernel) (by decide +kernel)
set_option maxRecDepth 20000 in
theorem gX3_isByte_X3_within : GoodIn wsX3_isByte (va_wsS RX3 48 yX3_within wsX3_within) := goodIn_app (goodIn_of _ (by decide +kernel)) ggX3_isByte_X3_within
theorem dX3_isByte_0 : decode cX3_isByte 0 = .ok (.iload_n 1, 1) := by decide +kernel
theorem dX3_isByte_1 : decode cX3_isByte 1 = .ok (.iconst 0, 1) := by decide +kernel
theorem dX3_isByte_2 : decode cX3_isByte 2 = .ok (.aload_n 0, 1) := by decide +kernel
theorem dX3_isByte_3 : decode cX3_isByte 3 = .ok (.getfield 29, 3) := by decide +kernel
theorem dX3_isByte_6 : decode cX3_isByte 6 = .ok (.bipush 32, 2) := by decide +kernel
theorem dX3_isByte_8 : decode cX3_isByte 8 = .ok (.idiv, 1) := by decide +kernel
theorem dX3_isByte_9 : decode cX3_isByte 9 = .ok (.iconst 1, 1) := by decide +kernel
theorem dX3_isByte_10 : decode cX3_isByte 10 = .ok (.isub, 1) := by decide +kernel
theorem dX3_isByte_11 : decode cX3_isByte 11 = .ok (.invokestatic 48, 3) := by decide +kernel
theorem dX3_isByte_14 : decode cX3_isByte 14 = .ok (.ifCond .eq 17, 3) := by decide +kernel
theorem dX3_isByte_17 : decode cX3_isByte 17 = .ok (.iload_n 2, 1) := by decide +kernel
theorem dX3_isByte_18 : decode cX3_isByte 18 = .ok (.iconst 0, 1) := by decide +kernel
theorem dX3_isByte_19 : decode cX3_isByte 19 = .ok (.bipush 31, 2) := by decide +kernel
theorem dX3_isByte_21 : decode cX3_isByte 21 = .ok (.invokestatic 48, 3) := by decide +kernel
theorem dX3_isByte_24 : decode cX3_isByte 24 = .ok (.ifCond .eq 7, 3) := by decide +kernel
theorem dX3_isByte_27 : decode cX3_isByte 27 = .ok (.iconst 1, 1) := by decide +kernel
theorem dX3_isByte_28 : decode cX3_isByte 28 = .ok (.goto 4, 3) := by decide +kernel
theorem dX3_isByte_31 : decode cX3_isByte 31 = .ok (.iconst 0, 1) := by decide +kernel
theorem dX3_isByte_32 : decode cX3_isByte 32 = .ok (.ireturn, 1) := by decide +kernel
set_option maxRecDepth 20000 in
theorem ggX3_poke_X3_within : GoodIn wsX3_poke wsX3_within := goodIn_r _ [6] (by decide +kernel) (by decide +kernel)
set_option maxRecDepth 20000 in
theorem gX3_poke_X3_within : GoodIn wsX3_poke (va_wsS RX3 48 yX3_within wsX3_within) := goodIn_app (goodIn_of _ (by decide +kernel)) ggX3_poke_X3_within
set_option maxRecDepth 20000 in
theorem ggX3_poke_X3_isByte : GoodIn wsX3_poke wsX3_isByte := goodIn_r _ [10, 11, 3, 4, 5, 6, 12, 13, 14, 15, 16, 17, 18, 19, 20, 21, 22, 23, 24] (by decide +kernel) (by decide +kernel)
set_option maxRecDepth 20000 in
theorem gX3_poke_X3_isByte : GoodIn wsX3_poke (wsV RX3 90 RX3 yX3_isByte wsX3_isByte) := goodIn_app (goodIn_of _ (by decide +kernel)) ggX3_poke_X3_isByte
theorem dX3_poke_0 : decode cX3_poke 0 = .ok (.aload_n 0, 1) := by decide +kernel
theorem dX3_poke_1 : decode cX3_poke 1 = .ok (.iload_n 3, 1) := by decide +kernel
theorem dX3_poke_2 : decode cX3_poke 2 = .ok (.iconst 1, 1) := by decide +kernel
theorem dX3_poke_3 : decode cX3_poke 3 = .ok (.sipush 255, 3) := by decide +kernel
theorem dX3_poke_6 : decode cX3_poke 6 = .ok (.invokestatic 48, 3) := by decide +kernel
theorem dX3_poke_9 : decode cX3_poke 9 = .ok (.ifCond .ne 7, 3) := by decide +kernel
theorem dX3_poke_12 : decode cX3_poke 12 = .ok (.iconst 1, 1) := by decide +kernel
theorem dX3_poke_13 : decode cX3_poke 13 = .ok (.goto 17, 3) := by decide +kernel
theorem dX3_poke_16 : decode cX3_poke 16 = .ok (.aload_n 0, 1) := by decide +kernel
theorem dX3_poke_17 : decode cX3_poke 17 = .ok (.iload_n 1, 1) := by decide +kernel
theorem dX3_poke_18 : decode cX3_poke 18 = .ok (.iload_n 2, 1) := by decide +kernel
theorem dX3_poke_19 : decode cX3_poke 19 = .ok (.invokevirtual 90, 3) := by decide +kernel
theorem dX3_poke_22 : decode cX3_poke 22 = .ok (.ifCond .ne 7, 3) := by decide +kernel
theorem dX3_poke_25 : decode cX3_poke 25 = .ok (.iconst 2, 1) := by decide +kernel
theorem dX3_poke_26 : decode cX3_poke 26 = .ok (.goto 4, 3) := by decide +kernel
theorem dX3_poke_29 : decode cX3_poke 29 = .ok (.iconst 0, 1) := by decide +kernel
theorem dX3_poke_30 : decode cX3_poke 30 = .ok (.putfield 33, 3) := by decide +kernel
theorem dX3_poke_33 : decode cX3_poke 33 = .ok (.aload_n 0, 1) := by decide +kernel
theorem dX3_poke_34 : decode cX3_poke 34 = .ok (.getfield 33, 3) := by decide +kernel
theorem dX3_poke_37 : decode cX3_poke 37 = .ok (.ifCond .eq 5, 3) := by decide +kernel
theorem dX3_poke_40 : decode cX3_poke 40 = .ok (.iconst 0, 1) := by decide +kernel
theorem dX3_poke_41 : decode cX3_poke 41 = .ok (.ireturn, 1) := by decide +kernel
theorem dX3_poke_42 : decode cX3_poke 42 = .ok (.aload_n 0, 1) := by decide +kernel
theorem dX3_poke_43 : decode cX3_poke 43 = .ok (.getfield 7, 3) := by decide +kernel
theorem dX3_poke_46 : decode cX3_poke 46 = .ok (.bipush 32, 2) := by decide +kernel
theorem dX3_poke_48 : decode cX3_poke 48 = .ok (.iload_n 1, 1) := by decide +kernel
theorem dX3_poke_49 : decode cX3_poke 49 = .ok (.imul, 1) := by decide +kernel
theorem dX3_poke_50 : decode cX3_poke 50 = .ok (.iload_n 2, 1) := by decide +kernel
theorem dX3_poke_51 : decode cX3_poke 51 = .ok (.iadd, 1) := by decide +kernel
theorem dX3_poke_52 : decode cX3_poke 52 = .ok (.dup2, 1) := by decide +kernel
theorem dX3_poke_53 : decode cX3_poke 53 = .ok (.iaload, 1) := by decide +kernel
theorem dX3_poke_54 : decode cX3_poke 54 = .ok (.iload_n 3, 1) := by decide +kernel
theorem dX3_poke_55 : decode cX3_poke 55 = .ok (.ixor, 1) := by decide +kernel
theorem dX3_poke_56 : decode cX3_poke 56 = .ok (.iastore, 1) := by decide +kernel
theorem dX3_poke_57 : decode cX3_poke 57 = .ok (.aload_n 0, 1) := by decide +kernel
theorem dX3_poke_58 : decode cX3_poke 58 = .ok (.getfield 7, 3) := by decide +kernel
theorem dX3_poke_61 : decode cX3_poke 61 = .ok (.bipush 32, 2) := by decide +kernel
theorem dX3_poke_63 : decode cX3_poke 63 = .ok (.iload_n 1, 1) := by decide +kernel
theorem dX3_poke_64 : decode cX3_poke 64 = .ok (.imul, 1) := by decide +kernel
theorem dX3_poke_65 : decode cX3_poke 65 = .ok (.iload_n 2, 1) := by decide +kernel
theorem dX3_poke_66 : decode cX3_poke 66 = .ok (.iadd, 1) := by decide +kernel
theorem dX3_poke_67 : decode cX3_poke 67 = .ok (.iaload, 1) := by decide +kernel
theorem dX3_poke_68 : decode cX3_poke 68 = .ok (.ireturn, 1) := by decide +kernel
set_option maxRecDepth 20000 in
theorem ggX3_byteOf_X3_isByte : GoodIn wsX3_byteOf wsX3_isByte := goodIn_r _ [7, 8, 9, 10, 6, 11, 12, 13, 14, 15, 16, 17, 18, 19, 20, 21, 22, 23, 24] (by decide +kernel) (by decide +kernel)
set_option maxRecDepth 20000 in
theorem gX3_byteOf_X3_isByte : GoodIn wsX3_byteOf (wsV RX3 90 RX3 yX3_isByte wsX3_isByte) := goodIn_app (goodIn_of _ (by decide +kernel)) ggX3_byteOf_X3_isByte
theorem dX3_byteOf_0 : decode cX3_byteOf 0 = .ok (.aload_n 0, 1) := by decide +kernel
theorem dX3_byteOf_1 : decode cX3_byteOf 1 = .ok (.aload_n 0, 1) := by decide +kernel
theorem dX3_byteOf_2 : decode cX3_byteOf 2 = .ok (.iload_n 1, 1) := by decide +kernel
theorem dX3_byteOf_3 : decode cX3_byteOf 3 = .ok (.iload_n 2, 1) := by decide +kernel
theorem dX3_byteOf_4 : decode cX3_byteOf 4 = .ok (.invokevirtual 90, 3) := by decide +kernel
theorem dX3_byteOf_7 : decode cX3_byteOf 7 = .ok (.ifCond .eq 7, 3) := by decide +kernel
theorem dX3_byteOf_10 : decode cX3_byteOf 10 = .ok (.iconst 0, 1) := by decide +kernel
theorem dX3_byteOf_11 : decode cX3_byteOf 11 = .ok (.goto 4, 3) := by decide +kernel
theorem dX3_byteOf_14 : decode cX3_byteOf 14 = .ok (.iconst 1, 1) := by decide +kernel
theorem dX3_byteOf_15 : decode cX3_byteOf 15 = .ok (.putfield 33, 3) := by decide +kernel
theorem dX3_byteOf_18 : decode cX3_byteOf 18 = .ok (.aload_n 0, 1) := by decide +kernel
theorem dX3_byteOf_19 : decode cX3_byteOf 19 = .ok (.getfield 33, 3) := by decide +kernel
theorem dX3_byteOf_22 : decode cX3_byteOf 22 = .ok (.ifCond .eq 7, 3) := by decide +kernel
theorem dX3_byteOf_25 : decode cX3_byteOf 25 = .ok (.iconst 0, 1) := by decide +kernel
theorem dX3_byteOf_26 : decode cX3_byteOf 26 = .ok (.goto 14, 3) := by decide +kernel
theorem dX3_byteOf_29 : decode cX3_byteOf 29 = .ok (.aload_n 0, 1) := by decide +kernel
theorem dX3_byteOf_30 : decode cX3_byteOf 30 = .ok (.getfield 7, 3) := by decide +kernel
theorem dX3_byteOf_33 : decode cX3_byteOf 33 = .ok (.bipush 32, 2) := by decide +kernel
theorem dX3_byteOf_35 : decode cX3_byteOf 35 = .ok (.iload_n 1, 1) := by decide +kernel
theorem dX3_byteOf_36 : decode cX3_byteOf 36 = .ok (.imul, 1) := by decide +kernel
theorem dX3_byteOf_37 : decode cX3_byteOf 37 = .ok (.iload_n 2, 1) := by decide +kernel
theorem dX3_byteOf_38 : decode cX3_byteOf 38 = .ok (.iadd, 1) := by decide +kernel
theorem dX3_byteOf_39 : decode cX3_byteOf 39 = .ok (.iaload, 1) := by decide +kernel
theorem dX3_byteOf_40 : decode cX3_byteOf 40 = .ok (.ireturn, 1) := by decide +kernel
theorem dX3_backup_0 : decode cX3_backup 0 = .ok (.aload_n 0, 1) := by decide +kernel
theorem dX3_backup_1 : decode cX3_backup 1 = .ok (.aload_n 0, 1) := by decide +kernel
theorem dX3_backup_2 : decode cX3_backup 2 = .ok (.getfield 16, 3) := by decide +kernel
theorem dX3_backup_5 : decode cX3_backup 5 = .ok (.ifCond .eq 7, 3) := by decide +kernel
theorem dX3_backup_8 : decode cX3_backup 8 = .ok (.iconst 0, 1) := by decide +kernel
theorem dX3_backup_9 : decode cX3_backup 9 = .ok (.goto 4, 3) := by decide +kernel
theorem dX3_backup_12 : decode cX3_backup 12 = .ok (.iconst 1, 1) := by decide +kernel
theorem dX3_backup_13 : decode cX3_backup 13 = .ok (.putfield 33, 3) := by decide +kernel
theorem dX3_backup_16 : decode cX3_backup 16 = .ok (.aload_n 0, 1) := by decide +kernel
theorem dX3_backup_17 : decode cX3_backup 17 = .ok (.getfield 33, 3) := by decide +kernel
theorem dX3_backup_20 : decode cX3_backup 20 = .ok (.ifCond .eq 5, 3) := by decide +kernel
theorem dX3_backup_23 : decode cX3_backup 23 = .ok (.iconst 0, 1) := by decide +kernel
theorem dX3_backup_24 : decode cX3_backup 24 = .ok (.ireturn, 1) := by decide +kernel
theorem dX3_backup_25 : decode cX3_backup 25 = .ok (.iconst 0, 1) := by decide +kernel
theorem dX3_backup_26 : decode cX3_backup 26 = .ok (.istore_n 1, 1) := by decide +kernel
theorem dX3_backup_27 : decode cX3_backup 27 = .ok (.iload_n 1, 1) := by decide +kernel
theorem dX3_backup_28 : decode cX3_backup 28 = .ok (.aload_n 0, 1) := by decide +kernel
theorem dX3_backup_29 : decode cX3_backup 29 = .ok (.getfield 29, 3) := by decide +kernel
theorem dX3_backup_32 : decode cX3_backup 32 = .ok (.if_icmp .ge 21, 3) := by decide +kernel
theorem dX3_backup_35 : decode cX3_backup 35 = .ok (.aload_n 0, 1) := by decide +kernel
theorem dX3_backup_36 : decode cX3_backup 36 = .ok (.getfield 13, 3) := by decide +kernel
theorem dX3_backup_39 : decode cX3_backup 39 = .ok (.iload_n 1, 1) := by decide +kernel
theorem dX3_backup_40 : decode cX3_backup 40 = .ok (.aload_n 0, 1) := by decide +kernel
theorem dX3_backup_41 : decode cX3_backup 41 = .ok (.getfield 7, 3) := by decide +kernel
theorem dX3_backup_44 : decode cX3_backup 44 = .ok (.iload_n 1, 1) := by decide +kernel
theorem dX3_backup_45 : decode cX3_backup 45 = .ok (.iaload, 1) := by decide +kernel
theorem dX3_backup_46 : decode cX3_backup 46 = .ok (.iastore, 1) := by decide +kernel
theorem dX3_backup_47 : decode cX3_backup 47 = .ok (.iinc 1 1, 3) := by decide +kernel
theorem dX3_backup_50 : decode cX3_backup 50 = .ok (.goto (-23), 3) := by decide +kernel
theorem dX3_backup_53 : decode cX3_backup 53 = .ok (.aload_n 0, 1) := by decide +kernel
theorem dX3_backup_54 : decode cX3_backup 54 = .ok (.iconst 1, 1) := by decide +kernel
theorem dX3_backup_55 : decode cX3_backup 55 = .ok (.putfield 93, 3) := by decide +kernel
theorem dX3_backup_58 : decode cX3_backup 58 = .ok (.aload_n 0, 1) := by decide +kernel
theorem dX3_backup_59 : decode cX3_backup 59 = .ok (.getfield 70, 3) := by decide +kernel
theorem dX3_backup_62 : decode cX3_backup 62 = .ok (.ireturn, 1) := by decide +kernel
set_option maxRecDepth 20000 in
theorem ggX3_restore_X3_read : GoodIn wsX3_restore wsX3_read := goodIn_r _ [11, 6, 12, 13, 4, 14, 15, 16, 17, 18, 19, 20, 10, 21, 3, 22, 23, 24, 25, 26, 27, 28, 29, 30, 31, 32, 33, 34, 35, 36, 37, 38, 39, 40, 41, 42, 43, 44, 45, 46, 47, 48, 49, 50, 51, 52, 53] (by decide +kernel) (by decide +kernel)
set_option maxRecDepth 20000 in
theorem gX3_restore_X3_read : GoodIn wsX3_restore (wsV RX3 87 RX3 yX3_read wsX3_read) := goodIn_app (goodIn_of _ (by decide +kernel)) ggX3_restore_X3_read
theorem dX3_restore_0 : decode cX3_restore 0 = .ok (.aload_n 0, 1) := by decide +kernel
theorem dX3_restore_1 : decode cX3_restore 1 = .ok (.aload_n 0, 1) := by decide +kernel
theorem dX3_restore_2 : decode cX3_restore 2 = .ok (.getfield 93, 3) := by decide +kernel
theorem dX3_restore_5 : decode cX3_restore 5 = .ok (.ifCond .eq 7, 3) := by decide +kernel
theorem dX3_restore_8 : decode cX3_restore 8 = .ok (.iconst 0, 1) := by decide +kernel
theorem dX3_restore_9 : decode cX3_restore 9 = .ok (.goto 4, 3) := by decide +kernel
theorem dX3_restore_12 : decode cX3_restore 12 = .ok (.iconst 1, 1) := by decide +kernel
theorem dX3_restore_13 : decode cX3_restore 13 = .ok (.putfield 33, 3) := by decide +kernel
theorem dX3_restore_16 : decode cX3_restore 16 = .ok (.aload_n 0, 1) := by decide +kernel
theorem dX3_restore_17 : decode cX3_restore 17 = .ok (.getfield 33, 3) := by decide +kernel
theorem dX3_restore_20 : decode cX3_restore 20 = .ok (.ifCond .eq 5, 3) := by decide +kernel
theorem dX3_restore_23 : decode cX3_restore 23 = .ok (.iconst 0, 1) := by decide +kernel
theorem dX3_restore_24 : decode cX3_restore 24 = .ok (.ireturn, 1) := by decide +kernel
theorem dX3_restore_25 : decode cX3_restore 25 = .ok (.iconst 0, 1) := by decide +kernel
theorem dX3_restore_26 : decode cX3_restore 26 = .ok (.istore_n 1, 1) := by decide +kernel
theorem dX3_restore_27 : decode cX3_restore 27 = .ok (.iload_n 1, 1) := by decide +kernel
theorem dX3_restore_28 : decode cX3_restore 28 = .ok (.aload_n 0, 1) := by decide +kernel
theorem dX3_restore_29 : decode cX3_restore 29 = .ok (.getfield 29, 3) := by decide +kernel
theorem dX3_restore_32 : decode cX3_restore 32 = .ok (.if_icmp .ge 21, 3) := by decide +kernel
theorem dX3_restore_35 : decode cX3_restore 35 = .ok (.aload_n 0, 1) := by decide +kernel
theorem dX3_restore_36 : decode cX3_restore 36 = .ok (.getfield 7, 3) := by decide +kernel
theorem dX3_restore_39 : decode cX3_restore 39 = .ok (.iload_n 1, 1) := by decide +kernel
theorem dX3_restore_40 : decode cX3_restore 40 = .ok (.aload_n 0, 1) := by decide +kernel
theorem dX3_restore_41 : decode cX3_restore 41 = .ok (.getfield 13, 3) := by decide +kernel
theorem dX3_restore_44 : decode cX3_restore 44 = .ok (.iload_n 1, 1) := by decide +kernel
theorem dX3_restore_45 : decode cX3_restore 45 = .ok (.iaload, 1) := by decide +kernel
theorem dX3_restore_46 : decode cX3_restore 46 = .ok (.iastore, 1) := by decide +kernel
theorem dX3_restore_47 : decode cX3_restore 47 = .ok (.iinc 1 1, 3) := by decide +kernel
theorem dX3_restore_50 : decode cX3_restore 50 = .ok (.goto (-23), 3) := by decide +kernel
theorem dX3_restore_53 : decode cX3_restore 53 = .ok (.aload_n 0, 1) := by decide +kernel
theorem dX3_restore_54 : decode cX3_restore 54 = .ok (.invokevirtual 87, 3) := by decide +kernel
theorem dX3_restore_57 : decode cX3_restore 57 = .ok (.aload_n 0, 1) := by decide +kernel
theorem dX3_restore_58 : decode cX3_restore 58 = .ok (.getfield 41, 3) := by decide +kernel
theorem dX3_restore_61 : decode cX3_restore 61 = .ok (.ireturn, 1) := by decide +kernel
set_option maxRecDepth 20000 in
theorem ggX3_row_X3_within : GoodIn wsX3_row wsX3_within := goodIn_r _ [9] (by decide +kernel) (by decide +kernel)
set_option maxRecDepth 20000 in
theorem gX3_row_X3_within : GoodIn wsX3_row (va_wsS RX3 48 yX3_within wsX3_within) := goodIn_app (goodIn_of _ (by decide +kernel)) ggX3_row_X3_within
set_option maxRecDepth 20000 in
theorem ggX3_row_X3_longOf : GoodIn wsX3_row wsX3_longOf := goodIn_r _ [13, 4, 5, 18, 19, 20, 21, 22, 23, 24, 25, 26, 27, 28, 29, 30] (by decide +kernel) (by decide +kernel)
set_option maxRecDepth 20000 in
theorem gX3_row_X3_longOf : GoodIn wsX3_row (wsV RX3 96 RX3 yX3_longOf wsX3_longOf) := goodIn_app (goodIn_of _ (by decide +kernel)) ggX3_row_X3_longOf
set_option maxRecDepth 20000 in
theorem ggX3_row_X3_kindOf : GoodIn wsX3_row wsX3_kindOf := goodIn_r _ [17, 4, 5, 18, 19, 20, 21, 22, 23, 24, 25, 26, 27, 28, 29, 30] (by decide +kernel) (by decide +kernel)
set_option maxRecDepth 20000 in
theorem gX3_row_X3_kindOf : GoodIn wsX3_row (wsV RX3 36 RX3 yX3_kindOf wsX3_kindOf) := goodIn_app (goodIn_of _ (by decide +kernel)) ggX3_row_X3_kindOf
theorem dX3_row_0 : decode cX3_row 0 = .ok (.iload_n 1, 1) := by decide +kernel
theorem dX3_row_1 : decode cX3_row 1 = .ok (.iconst 1, 1) := by decide +kernel
theorem dX3_row_2 : decode cX3_row 2 = .ok (.aload_n 0, 1) := by decide +kernel
theorem dX3_row_3 : decode cX3_row 3 = .ok (.getfield 41, 3) := by decide +kernel
theorem dX3_row_6 : decode cX3_row 6 = .ok (.invokestatic 48, 3) := by decide +kernel
theorem dX3_row_9 : decode cX3_row 9 = .ok (.istore_n 3, 1) := by decide +kernel
theorem dX3_row_10 : decode cX3_row 10 = .ok (.aload_n 0, 1) := by decide +kernel
theorem dX3_row_11 : decode cX3_row 11 = .ok (.iload_n 3, 1) := by decide +kernel
theorem dX3_row_12 : decode cX3_row 12 = .ok (.ifCond .ne 7, 3) := by decide +kernel
theorem dX3_row_15 : decode cX3_row 15 = .ok (.iconst 1, 1) := by decide +kernel
theorem dX3_row_16 : decode cX3_row 16 = .ok (.goto 47, 3) := by decide +kernel
theorem dX3_row_19 : decode cX3_row 19 = .ok (.iload_n 2, 1) := by decide +kernel
theorem dX3_row_20 : decode cX3_row 20 = .ok (.iconst 0, 1) := by decide +kernel
theorem dX3_row_21 : decode cX3_row 21 = .ok (.iconst 2, 1) := by decide +kernel
theorem dX3_row_22 : decode cX3_row 22 = .ok (.invokestatic 48, 3) := by decide +kernel
theorem dX3_row_25 : decode cX3_row 25 = .ok (.ifCond .ne 13, 3) := by decide +kernel
theorem dX3_row_28 : decode cX3_row 28 = .ok (.iload_n 2, 1) := by decide +kernel
theorem dX3_row_29 : decode cX3_row 29 = .ok (.bipush 10, 2) := by decide +kernel
theorem dX3_row_31 : decode cX3_row 31 = .ok (.if_icmp .ge 7, 3) := by decide +kernel
theorem dX3_row_34 : decode cX3_row 34 = .ok (.iconst 2, 1) := by decide +kernel
theorem dX3_row_35 : decode cX3_row 35 = .ok (.goto 28, 3) := by decide +kernel
theorem dX3_row_38 : decode cX3_row 38 = .ok (.iload_n 2, 1) := by decide +kernel
theorem dX3_row_39 : decode cX3_row 39 = .ok (.bipush 10, 2) := by decide +kernel
theorem dX3_row_41 : decode cX3_row 41 = .ok (.if_icmp .lt 21, 3) := by decide +kernel
theorem dX3_row_44 : decode cX3_row 44 = .ok (.iload_n 2, 1) := by decide +kernel
theorem dX3_row_45 : decode cX3_row 45 = .ok (.bipush 10, 2) := by decide +kernel
theorem dX3_row_47 : decode cX3_row 47 = .ok (.isub, 1) := by decide +kernel
theorem dX3_row_48 : decode cX3_row 48 = .ok (.aload_n 0, 1) := by decide +kernel
theorem dX3_row_49 : decode cX3_row 49 = .ok (.iload_n 1, 1) := by decide +kernel
theorem dX3_row_50 : decode cX3_row 50 = .ok (.iconst 1, 1) := by decide +kernel
theorem dX3_row_51 : decode cX3_row 51 = .ok (.isub, 1) := by decide +kernel
theorem dX3_row_52 : decode cX3_row 52 = .ok (.invokevirtual 96, 3) := by decide +kernel
theorem dX3_row_55 : decode cX3_row 55 = .ok (.if_icmp .lt 7, 3) := by decide +kernel
theorem dX3_row_58 : decode cX3_row 58 = .ok (.iconst 1, 1) := by decide +kernel
theorem dX3_row_59 : decode cX3_row 59 = .ok (.goto 4, 3) := by decide +kernel
theorem dX3_row_62 : decode cX3_row 62 = .ok (.iconst 0, 1) := by decide +kernel
theorem dX3_row_63 : decode cX3_row 63 = .ok (.putfield 33, 3) := by decide +kernel
theorem dX3_row_66 : decode cX3_row 66 = .ok (.aload_n 0, 1) := by decide +kernel
theorem dX3_row_67 : decode cX3_row 67 = .ok (.getfield 33, 3) := by decide +kernel
theorem dX3_row_70 : decode cX3_row 70 = .ok (.ifCond .eq 5, 3) := by decide +kernel
theorem dX3_row_73 : decode cX3_row 73 = .ok (.iconst 0, 1) := by decide +kernel
theorem dX3_row_74 : decode cX3_row 74 = .ok (.ireturn, 1) := by decide +kernel
theorem dX3_row_75 : decode cX3_row 75 = .ok (.iload_n 1, 1) := by decide +kernel
theorem dX3_row_76 : decode cX3_row 76 = .ok (.iconst 1, 1) := by decide +kernel
theorem dX3_row_77 : decode cX3_row 77 = .ok (.isub, 1) := by decide +kernel
theorem dX3_row_78 : decode cX3_row 78 = .ok (.istore 4, 2) := by decide +kernel
theorem dX3_row_80 : decode cX3_row 80 = .ok (.iload_n 2, 1) := by decide +kernel
theorem dX3_row_81 : decode cX3_row 81 = .ok (.ifCond .ne 12, 3) := by decide +kernel
theorem dX3_row_84 : decode cX3_row 84 = .ok (.aload_n 0, 1) := by decide +kernel
theorem dX3_row_85 : decode cX3_row 85 = .ok (.iload 4, 2) := by decide +kernel
theorem dX3_row_87 : decode cX3_row 87 = .ok (.invokevirtual 36, 3) := by decide +kernel
theorem dX3_row_90 : decode cX3_row 90 = .ok (.goto 58, 3) := by decide +kernel
theorem dX3_row_93 : decode cX3_row 93 = .ok (.iload_n 2, 1) := by decide +kernel
theorem dX3_row_94 : decode cX3_row 94 = .ok (.iconst 1, 1) := by decide +kernel
theorem dX3_row_95 : decode cX3_row 95 = .ok (.if_icmp .ne 12, 3) := by decide +kernel
theorem dX3_row_98 : decode cX3_row 98 = .ok (.aload_n 0, 1) := by decide +kernel
theorem dX3_row_99 : decode cX3_row 99 = .ok (.iload 4, 2) := by decide +kernel
theorem dX3_row_101 : decode cX3_row 101 = .ok (.invokevirtual 96, 3) := by decide +kernel
theorem dX3_row_104 : decode cX3_row 104 = .ok (.goto 44, 3) := by decide +kernel
theorem dX3_row_107 : decode cX3_row 107 = .ok (.iload_n 2, 1) := by decide +kernel
theorem dX3_row_108 : decode cX3_row 108 = .ok (.iconst 2, 1) := by decide +kernel
theorem dX3_row_109 : decode cX3_row 109 = .ok (.if_icmp .ne 20, 3) := by decide +kernel
theorem dX3_row_112 : decode cX3_row 112 = .ok (.iload 4, 2) := by decide +kernel
theorem dX3_row_114 : decode cX3_row 114 = .ok (.aload_n 0, 1) := by decide +kernel
theorem dX3_row_115 : decode cX3_row 115 = .ok (.getfield 70, 3) := by decide +kernel
theorem dX3_row_118 : decode cX3_row 118 = .ok (.if_icmp .ge 7, 3) := by decide +kernel
theorem dX3_row_121 : decode cX3_row 121 = .ok (.iconst 1, 1) := by decide +kernel
theorem dX3_row_122 : decode cX3_row 122 = .ok (.goto 26, 3) := by decide +kernel
theorem dX3_row_125 : decode cX3_row 125 = .ok (.iconst 0, 1) := by decide +kernel
theorem dX3_row_126 : decode cX3_row 126 = .ok (.goto 22, 3) := by decide +kernel
theorem dX3_row_129 : decode cX3_row 129 = .ok (.aload_n 0, 1) := by decide +kernel
theorem dX3_row_130 : decode cX3_row 130 = .ok (.getfield 20, 3) := by decide +kernel
theorem dX3_row_133 : decode cX3_row 133 = .ok (.aload_n 0, 1) := by decide +kernel
theorem dX3_row_134 : decode cX3_row 134 = .ok (.getfield 23, 3) := by decide +kernel
theorem dX3_row_137 : decode cX3_row 137 = .ok (.iload 4, 2) := by decide +kernel
theorem dX3_row_139 : decode cX3_row 139 = .ok (.iaload, 1) := by decide +kernel
theorem dX3_row_140 : decode cX3_row 140 = .ok (.iconst 5, 1) := by decide +kernel
theorem dX3_row_141 : decode cX3_row 141 = .ok (.iadd, 1) := by decide +kernel
theorem dX3_row_142 : decode cX3_row 142 = .ok (.iload_n 2, 1) := by decide +kernel
theorem dX3_row_143 : decode cX3_row 143 = .ok (.iadd, 1) := by decide +kernel
theorem dX3_row_144 : decode cX3_row 144 = .ok (.bipush 10, 2) := by decide +kernel
theorem dX3_row_146 : decode cX3_row 146 = .ok (.isub, 1) := by decide +kernel
theorem dX3_row_147 : decode cX3_row 147 = .ok (.iaload, 1) := by decide +kernel
theorem dX3_row_148 : decode cX3_row 148 = .ok (.ireturn, 1) := by decide +kernel
set_option maxRecDepth 20000 in
theorem ggX3_find_X3_within : GoodIn wsX3_find wsX3_within := goodIn_r _ [6] (by decide +kernel) (by decide +kernel)
set_option maxRecDepth 20000 in
theorem gX3_find_X3_within : GoodIn wsX3_find (va_wsS RX3 48 yX3_within wsX3_within) := goodIn_app (goodIn_of _ (by decide +kernel)) ggX3_find_X3_within
set_option maxRecDepth 20000 in
theorem ggX3_find_X3_kindOf : GoodIn wsX3_find wsX3_kindOf := goodIn_r _ [10, 11, 12, 13, 14, 15, 16, 17, 18, 19, 20, 21, 22, 23, 24, 25] (by decide +kernel) (by decide +kernel)
set_option maxRecDepth 20000 in
theorem gX3_find_X3_kindOf : GoodIn wsX3_find (wsV RX3 36 RX3 yX3_kindOf wsX3_kindOf) := goodIn_app (goodIn_of _ (by decide +kernel)) ggX3_find_X3_kindOf
theorem dX3_find_0 : decode cX3_find 0 = .ok (.aload_n 0, 1) := by decide +kernel
theorem dX3_find_1 : decode cX3_find 1 = .ok (.iload_n 1, 1) := by decide +kernel
theorem dX3_find_2 : decode cX3_find 2 = .ok (.iconst 1, 1) := by decide +kernel
theorem dX3_find_3 : decode cX3_find 3 = .ok (.iconst 5, 1) := by decide +kernel
theorem dX3_find_4 : decode cX3_find 4 = .ok (.invokestatic 48, 3) := by decide +kernel
theorem dX3_find_7 : decode cX3_find 7 = .ok (.ifCond .eq 11, 3) := by decide +kernel
theorem dX3_find_10 : decode cX3_find 10 = .ok (.iload_n 2, 1) := by decide +kernel
theorem dX3_find_11 : decode cX3_find 11 = .ok (.ifCond .lt 7, 3) := by decide +kernel
theorem dX3_find_14 : decode cX3_find 14 = .ok (.iconst 0, 1) := by decide +kernel
theorem dX3_find_15 : decode cX3_find 15 = .ok (.goto 4, 3) := by decide +kernel
theorem dX3_find_18 : decode cX3_find 18 = .ok (.iconst 1, 1) := by decide +kernel
theorem dX3_find_19 : decode cX3_find 19 = .ok (.putfield 33, 3) := by decide +kernel
theorem dX3_find_22 : decode cX3_find 22 = .ok (.aload_n 0, 1) := by decide +kernel
theorem dX3_find_23 : decode cX3_find 23 = .ok (.getfield 33, 3) := by decide +kernel
theorem dX3_find_26 : decode cX3_find 26 = .ok (.ifCond .eq 5, 3) := by decide +kernel
theorem dX3_find_29 : decode cX3_find 29 = .ok (.iconst 0, 1) := by decide +kernel
theorem dX3_find_30 : decode cX3_find 30 = .ok (.ireturn, 1) := by decide +kernel
theorem dX3_find_31 : decode cX3_find 31 = .ok (.iconst 0, 1) := by decide +kernel
theorem dX3_find_32 : decode cX3_find 32 = .ok (.istore_n 3, 1) := by decide +kernel
