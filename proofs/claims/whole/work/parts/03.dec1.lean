theorem dX2_end_45 : decode cX2_end 45 = .ok (.invokevirtual 81, 3) := by decide +kernel
theorem dX2_end_48 : decode cX2_end 48 = .ok (.istore_n 2, 1) := by decide +kernel
theorem dX2_end_49 : decode cX2_end 49 = .ok (.aload_n 0, 1) := by decide +kernel
theorem dX2_end_50 : decode cX2_end 50 = .ok (.iconst 0, 1) := by decide +kernel
theorem dX2_end_51 : decode cX2_end 51 = .ok (.putfield 61, 3) := by decide +kernel
theorem dX2_end_54 : decode cX2_end 54 = .ok (.iload_n 2, 1) := by decide +kernel
theorem dX2_end_55 : decode cX2_end 55 = .ok (.ireturn, 1) := by decide +kernel
set_option maxRecDepth 20000 in
theorem ggX2_whole_X2_refuseWhenDown : GoodIn wsX2_whole wsX2_refuseWhenDown := goodIn_ca (goodIn_r _ [6, 7, 8, 9, 71, 72, 73, 74, 75, 76, 77, 78, 79] (by decide +kernel) (by decide +kernel)) (goodIn_sub (fun _ h => List.mem_cons_of_mem _ (List.mem_append_left _ (List.mem_append_right _ h))) (by decide +kernel))
set_option maxRecDepth 20000 in
theorem gX2_whole_X2_refuseWhenDown : GoodIn wsX2_whole (wsV RX2 58 RX2 yX2_refuseWhenDown wsX2_refuseWhenDown) := goodIn_app (goodIn_of _ (by decide +kernel)) ggX2_whole_X2_refuseWhenDown
set_option maxRecDepth 20000 in
theorem ggX2_whole_X2_refuseWhenFull : GoodIn wsX2_whole wsX2_refuseWhenFull := goodIn_ca (goodIn_r _ [13, 14, 15, 1, 16, 17, 18, 19, 20, 21, 22, 71, 72, 73, 74, 75, 76, 77, 78, 79, 80, 81, 82, 83, 84, 85, 86, 87, 88] (by decide +kernel) (by decide +kernel)) (goodIn_sub (fun _ h => List.mem_cons_of_mem _ (List.mem_append_right _ h)) (by decide +kernel))
set_option maxRecDepth 20000 in
theorem gX2_whole_X2_refuseWhenFull : GoodIn wsX2_whole (wsV RX2 78 RX2 yX2_refuseWhenFull wsX2_refuseWhenFull) := goodIn_app (goodIn_of _ (by decide +kernel)) ggX2_whole_X2_refuseWhenFull
set_option maxRecDepth 20000 in
theorem ggX2_whole_X1_writeState : GoodIn wsX2_whole wsX1_writeState := goodIn_r _ [27, 28, 29, 30, 31, 26, 32, 33, 34, 35, 36, 20, 37, 22, 38, 39, 40, 41, 42, 43, 44, 45, 46, 47, 48, 49, 50, 51, 52, 53, 54, 5, 55, 56, 57, 58, 59, 60, 61, 62, 63, 64, 65, 66, 67, 68, 69, 70, 80, 81, 82, 83, 84, 85, 86, 87, 88] (by decide +kernel) (by decide +kernel)
set_option maxRecDepth 20000 in
theorem gX2_whole_X1_writeState : GoodIn wsX2_whole (wsV RX2 85 RX1 yX1_writeState wsX1_writeState) := goodIn_app (goodIn_of _ (by decide +kernel)) ggX2_whole_X1_writeState
theorem dX2_whole_0 : decode cX2_whole 0 = .ok (.aload_n 0, 1) := by decide +kernel
theorem dX2_whole_1 : decode cX2_whole 1 = .ok (.invokevirtual 58, 3) := by decide +kernel
theorem dX2_whole_4 : decode cX2_whole 4 = .ok (.aload_n 0, 1) := by decide +kernel
theorem dX2_whole_5 : decode cX2_whole 5 = .ok (.bipush 8, 2) := by decide +kernel
theorem dX2_whole_7 : decode cX2_whole 7 = .ok (.invokevirtual 78, 3) := by decide +kernel
theorem dX2_whole_10 : decode cX2_whole 10 = .ok (.aload_n 0, 1) := by decide +kernel
theorem dX2_whole_11 : decode cX2_whole 11 = .ok (.getfield 40, 3) := by decide +kernel
theorem dX2_whole_14 : decode cX2_whole 14 = .ok (.invokevirtual 85, 3) := by decide +kernel
theorem dX2_whole_17 : decode cX2_whole 17 = .ok (.ireturn, 1) := by decide +kernel
set_option maxRecDepth 20000 in
theorem ggX2_sync_X2_refuseWhenDown : GoodIn wsX2_sync wsX2_refuseWhenDown := goodIn_ca (goodIn_r _ [7, 8, 9, 10, 34, 35, 36, 37, 38, 39, 40, 41, 42] (by decide +kernel) (by decide +kernel)) (goodIn_sub (fun _ h => List.mem_cons_of_mem _ (List.mem_append_right _ h)) (by decide +kernel))
set_option maxRecDepth 20000 in
theorem gX2_sync_X2_refuseWhenDown : GoodIn wsX2_sync (wsV RX2 58 RX2 yX2_refuseWhenDown wsX2_refuseWhenDown) := goodIn_app (goodIn_of _ (by decide +kernel)) ggX2_sync_X2_refuseWhenDown
set_option maxRecDepth 20000 in
theorem ggX2_sync_X0_copy : GoodIn wsX2_sync wsX0_copy := goodIn_r _ [15, 16, 17, 18, 14, 19, 20, 21, 22, 23, 24, 51] (by decide +kernel) (by decide +kernel)
set_option maxRecDepth 20000 in
theorem gX2_sync_X0_copy : GoodIn wsX2_sync (wsV RX2 101 RX0 yX0_copy wsX0_copy) := goodIn_app (goodIn_of _ (by decide +kernel)) ggX2_sync_X0_copy
set_option maxRecDepth 20000 in
theorem ggX2_sync_X1_markAllOnDisk : GoodIn wsX2_sync wsX1_markAllOnDisk := goodIn_r _ [29, 30, 31, 32, 33, 43, 44, 45, 46, 47, 48, 49, 50] (by decide +kernel) (by decide +kernel)
set_option maxRecDepth 20000 in
theorem gX2_sync_X1_markAllOnDisk : GoodIn wsX2_sync (wsV RX2 105 RX1 yX1_markAllOnDisk wsX1_markAllOnDisk) := goodIn_app (goodIn_of _ (by decide +kernel)) ggX2_sync_X1_markAllOnDisk
theorem dX2_sync_0 : decode cX2_sync 0 = .ok (.aload_n 0, 1) := by decide +kernel
theorem dX2_sync_1 : decode cX2_sync 1 = .ok (.invokevirtual 58, 3) := by decide +kernel
theorem dX2_sync_4 : decode cX2_sync 4 = .ok (.aload_n 0, 1) := by decide +kernel
theorem dX2_sync_5 : decode cX2_sync 5 = .ok (.getfield 40, 3) := by decide +kernel
theorem dX2_sync_8 : decode cX2_sync 8 = .ok (.getfield 89, 3) := by decide +kernel
theorem dX2_sync_11 : decode cX2_sync 11 = .ok (.istore_n 1, 1) := by decide +kernel
theorem dX2_sync_12 : decode cX2_sync 12 = .ok (.aload_n 0, 1) := by decide +kernel
theorem dX2_sync_13 : decode cX2_sync 13 = .ok (.getfield 27, 3) := by decide +kernel
theorem dX2_sync_16 : decode cX2_sync 16 = .ok (.aload_n 0, 1) := by decide +kernel
theorem dX2_sync_17 : decode cX2_sync 17 = .ok (.getfield 40, 3) := by decide +kernel
theorem dX2_sync_20 : decode cX2_sync 20 = .ok (.getfield 92, 3) := by decide +kernel
theorem dX2_sync_23 : decode cX2_sync 23 = .ok (.aload_n 0, 1) := by decide +kernel
theorem dX2_sync_24 : decode cX2_sync 24 = .ok (.getfield 40, 3) := by decide +kernel
theorem dX2_sync_27 : decode cX2_sync 27 = .ok (.getfield 95, 3) := by decide +kernel
theorem dX2_sync_30 : decode cX2_sync 30 = .ok (.aload_n 0, 1) := by decide +kernel
theorem dX2_sync_31 : decode cX2_sync 31 = .ok (.getfield 40, 3) := by decide +kernel
theorem dX2_sync_34 : decode cX2_sync 34 = .ok (.getfield 98, 3) := by decide +kernel
theorem dX2_sync_37 : decode cX2_sync 37 = .ok (.invokevirtual 101, 3) := by decide +kernel
theorem dX2_sync_40 : decode cX2_sync 40 = .ok (.aload_n 0, 1) := by decide +kernel
theorem dX2_sync_41 : decode cX2_sync 41 = .ok (.getfield 40, 3) := by decide +kernel
theorem dX2_sync_44 : decode cX2_sync 44 = .ok (.invokevirtual 105, 3) := by decide +kernel
theorem dX2_sync_47 : decode cX2_sync 47 = .ok (.aload_n 0, 1) := by decide +kernel
theorem dX2_sync_48 : decode cX2_sync 48 = .ok (.getfield 40, 3) := by decide +kernel
theorem dX2_sync_51 : decode cX2_sync 51 = .ok (.getfield 89, 3) := by decide +kernel
theorem dX2_sync_54 : decode cX2_sync 54 = .ok (.iload_n 1, 1) := by decide +kernel
theorem dX2_sync_55 : decode cX2_sync 55 = .ok (.isub, 1) := by decide +kernel
theorem dX2_sync_56 : decode cX2_sync 56 = .ok (.ireturn, 1) := by decide +kernel
set_option maxRecDepth 20000 in
theorem ggX2_cut_X1_bytesInMemory : GoodIn wsX2_cut wsX1_bytesInMemory := goodIn_r _ [11, 12, 13, 61, 62, 63, 64, 65, 66, 67, 68] (by decide +kernel) (by decide +kernel)
set_option maxRecDepth 20000 in
theorem gX2_cut_X1_bytesInMemory : GoodIn wsX2_cut (wsV RX2 108 RX1 yX1_bytesInMemory wsX1_bytesInMemory) := goodIn_app (goodIn_of _ (by decide +kernel)) ggX2_cut_X1_bytesInMemory
set_option maxRecDepth 20000 in
theorem ggX2_cut_X2_refuseWhenDown : GoodIn wsX2_cut wsX2_refuseWhenDown := goodIn_ca (goodIn_r _ [18, 19, 20, 6, 52, 53, 54, 55, 56, 57, 58, 59, 60] (by decide +kernel) (by decide +kernel)) (goodIn_sub (fun _ h => List.mem_cons_of_mem _ (List.mem_append_right _ h)) (by decide +kernel))
set_option maxRecDepth 20000 in
theorem gX2_cut_X2_refuseWhenDown : GoodIn wsX2_cut (wsV RX2 58 RX2 yX2_refuseWhenDown wsX2_refuseWhenDown) := goodIn_app (goodIn_of _ (by decide +kernel)) ggX2_cut_X2_refuseWhenDown
set_option maxRecDepth 20000 in
theorem ggX2_cut_X0_copy : GoodIn wsX2_cut wsX0_copy := goodIn_r _ [25, 26, 27, 28, 24, 29, 30, 31, 32, 33, 34, 69] (by decide +kernel) (by decide +kernel)
set_option maxRecDepth 20000 in
theorem gX2_cut_X0_copy : GoodIn wsX2_cut (wsV RX2 101 RX0 yX0_copy wsX0_copy) := goodIn_app (goodIn_of _ (by decide +kernel)) ggX2_cut_X0_copy
set_option maxRecDepth 20000 in
theorem ggX2_cut_X0_at : GoodIn wsX2_cut wsX0_at := goodIn_r _ [29, 30, 69] (by decide +kernel) (by decide +kernel)
set_option maxRecDepth 20000 in
theorem gX2_cut_X0_at : GoodIn wsX2_cut (wsV RX2 115 RX0 yX0_at wsX0_at) := goodIn_app (goodIn_of _ (by decide +kernel)) ggX2_cut_X0_at
set_option maxRecDepth 20000 in
theorem ggX2_cut_X0_set : GoodIn wsX2_cut wsX0_set := goodIn_r _ [34, 30, 69] (by decide +kernel) (by decide +kernel)
set_option maxRecDepth 20000 in
theorem gX2_cut_X0_set : GoodIn wsX2_cut (wsV RX2 69 RX0 yX0_set wsX0_set) := goodIn_app (goodIn_of _ (by decide +kernel)) ggX2_cut_X0_set
set_option maxRecDepth 20000 in
theorem ggX2_cut_X1_dropMemory : GoodIn wsX2_cut wsX1_dropMemory := goodIn_r _ [40, 41, 42, 43, 13, 12, 44, 45, 46, 10, 47, 48, 49, 50, 27, 28, 24, 29, 30, 51, 32, 33, 34, 61, 62, 63, 64, 65, 66, 67, 68, 69] (by decide +kernel) (by decide +kernel)
set_option maxRecDepth 20000 in
theorem gX2_cut_X1_dropMemory : GoodIn wsX2_cut (wsV RX2 119 RX1 yX1_dropMemory wsX1_dropMemory) := goodIn_app (goodIn_of _ (by decide +kernel)) ggX2_cut_X1_dropMemory
theorem dX2_cut_0 : decode cX2_cut 0 = .ok (.iload_n 1, 1) := by decide +kernel
theorem dX2_cut_1 : decode cX2_cut 1 = .ok (.ifCond .lt 14, 3) := by decide +kernel
theorem dX2_cut_4 : decode cX2_cut 4 = .ok (.iload_n 1, 1) := by decide +kernel
theorem dX2_cut_5 : decode cX2_cut 5 = .ok (.aload_n 0, 1) := by decide +kernel
theorem dX2_cut_6 : decode cX2_cut 6 = .ok (.getfield 40, 3) := by decide +kernel
theorem dX2_cut_9 : decode cX2_cut 9 = .ok (.invokevirtual 108, 3) := by decide +kernel
theorem dX2_cut_12 : decode cX2_cut 12 = .ok (.if_icmp .le 13, 3) := by decide +kernel
theorem dX2_cut_15 : decode cX2_cut 15 = .ok (.new 51, 3) := by decide +kernel
theorem dX2_cut_18 : decode cX2_cut 18 = .ok (.dup, 1) := by decide +kernel
theorem dX2_cut_19 : decode cX2_cut 19 = .ok (.ldc 111, 2) := by decide +kernel
theorem dX2_cut_21 : decode cX2_cut 21 = .ok (.invokespecial 55, 3) := by decide +kernel
theorem dX2_cut_24 : decode cX2_cut 24 = .ok (.athrow, 1) := by decide +kernel
theorem dX2_cut_25 : decode cX2_cut 25 = .ok (.iload_n 2, 1) := by decide +kernel
theorem dX2_cut_26 : decode cX2_cut 26 = .ok (.ifCond .lt 10, 3) := by decide +kernel
theorem dX2_cut_29 : decode cX2_cut 29 = .ok (.iload_n 2, 1) := by decide +kernel
theorem dX2_cut_30 : decode cX2_cut 30 = .ok (.sipush 255, 3) := by decide +kernel
theorem dX2_cut_33 : decode cX2_cut 33 = .ok (.if_icmp .le 13, 3) := by decide +kernel
theorem dX2_cut_36 : decode cX2_cut 36 = .ok (.new 51, 3) := by decide +kernel
theorem dX2_cut_39 : decode cX2_cut 39 = .ok (.dup, 1) := by decide +kernel
theorem dX2_cut_40 : decode cX2_cut 40 = .ok (.ldc 113, 2) := by decide +kernel
theorem dX2_cut_42 : decode cX2_cut 42 = .ok (.invokespecial 55, 3) := by decide +kernel
theorem dX2_cut_45 : decode cX2_cut 45 = .ok (.athrow, 1) := by decide +kernel
theorem dX2_cut_46 : decode cX2_cut 46 = .ok (.aload_n 0, 1) := by decide +kernel
theorem dX2_cut_47 : decode cX2_cut 47 = .ok (.invokevirtual 58, 3) := by decide +kernel
theorem dX2_cut_50 : decode cX2_cut 50 = .ok (.aload_n 0, 1) := by decide +kernel
theorem dX2_cut_51 : decode cX2_cut 51 = .ok (.getfield 40, 3) := by decide +kernel
theorem dX2_cut_54 : decode cX2_cut 54 = .ok (.getfield 95, 3) := by decide +kernel
theorem dX2_cut_57 : decode cX2_cut 57 = .ok (.iload_n 1, 1) := by decide +kernel
theorem dX2_cut_58 : decode cX2_cut 58 = .ok (.iadd, 1) := by decide +kernel
theorem dX2_cut_59 : decode cX2_cut 59 = .ok (.istore_n 3, 1) := by decide +kernel
theorem dX2_cut_60 : decode cX2_cut 60 = .ok (.aload_n 0, 1) := by decide +kernel
theorem dX2_cut_61 : decode cX2_cut 61 = .ok (.getfield 27, 3) := by decide +kernel
theorem dX2_cut_64 : decode cX2_cut 64 = .ok (.aload_n 0, 1) := by decide +kernel
theorem dX2_cut_65 : decode cX2_cut 65 = .ok (.getfield 40, 3) := by decide +kernel
theorem dX2_cut_68 : decode cX2_cut 68 = .ok (.getfield 92, 3) := by decide +kernel
theorem dX2_cut_71 : decode cX2_cut 71 = .ok (.aload_n 0, 1) := by decide +kernel
theorem dX2_cut_72 : decode cX2_cut 72 = .ok (.getfield 40, 3) := by decide +kernel
theorem dX2_cut_75 : decode cX2_cut 75 = .ok (.getfield 95, 3) := by decide +kernel
theorem dX2_cut_78 : decode cX2_cut 78 = .ok (.iload_n 3, 1) := by decide +kernel
theorem dX2_cut_79 : decode cX2_cut 79 = .ok (.invokevirtual 101, 3) := by decide +kernel
theorem dX2_cut_82 : decode cX2_cut 82 = .ok (.iload_n 2, 1) := by decide +kernel
theorem dX2_cut_83 : decode cX2_cut 83 = .ok (.ifCond .eq 35, 3) := by decide +kernel
theorem dX2_cut_86 : decode cX2_cut 86 = .ok (.iload_n 3, 1) := by decide +kernel
theorem dX2_cut_87 : decode cX2_cut 87 = .ok (.aload_n 0, 1) := by decide +kernel
theorem dX2_cut_88 : decode cX2_cut 88 = .ok (.getfield 40, 3) := by decide +kernel
theorem dX2_cut_91 : decode cX2_cut 91 = .ok (.getfield 98, 3) := by decide +kernel
theorem dX2_cut_94 : decode cX2_cut 94 = .ok (.if_icmp .ge 24, 3) := by decide +kernel
theorem dX2_cut_97 : decode cX2_cut 97 = .ok (.aload_n 0, 1) := by decide +kernel
theorem dX2_cut_98 : decode cX2_cut 98 = .ok (.getfield 27, 3) := by decide +kernel
theorem dX2_cut_101 : decode cX2_cut 101 = .ok (.iload_n 3, 1) := by decide +kernel
theorem dX2_cut_102 : decode cX2_cut 102 = .ok (.aload_n 0, 1) := by decide +kernel
theorem dX2_cut_103 : decode cX2_cut 103 = .ok (.getfield 40, 3) := by decide +kernel
theorem dX2_cut_106 : decode cX2_cut 106 = .ok (.getfield 92, 3) := by decide +kernel
theorem dX2_cut_109 : decode cX2_cut 109 = .ok (.iload_n 3, 1) := by decide +kernel
theorem dX2_cut_110 : decode cX2_cut 110 = .ok (.invokevirtual 115, 3) := by decide +kernel
theorem dX2_cut_113 : decode cX2_cut 113 = .ok (.iload_n 2, 1) := by decide +kernel
theorem dX2_cut_114 : decode cX2_cut 114 = .ok (.ixor, 1) := by decide +kernel
theorem dX2_cut_115 : decode cX2_cut 115 = .ok (.invokevirtual 69, 3) := by decide +kernel
theorem dX2_cut_118 : decode cX2_cut 118 = .ok (.aload_n 0, 1) := by decide +kernel
theorem dX2_cut_119 : decode cX2_cut 119 = .ok (.getfield 40, 3) := by decide +kernel
theorem dX2_cut_122 : decode cX2_cut 122 = .ok (.invokevirtual 119, 3) := by decide +kernel
theorem dX2_cut_125 : decode cX2_cut 125 = .ok (.aload_n 0, 1) := by decide +kernel
theorem dX2_cut_126 : decode cX2_cut 126 = .ok (.iconst 0, 1) := by decide +kernel
theorem dX2_cut_127 : decode cX2_cut 127 = .ok (.putfield 61, 3) := by decide +kernel
theorem dX2_cut_130 : decode cX2_cut 130 = .ok (.aload_n 0, 1) := by decide +kernel
theorem dX2_cut_131 : decode cX2_cut 131 = .ok (.iconst 0, 1) := by decide +kernel
theorem dX2_cut_132 : decode cX2_cut 132 = .ok (.putfield 47, 3) := by decide +kernel
theorem dX2_cut_135 : decode cX2_cut 135 = .ok (.return_, 1) := by decide +kernel
set_option maxRecDepth 20000 in
theorem ggX2_start_X2_readDisk : GoodIn wsX2_start wsX2_readDisk := goodIn_r _ [5, 6, 7, 8, 9, 10, 11, 12, 13, 14, 15, 16, 17, 18, 19, 20, 21, 22, 23, 24, 25, 26, 27, 28, 29, 30, 31, 32, 33, 34, 35, 36, 37, 38, 39, 40, 41, 42, 43, 44, 45, 46, 47, 48, 49, 50, 51, 52, 53, 54, 55, 56, 57, 58, 4, 59, 60, 61, 62, 63, 64, 65, 66, 67, 68, 69, 70, 71, 72, 73, 74, 75, 76, 77, 78, 79, 80, 81, 82, 83, 84, 85, 86, 87, 88, 89, 90, 91, 92, 93, 94, 95, 96, 97, 98, 99, 100, 101, 102, 103, 104, 105, 106] (by decide +kernel) (by decide +kernel)
set_option maxRecDepth 20000 in
theorem gX2_start_X2_readDisk : GoodIn wsX2_start (wsV RX2 122 RX2 yX2_readDisk wsX2_readDisk) := goodIn_app (goodIn_of _ (by decide +kernel)) ggX2_start_X2_readDisk
theorem dX2_start_0 : decode cX2_start 0 = .ok (.aload_n 0, 1) := by decide +kernel
theorem dX2_start_1 : decode cX2_start 1 = .ok (.invokevirtual 122, 3) := by decide +kernel
theorem dX2_start_4 : decode cX2_start 4 = .ok (.ireturn, 1) := by decide +kernel
set_option maxRecDepth 20000 in
theorem ggX2_poke_X2_placeOf : GoodIn wsX2_poke wsX2_placeOf := goodIn_r _ [8, 9, 10, 11, 12, 23, 24, 25, 26, 27, 28, 29, 30, 31, 32, 33, 34, 35, 36, 37] (by decide +kernel) (by decide +kernel)
set_option maxRecDepth 20000 in
theorem gX2_poke_X2_placeOf : GoodIn wsX2_poke (wsV RX2 127 RX2 yX2_placeOf wsX2_placeOf) := goodIn_app (goodIn_of _ (by decide +kernel)) ggX2_poke_X2_placeOf
set_option maxRecDepth 20000 in
theorem ggX2_poke_X0_at : GoodIn wsX2_poke wsX0_at := goodIn_r _ [17, 18, 38] (by decide +kernel) (by decide +kernel)
set_option maxRecDepth 20000 in
theorem gX2_poke_X0_at : GoodIn wsX2_poke (wsV RX2 115 RX0 yX0_at wsX0_at) := goodIn_app (goodIn_of _ (by decide +kernel)) ggX2_poke_X0_at
set_option maxRecDepth 20000 in
theorem ggX2_poke_X0_set : GoodIn wsX2_poke wsX0_set := goodIn_r _ [22, 18, 38] (by decide +kernel) (by decide +kernel)
set_option maxRecDepth 20000 in
theorem gX2_poke_X0_set : GoodIn wsX2_poke (wsV RX2 69 RX0 yX0_set wsX0_set) := goodIn_app (goodIn_of _ (by decide +kernel)) ggX2_poke_X0_set
theorem dX2_poke_0 : decode cX2_poke 0 = .ok (.iload_n 3, 1) := by decide +kernel
theorem dX2_poke_1 : decode cX2_poke 1 = .ok (.iconst 1, 1) := by decide +kernel
theorem dX2_poke_2 : decode cX2_poke 2 = .ok (.if_icmp .lt 10, 3) := by decide +kernel
theorem dX2_poke_5 : decode cX2_poke 5 = .ok (.iload_n 3, 1) := by decide +kernel
theorem dX2_poke_6 : decode cX2_poke 6 = .ok (.sipush 255, 3) := by decide +kernel
theorem dX2_poke_9 : decode cX2_poke 9 = .ok (.if_icmp .le 13, 3) := by decide +kernel
theorem dX2_poke_12 : decode cX2_poke 12 = .ok (.new 51, 3) := by decide +kernel
theorem dX2_poke_15 : decode cX2_poke 15 = .ok (.dup, 1) := by decide +kernel
theorem dX2_poke_16 : decode cX2_poke 16 = .ok (.ldc 125, 2) := by decide +kernel
theorem dX2_poke_18 : decode cX2_poke 18 = .ok (.invokespecial 55, 3) := by decide +kernel
theorem dX2_poke_21 : decode cX2_poke 21 = .ok (.athrow, 1) := by decide +kernel
theorem dX2_poke_22 : decode cX2_poke 22 = .ok (.aload_n 0, 1) := by decide +kernel
theorem dX2_poke_23 : decode cX2_poke 23 = .ok (.iload_n 1, 1) := by decide +kernel
theorem dX2_poke_24 : decode cX2_poke 24 = .ok (.iload_n 2, 1) := by decide +kernel
theorem dX2_poke_25 : decode cX2_poke 25 = .ok (.invokevirtual 127, 3) := by decide +kernel
theorem dX2_poke_28 : decode cX2_poke 28 = .ok (.istore 4, 2) := by decide +kernel
theorem dX2_poke_30 : decode cX2_poke 30 = .ok (.aload_n 0, 1) := by decide +kernel
theorem dX2_poke_31 : decode cX2_poke 31 = .ok (.getfield 27, 3) := by decide +kernel
theorem dX2_poke_34 : decode cX2_poke 34 = .ok (.iload 4, 2) := by decide +kernel
theorem dX2_poke_36 : decode cX2_poke 36 = .ok (.aload_n 0, 1) := by decide +kernel
theorem dX2_poke_37 : decode cX2_poke 37 = .ok (.getfield 27, 3) := by decide +kernel
theorem dX2_poke_40 : decode cX2_poke 40 = .ok (.iload 4, 2) := by decide +kernel
theorem dX2_poke_42 : decode cX2_poke 42 = .ok (.invokevirtual 115, 3) := by decide +kernel
theorem dX2_poke_45 : decode cX2_poke 45 = .ok (.iload_n 3, 1) := by decide +kernel
theorem dX2_poke_46 : decode cX2_poke 46 = .ok (.ixor, 1) := by decide +kernel
theorem dX2_poke_47 : decode cX2_poke 47 = .ok (.invokevirtual 69, 3) := by decide +kernel
theorem dX2_poke_50 : decode cX2_poke 50 = .ok (.aload_n 0, 1) := by decide +kernel
theorem dX2_poke_51 : decode cX2_poke 51 = .ok (.getfield 27, 3) := by decide +kernel
theorem dX2_poke_54 : decode cX2_poke 54 = .ok (.iload 4, 2) := by decide +kernel
theorem dX2_poke_56 : decode cX2_poke 56 = .ok (.invokevirtual 115, 3) := by decide +kernel
theorem dX2_poke_59 : decode cX2_poke 59 = .ok (.ireturn, 1) := by decide +kernel
set_option maxRecDepth 20000 in
theorem ggX2_byteOf_X2_placeOf : GoodIn wsX2_byteOf wsX2_placeOf := goodIn_r _ [6, 7, 8, 9, 10, 17, 18, 19, 20, 21, 22, 23, 24, 25, 26, 27, 28, 29, 30, 31] (by decide +kernel) (by decide +kernel)
set_option maxRecDepth 20000 in
theorem gX2_byteOf_X2_placeOf : GoodIn wsX2_byteOf (wsV RX2 127 RX2 yX2_placeOf wsX2_placeOf) := goodIn_app (goodIn_of _ (by decide +kernel)) ggX2_byteOf_X2_placeOf
set_option maxRecDepth 20000 in
theorem ggX2_byteOf_X0_at : GoodIn wsX2_byteOf wsX0_at := goodIn_r _ [15, 16, 32] (by decide +kernel) (by decide +kernel)
set_option maxRecDepth 20000 in
theorem gX2_byteOf_X0_at : GoodIn wsX2_byteOf (wsV RX2 115 RX0 yX0_at wsX0_at) := goodIn_app (goodIn_of _ (by decide +kernel)) ggX2_byteOf_X0_at
theorem dX2_byteOf_0 : decode cX2_byteOf 0 = .ok (.aload_n 0, 1) := by decide +kernel
theorem dX2_byteOf_1 : decode cX2_byteOf 1 = .ok (.getfield 27, 3) := by decide +kernel
theorem dX2_byteOf_4 : decode cX2_byteOf 4 = .ok (.aload_n 0, 1) := by decide +kernel
theorem dX2_byteOf_5 : decode cX2_byteOf 5 = .ok (.iload_n 1, 1) := by decide +kernel
theorem dX2_byteOf_6 : decode cX2_byteOf 6 = .ok (.iload_n 2, 1) := by decide +kernel
theorem dX2_byteOf_7 : decode cX2_byteOf 7 = .ok (.invokevirtual 127, 3) := by decide +kernel
theorem dX2_byteOf_10 : decode cX2_byteOf 10 = .ok (.invokevirtual 115, 3) := by decide +kernel
theorem dX2_byteOf_13 : decode cX2_byteOf 13 = .ok (.ireturn, 1) := by decide +kernel
set_option maxRecDepth 20000 in
theorem ggX2_row_X1_has : GoodIn wsX2_row wsX1_has := goodIn_r _ [10, 11, 46, 47, 48, 49, 50, 51, 52, 53] (by decide +kernel) (by decide +kernel)
set_option maxRecDepth 20000 in
theorem gX2_row_X1_has : GoodIn wsX2_row (wsV RX2 130 RX1 yX1_has wsX1_has) := goodIn_app (goodIn_of _ (by decide +kernel)) ggX2_row_X1_has
set_option maxRecDepth 20000 in
theorem ggX2_row_X2_byteOfRow : GoodIn wsX2_row wsX2_byteOfRow := goodIn_ca (goodIn_r _ [16, 1, 2, 5, 17, 18, 19, 9, 20, 21, 22, 23, 24, 25, 26, 27, 28, 29, 30, 31, 32, 37, 38, 39, 40, 41, 42, 43, 44, 45, 46, 47, 48, 49, 50, 51, 52, 53, 54] (by decide +kernel) (by decide +kernel)) (goodIn_sub (fun _ h => List.mem_cons_of_mem _ (List.mem_append_left _ (List.mem_append_right _ h))) (by decide +kernel))
set_option maxRecDepth 20000 in
theorem gX2_row_X2_byteOfRow : GoodIn wsX2_row (wsV RX2 139 RX2 yX2_byteOfRow wsX2_byteOfRow) := goodIn_app (goodIn_of _ (by decide +kernel)) ggX2_row_X2_byteOfRow
set_option maxRecDepth 20000 in
theorem ggX2_row_X1_kindOf : GoodIn wsX2_row wsX1_kindOf := goodIn_r _ [36, 21, 22, 23, 24, 25, 26, 27, 28, 46, 47, 48, 49, 50, 51, 52, 53, 54] (by decide +kernel) (by decide +kernel)
set_option maxRecDepth 20000 in
theorem gX2_row_X1_kindOf : GoodIn wsX2_row (wsV RX2 142 RX1 yX1_kindOf wsX1_kindOf) := goodIn_app (goodIn_of _ (by decide +kernel)) ggX2_row_X1_kindOf
set_option maxRecDepth 20000 in
theorem ggX2_row_X1_lengthOf : GoodIn wsX2_row wsX1_lengthOf := goodIn_r _ [20, 21, 22, 23, 24, 25, 26, 27, 28, 46, 47, 48, 49, 50, 51, 52, 53, 54] (by decide +kernel) (by decide +kernel)
set_option maxRecDepth 20000 in
theorem gX2_row_X1_lengthOf : GoodIn wsX2_row (wsV RX2 145 RX1 yX1_lengthOf wsX1_lengthOf) := goodIn_app (goodIn_of _ (by decide +kernel)) ggX2_row_X1_lengthOf
theorem dX2_row_0 : decode cX2_row 0 = .ok (.aload_n 0, 1) := by decide +kernel
theorem dX2_row_1 : decode cX2_row 1 = .ok (.getfield 40, 3) := by decide +kernel
theorem dX2_row_4 : decode cX2_row 4 = .ok (.iload_n 1, 1) := by decide +kernel
theorem dX2_row_5 : decode cX2_row 5 = .ok (.invokevirtual 130, 3) := by decide +kernel
theorem dX2_row_8 : decode cX2_row 8 = .ok (.ifCond .ne 13, 3) := by decide +kernel
theorem dX2_row_11 : decode cX2_row 11 = .ok (.new 134, 3) := by decide +kernel
theorem dX2_row_14 : decode cX2_row 14 = .ok (.dup, 1) := by decide +kernel
theorem dX2_row_15 : decode cX2_row 15 = .ok (.ldc 136, 2) := by decide +kernel
theorem dX2_row_17 : decode cX2_row 17 = .ok (.invokespecial 138, 3) := by decide +kernel
theorem dX2_row_20 : decode cX2_row 20 = .ok (.athrow, 1) := by decide +kernel
theorem dX2_row_21 : decode cX2_row 21 = .ok (.iload_n 2, 1) := by decide +kernel
theorem dX2_row_22 : decode cX2_row 22 = .ok (.bipush 10, 2) := by decide +kernel
theorem dX2_row_24 : decode cX2_row 24 = .ok (.if_icmp .lt 13, 3) := by decide +kernel
theorem dX2_row_27 : decode cX2_row 27 = .ok (.aload_n 0, 1) := by decide +kernel
theorem dX2_row_28 : decode cX2_row 28 = .ok (.iload_n 1, 1) := by decide +kernel
theorem dX2_row_29 : decode cX2_row 29 = .ok (.iload_n 2, 1) := by decide +kernel
theorem dX2_row_30 : decode cX2_row 30 = .ok (.bipush 10, 2) := by decide +kernel
theorem dX2_row_32 : decode cX2_row 32 = .ok (.isub, 1) := by decide +kernel
theorem dX2_row_33 : decode cX2_row 33 = .ok (.invokevirtual 139, 3) := by decide +kernel
theorem dX2_row_36 : decode cX2_row 36 = .ok (.ireturn, 1) := by decide +kernel
theorem dX2_row_37 : decode cX2_row 37 = .ok (.iload_n 2, 1) := by decide +kernel
theorem dX2_row_38 : decode cX2_row 38 = .ok (.tableswitch 61 0 2 #[26, 35, 44], 26) := by decide +kernel
theorem dX2_row_64 : decode cX2_row 64 = .ok (.aload_n 0, 1) := by decide +kernel
theorem dX2_row_65 : decode cX2_row 65 = .ok (.getfield 40, 3) := by decide +kernel
theorem dX2_row_68 : decode cX2_row 68 = .ok (.iload_n 1, 1) := by decide +kernel
theorem dX2_row_69 : decode cX2_row 69 = .ok (.invokevirtual 142, 3) := by decide +kernel
theorem dX2_row_72 : decode cX2_row 72 = .ok (.ireturn, 1) := by decide +kernel
theorem dX2_row_73 : decode cX2_row 73 = .ok (.aload_n 0, 1) := by decide +kernel
theorem dX2_row_74 : decode cX2_row 74 = .ok (.getfield 40, 3) := by decide +kernel
theorem dX2_row_77 : decode cX2_row 77 = .ok (.iload_n 1, 1) := by decide +kernel
theorem dX2_row_78 : decode cX2_row 78 = .ok (.invokevirtual 145, 3) := by decide +kernel
theorem dX2_row_81 : decode cX2_row 81 = .ok (.ireturn, 1) := by decide +kernel
theorem dX2_row_82 : decode cX2_row 82 = .ok (.iload_n 1, 1) := by decide +kernel
theorem dX2_row_83 : decode cX2_row 83 = .ok (.aload_n 0, 1) := by decide +kernel
theorem dX2_row_84 : decode cX2_row 84 = .ok (.getfield 40, 3) := by decide +kernel
theorem dX2_row_87 : decode cX2_row 87 = .ok (.getfield 89, 3) := by decide +kernel
theorem dX2_row_90 : decode cX2_row 90 = .ok (.if_icmp .gt 7, 3) := by decide +kernel
theorem dX2_row_93 : decode cX2_row 93 = .ok (.iconst 1, 1) := by decide +kernel
theorem dX2_row_94 : decode cX2_row 94 = .ok (.goto 4, 3) := by decide +kernel
theorem dX2_row_97 : decode cX2_row 97 = .ok (.iconst 0, 1) := by decide +kernel
theorem dX2_row_98 : decode cX2_row 98 = .ok (.ireturn, 1) := by decide +kernel
theorem dX2_row_99 : decode cX2_row 99 = .ok (.new 51, 3) := by decide +kernel
theorem dX2_row_102 : decode cX2_row 102 = .ok (.dup, 1) := by decide +kernel
theorem dX2_row_103 : decode cX2_row 103 = .ok (.ldc 148, 2) := by decide +kernel
theorem dX2_row_105 : decode cX2_row 105 = .ok (.invokespecial 55, 3) := by decide +kernel
theorem dX2_row_108 : decode cX2_row 108 = .ok (.athrow, 1) := by decide +kernel
set_option maxRecDepth 20000 in
theorem ggX2_find_X2_refuseOtherKind : GoodIn wsX2_find wsX2_refuseOtherKind := goodIn_ca (goodIn_r _ [8, 1, 2, 9, 10, 7, 11] (by decide +kernel) (by decide +kernel)) (goodIn_sub (fun _ h => List.mem_cons_of_mem _ (List.mem_append_right _ h)) (by decide +kernel))
set_option maxRecDepth 20000 in
theorem gX2_find_X2_refuseOtherKind : GoodIn wsX2_find (wsV RX2 75 RX2 yX2_refuseOtherKind wsX2_refuseOtherKind) := goodIn_app (goodIn_of _ (by decide +kernel)) ggX2_find_X2_refuseOtherKind
set_option maxRecDepth 20000 in
theorem ggX2_find_X1_numberOf : GoodIn wsX2_find wsX1_numberOf := goodIn_r _ [16, 17, 18, 19, 20, 15, 21, 22, 23, 24, 25, 26, 27, 28, 29, 39, 40, 41, 42, 43, 44, 45, 46, 47] (by decide +kernel) (by decide +kernel)
set_option maxRecDepth 20000 in
theorem gX2_find_X1_numberOf : GoodIn wsX2_find (wsV RX2 152 RX1 yX1_numberOf wsX1_numberOf) := goodIn_app (goodIn_of _ (by decide +kernel)) ggX2_find_X1_numberOf
theorem dX2_find_0 : decode cX2_find 0 = .ok (.aload_n 0, 1) := by decide +kernel
theorem dX2_find_1 : decode cX2_find 1 = .ok (.iload_n 1, 1) := by decide +kernel
theorem dX2_find_2 : decode cX2_find 2 = .ok (.invokevirtual 75, 3) := by decide +kernel
theorem dX2_find_5 : decode cX2_find 5 = .ok (.iload_n 2, 1) := by decide +kernel
theorem dX2_find_6 : decode cX2_find 6 = .ok (.ifCond .ge 13, 3) := by decide +kernel
theorem dX2_find_9 : decode cX2_find 9 = .ok (.new 51, 3) := by decide +kernel
theorem dX2_find_12 : decode cX2_find 12 = .ok (.dup, 1) := by decide +kernel
theorem dX2_find_13 : decode cX2_find 13 = .ok (.ldc 150, 2) := by decide +kernel
theorem dX2_find_15 : decode cX2_find 15 = .ok (.invokespecial 55, 3) := by decide +kernel
theorem dX2_find_18 : decode cX2_find 18 = .ok (.athrow, 1) := by decide +kernel
theorem dX2_find_19 : decode cX2_find 19 = .ok (.aload_n 0, 1) := by decide +kernel
theorem dX2_find_20 : decode cX2_find 20 = .ok (.getfield 40, 3) := by decide +kernel
theorem dX2_find_23 : decode cX2_find 23 = .ok (.iload_n 1, 1) := by decide +kernel
theorem dX2_find_24 : decode cX2_find 24 = .ok (.iload_n 2, 1) := by decide +kernel
theorem dX2_find_25 : decode cX2_find 25 = .ok (.invokevirtual 152, 3) := by decide +kernel
theorem dX2_find_28 : decode cX2_find 28 = .ok (.ireturn, 1) := by decide +kernel
theorem dX2_wrong_0 : decode cX2_wrong 0 = .ok (.aload_n 0, 1) := by decide +kernel
theorem dX2_wrong_1 : decode cX2_wrong 1 = .ok (.getfield 44, 3) := by decide +kernel
theorem dX2_wrong_4 : decode cX2_wrong 4 = .ok (.ireturn, 1) := by decide +kernel
set_option maxRecDepth 20000 in
theorem ggX2_backup_X2_refuseWhenDown : GoodIn wsX2_backup wsX2_refuseWhenDown := goodIn_ca (goodIn_r _ [9, 10, 11, 12, 31, 32, 33, 34, 35, 36, 37, 38, 39] (by decide +kernel) (by decide +kernel)) (goodIn_sub (fun _ h => List.mem_cons_of_mem _ (List.mem_append_right _ h)) (by decide +kernel))
set_option maxRecDepth 20000 in
theorem gX2_backup_X2_refuseWhenDown : GoodIn wsX2_backup (wsV RX2 58 RX2 yX2_refuseWhenDown wsX2_refuseWhenDown) := goodIn_app (goodIn_of _ (by decide +kernel)) ggX2_backup_X2_refuseWhenDown
set_option maxRecDepth 20000 in
theorem ggX2_backup_X0_length : GoodIn wsX2_backup wsX0_length := goodIn_r _ [17, 18, 48] (by decide +kernel) (by decide +kernel)
set_option maxRecDepth 20000 in
theorem gX2_backup_X0_length : GoodIn wsX2_backup (wsV RX2 155 RX0 yX0_length wsX0_length) := goodIn_app (goodIn_of _ (by decide +kernel)) ggX2_backup_X0_length
set_option maxRecDepth 20000 in
theorem ggX2_backup_X0_copy : GoodIn wsX2_backup wsX0_copy := goodIn_r _ [22, 23, 24, 25, 16, 26, 18, 27, 28, 29, 30, 48] (by decide +kernel) (by decide +kernel)
set_option maxRecDepth 20000 in
theorem gX2_backup_X0_copy : GoodIn wsX2_backup (wsV RX2 101 RX0 yX0_copy wsX0_copy) := goodIn_app (goodIn_of _ (by decide +kernel)) ggX2_backup_X0_copy
theorem dX2_backup_0 : decode cX2_backup 0 = .ok (.aload_n 0, 1) := by decide +kernel
theorem dX2_backup_1 : decode cX2_backup 1 = .ok (.invokevirtual 58, 3) := by decide +kernel
theorem dX2_backup_4 : decode cX2_backup 4 = .ok (.aload_n 0, 1) := by decide +kernel
theorem dX2_backup_5 : decode cX2_backup 5 = .ok (.getfield 31, 3) := by decide +kernel
theorem dX2_backup_8 : decode cX2_backup 8 = .ok (.aload_n 0, 1) := by decide +kernel
theorem dX2_backup_9 : decode cX2_backup 9 = .ok (.getfield 27, 3) := by decide +kernel
theorem dX2_backup_12 : decode cX2_backup 12 = .ok (.iconst 0, 1) := by decide +kernel
theorem dX2_backup_13 : decode cX2_backup 13 = .ok (.aload_n 0, 1) := by decide +kernel
theorem dX2_backup_14 : decode cX2_backup 14 = .ok (.getfield 27, 3) := by decide +kernel
theorem dX2_backup_17 : decode cX2_backup 17 = .ok (.invokevirtual 155, 3) := by decide +kernel
theorem dX2_backup_20 : decode cX2_backup 20 = .ok (.invokevirtual 101, 3) := by decide +kernel
theorem dX2_backup_23 : decode cX2_backup 23 = .ok (.aload_n 0, 1) := by decide +kernel
theorem dX2_backup_24 : decode cX2_backup 24 = .ok (.iconst 1, 1) := by decide +kernel
theorem dX2_backup_25 : decode cX2_backup 25 = .ok (.putfield 158, 3) := by decide +kernel
theorem dX2_backup_28 : decode cX2_backup 28 = .ok (.aload_n 0, 1) := by decide +kernel
theorem dX2_backup_29 : decode cX2_backup 29 = .ok (.getfield 40, 3) := by decide +kernel
theorem dX2_backup_32 : decode cX2_backup 32 = .ok (.getfield 89, 3) := by decide +kernel
theorem dX2_backup_35 : decode cX2_backup 35 = .ok (.ireturn, 1) := by decide +kernel
set_option maxRecDepth 20000 in
theorem ggX2_restore_X0_length : GoodIn wsX2_restore wsX0_length := goodIn_r _ [10, 11, 104] (by decide +kernel) (by decide +kernel)
set_option maxRecDepth 20000 in
theorem gX2_restore_X0_length : GoodIn wsX2_restore (wsV RX2 155 RX0 yX0_length wsX0_length) := goodIn_app (goodIn_of _ (by decide +kernel)) ggX2_restore_X0_length
set_option maxRecDepth 20000 in
theorem ggX2_restore_X0_copy : GoodIn wsX2_restore wsX0_copy := goodIn_r _ [15, 16, 17, 18, 9, 19, 11, 20, 21, 22, 23, 104] (by decide +kernel) (by decide +kernel)
set_option maxRecDepth 20000 in
theorem gX2_restore_X0_copy : GoodIn wsX2_restore (wsV RX2 101 RX0 yX0_copy wsX0_copy) := goodIn_app (goodIn_of _ (by decide +kernel)) ggX2_restore_X0_copy
set_option maxRecDepth 20000 in
theorem ggX2_restore_X2_readDisk : GoodIn wsX2_restore wsX2_readDisk := goodIn_r _ [28, 29, 30, 4, 31, 32, 33, 34, 35, 36, 37, 38, 39, 40, 41, 42, 43, 44, 45, 46, 47, 48, 49, 50, 51, 52, 53, 17, 18, 9, 19, 11, 54, 21, 22, 23, 55, 56, 57, 58, 59, 60, 61, 62, 63, 64, 65, 66, 16, 67, 7, 8, 10, 68, 27, 69, 70, 71, 72, 73, 74, 75, 76, 77, 78, 79, 80, 81, 82, 13, 14, 15, 20, 83, 84, 85, 86, 87, 88, 89, 90, 91, 92, 93, 94, 95, 96, 97, 98, 99, 100, 101, 102, 103, 105, 106, 107, 108, 109, 110, 111, 112, 104] (by decide +kernel) (by decide +kernel)
set_option maxRecDepth 20000 in
theorem gX2_restore_X2_readDisk : GoodIn wsX2_restore (wsV RX2 122 RX2 yX2_readDisk wsX2_readDisk) := goodIn_app (goodIn_of _ (by decide +kernel)) ggX2_restore_X2_readDisk
theorem dX2_restore_0 : decode cX2_restore 0 = .ok (.aload_n 0, 1) := by decide +kernel
theorem dX2_restore_1 : decode cX2_restore 1 = .ok (.getfield 158, 3) := by decide +kernel
theorem dX2_restore_4 : decode cX2_restore 4 = .ok (.ifCond .ne 13, 3) := by decide +kernel
theorem dX2_restore_7 : decode cX2_restore 7 = .ok (.new 161, 3) := by decide +kernel
theorem dX2_restore_10 : decode cX2_restore 10 = .ok (.dup, 1) := by decide +kernel
theorem dX2_restore_11 : decode cX2_restore 11 = .ok (.ldc 163, 2) := by decide +kernel
theorem dX2_restore_13 : decode cX2_restore 13 = .ok (.invokespecial 165, 3) := by decide +kernel
theorem dX2_restore_16 : decode cX2_restore 16 = .ok (.athrow, 1) := by decide +kernel
theorem dX2_restore_17 : decode cX2_restore 17 = .ok (.aload_n 0, 1) := by decide +kernel
theorem dX2_restore_18 : decode cX2_restore 18 = .ok (.getfield 27, 3) := by decide +kernel
theorem dX2_restore_21 : decode cX2_restore 21 = .ok (.aload_n 0, 1) := by decide +kernel
theorem dX2_restore_22 : decode cX2_restore 22 = .ok (.getfield 31, 3) := by decide +kernel
theorem dX2_restore_25 : decode cX2_restore 25 = .ok (.iconst 0, 1) := by decide +kernel
theorem dX2_restore_26 : decode cX2_restore 26 = .ok (.aload_n 0, 1) := by decide +kernel
theorem dX2_restore_27 : decode cX2_restore 27 = .ok (.getfield 31, 3) := by decide +kernel
theorem dX2_restore_30 : decode cX2_restore 30 = .ok (.invokevirtual 155, 3) := by decide +kernel
theorem dX2_restore_33 : decode cX2_restore 33 = .ok (.invokevirtual 101, 3) := by decide +kernel
theorem dX2_restore_36 : decode cX2_restore 36 = .ok (.aload_n 0, 1) := by decide +kernel
theorem dX2_restore_37 : decode cX2_restore 37 = .ok (.invokevirtual 122, 3) := by decide +kernel
theorem dX2_restore_40 : decode cX2_restore 40 = .ok (.ireturn, 1) := by decide +kernel
set_option maxRecDepth 20000 in
theorem ggX2_total_X2_refuseOtherKind : GoodIn wsX2_total wsX2_refuseOtherKind := goodIn_ca (goodIn_r _ [13, 14, 15, 16, 17, 12, 18] (by decide +kernel) (by decide +kernel)) (goodIn_sub (fun _ h => List.mem_cons_of_mem _ (List.mem_append_right _ h)) (by decide +kernel))
set_option maxRecDepth 20000 in
theorem gX2_total_X2_refuseOtherKind : GoodIn wsX2_total (wsV RX2 75 RX2 yX2_refuseOtherKind wsX2_refuseOtherKind) := goodIn_app (goodIn_of _ (by decide +kernel)) ggX2_total_X2_refuseOtherKind
set_option maxRecDepth 20000 in
theorem ggX2_total_X1_kindOf : GoodIn wsX2_total wsX1_kindOf := goodIn_r _ [23, 24, 25, 26, 27, 28, 29, 30, 31, 53, 54, 55, 56, 57, 58, 59, 60, 61] (by decide +kernel) (by decide +kernel)
set_option maxRecDepth 20000 in
theorem gX2_total_X1_kindOf : GoodIn wsX2_total (wsV RX2 142 RX1 yX1_kindOf wsX1_kindOf) := goodIn_app (goodIn_of _ (by decide +kernel)) ggX2_total_X1_kindOf
set_option maxRecDepth 20000 in
theorem ggX2_total_X1_sumOfBytes : GoodIn wsX2_total wsX1_sumOfBytes := goodIn_r _ [35, 36, 37, 38, 22, 39, 24, 25, 26, 27, 28, 29, 30, 31, 40, 41, 42, 43, 53, 54, 55, 56, 57, 58, 59, 60, 61] (by decide +kernel) (by decide +kernel)
set_option maxRecDepth 20000 in
theorem gX2_total_X1_sumOfBytes : GoodIn wsX2_total (wsV RX2 169 RX1 yX1_sumOfBytes wsX1_sumOfBytes) := goodIn_app (goodIn_of _ (by decide +kernel)) ggX2_total_X1_sumOfBytes
theorem dX2_total_0 : decode cX2_total 0 = .ok (.aload_n 0, 1) := by decide +kernel
theorem dX2_total_1 : decode cX2_total 1 = .ok (.iload_n 1, 1) := by decide +kernel
theorem dX2_total_2 : decode cX2_total 2 = .ok (.invokevirtual 75, 3) := by decide +kernel
theorem dX2_total_5 : decode cX2_total 5 = .ok (.iconst 1, 1) := by decide +kernel
theorem dX2_total_6 : decode cX2_total 6 = .ok (.iload_n 2, 1) := by decide +kernel
theorem dX2_total_7 : decode cX2_total 7 = .ok (.invokestatic 15, 3) := by decide +kernel
theorem dX2_total_10 : decode cX2_total 10 = .ok (.istore 4, 2) := by decide +kernel
theorem dX2_total_12 : decode cX2_total 12 = .ok (.aload_n 0, 1) := by decide +kernel
theorem dX2_total_13 : decode cX2_total 13 = .ok (.getfield 40, 3) := by decide +kernel
theorem dX2_total_16 : decode cX2_total 16 = .ok (.getfield 166, 3) := by decide +kernel
theorem dX2_total_19 : decode cX2_total 19 = .ok (.iload_n 3, 1) := by decide +kernel
theorem dX2_total_20 : decode cX2_total 20 = .ok (.invokestatic 9, 3) := by decide +kernel
theorem dX2_total_23 : decode cX2_total 23 = .ok (.istore 5, 2) := by decide +kernel
theorem dX2_total_25 : decode cX2_total 25 = .ok (.iconst 0, 1) := by decide +kernel
theorem dX2_total_26 : decode cX2_total 26 = .ok (.istore 6, 2) := by decide +kernel
theorem dX2_total_28 : decode cX2_total 28 = .ok (.iload 4, 2) := by decide +kernel
theorem dX2_total_30 : decode cX2_total 30 = .ok (.istore 7, 2) := by decide +kernel
theorem dX2_total_32 : decode cX2_total 32 = .ok (.iload 7, 2) := by decide +kernel
theorem dX2_total_34 : decode cX2_total 34 = .ok (.iload 5, 2) := by decide +kernel
theorem dX2_total_36 : decode cX2_total 36 = .ok (.if_icmp .gt 36, 3) := by decide +kernel
theorem dX2_total_39 : decode cX2_total 39 = .ok (.aload_n 0, 1) := by decide +kernel
theorem dX2_total_40 : decode cX2_total 40 = .ok (.getfield 40, 3) := by decide +kernel
theorem dX2_total_43 : decode cX2_total 43 = .ok (.iload 7, 2) := by decide +kernel
theorem dX2_total_45 : decode cX2_total 45 = .ok (.invokevirtual 142, 3) := by decide +kernel
theorem dX2_total_48 : decode cX2_total 48 = .ok (.iload_n 1, 1) := by decide +kernel
theorem dX2_total_49 : decode cX2_total 49 = .ok (.if_icmp .ne 17, 3) := by decide +kernel
theorem dX2_total_52 : decode cX2_total 52 = .ok (.iload 6, 2) := by decide +kernel
theorem dX2_total_54 : decode cX2_total 54 = .ok (.aload_n 0, 1) := by decide +kernel
theorem dX2_total_55 : decode cX2_total 55 = .ok (.getfield 40, 3) := by decide +kernel
theorem dX2_total_58 : decode cX2_total 58 = .ok (.iload 7, 2) := by decide +kernel
theorem dX2_total_60 : decode cX2_total 60 = .ok (.invokevirtual 169, 3) := by decide +kernel
theorem dX2_total_63 : decode cX2_total 63 = .ok (.iadd, 1) := by decide +kernel
theorem dX2_total_64 : decode cX2_total 64 = .ok (.istore 6, 2) := by decide +kernel
theorem dX2_total_66 : decode cX2_total 66 = .ok (.iinc 7 1, 3) := by decide +kernel
theorem dX2_total_69 : decode cX2_total 69 = .ok (.goto (-37), 3) := by decide +kernel
theorem dX2_total_72 : decode cX2_total 72 = .ok (.iload 6, 2) := by decide +kernel
theorem dX2_total_74 : decode cX2_total 74 = .ok (.ireturn, 1) := by decide +kernel
set_option maxRecDepth 20000 in
theorem ggX2_count_X1_bytesInMemory : GoodIn wsX2_count wsX1_bytesInMemory := goodIn_r _ [9, 10, 11, 27, 28, 29, 30, 31, 32, 33, 34] (by decide +kernel) (by decide +kernel)
set_option maxRecDepth 20000 in
theorem gX2_count_X1_bytesInMemory : GoodIn wsX2_count (wsV RX2 108 RX1 yX1_bytesInMemory wsX1_bytesInMemory) := goodIn_app (goodIn_of _ (by decide +kernel)) ggX2_count_X1_bytesInMemory
set_option maxRecDepth 20000 in
theorem ggX2_count_X0_at : GoodIn wsX2_count wsX0_at := goodIn_r _ [16, 17, 35] (by decide +kernel) (by decide +kernel)
set_option maxRecDepth 20000 in
theorem gX2_count_X0_at : GoodIn wsX2_count (wsV RX2 115 RX0 yX0_at wsX0_at) := goodIn_app (goodIn_of _ (by decide +kernel)) ggX2_count_X0_at
theorem dX2_count_0 : decode cX2_count 0 = .ok (.iload_n 1, 1) := by decide +kernel
theorem dX2_count_1 : decode cX2_count 1 = .ok (.tableswitch 114 0 7 #[47, 52, 60, 68, 76, 81, 94, 102], 47) := by decide +kernel
theorem dX2_count_48 : decode cX2_count 48 = .ok (.aload_n 0, 1) := by decide +kernel
theorem dX2_count_49 : decode cX2_count 49 = .ok (.getfield 18, 3) := by decide +kernel
theorem dX2_count_52 : decode cX2_count 52 = .ok (.ireturn, 1) := by decide +kernel
theorem dX2_count_53 : decode cX2_count 53 = .ok (.aload_n 0, 1) := by decide +kernel
theorem dX2_count_54 : decode cX2_count 54 = .ok (.getfield 40, 3) := by decide +kernel
theorem dX2_count_57 : decode cX2_count 57 = .ok (.getfield 166, 3) := by decide +kernel
theorem dX2_count_60 : decode cX2_count 60 = .ok (.ireturn, 1) := by decide +kernel
theorem dX2_count_61 : decode cX2_count 61 = .ok (.aload_n 0, 1) := by decide +kernel
theorem dX2_count_62 : decode cX2_count 62 = .ok (.getfield 40, 3) := by decide +kernel
theorem dX2_count_65 : decode cX2_count 65 = .ok (.getfield 89, 3) := by decide +kernel
theorem dX2_count_68 : decode cX2_count 68 = .ok (.ireturn, 1) := by decide +kernel
theorem dX2_count_69 : decode cX2_count 69 = .ok (.aload_n 0, 1) := by decide +kernel
theorem dX2_count_70 : decode cX2_count 70 = .ok (.getfield 40, 3) := by decide +kernel
theorem dX2_count_73 : decode cX2_count 73 = .ok (.invokevirtual 108, 3) := by decide +kernel
theorem dX2_count_76 : decode cX2_count 76 = .ok (.ireturn, 1) := by decide +kernel
theorem dX2_count_77 : decode cX2_count 77 = .ok (.aload_n 0, 1) := by decide +kernel
theorem dX2_count_78 : decode cX2_count 78 = .ok (.getfield 61, 3) := by decide +kernel
theorem dX2_count_81 : decode cX2_count 81 = .ok (.ireturn, 1) := by decide +kernel
theorem dX2_count_82 : decode cX2_count 82 = .ok (.aload_n 0, 1) := by decide +kernel
theorem dX2_count_83 : decode cX2_count 83 = .ok (.getfield 47, 3) := by decide +kernel
theorem dX2_count_86 : decode cX2_count 86 = .ok (.ifCond .eq 7, 3) := by decide +kernel
theorem dX2_count_89 : decode cX2_count 89 = .ok (.iconst 1, 1) := by decide +kernel
theorem dX2_count_90 : decode cX2_count 90 = .ok (.goto 4, 3) := by decide +kernel
theorem dX2_count_93 : decode cX2_count 93 = .ok (.iconst 0, 1) := by decide +kernel
theorem dX2_count_94 : decode cX2_count 94 = .ok (.ireturn, 1) := by decide +kernel
theorem dX2_count_95 : decode cX2_count 95 = .ok (.aload_n 0, 1) := by decide +kernel
theorem dX2_count_96 : decode cX2_count 96 = .ok (.getfield 40, 3) := by decide +kernel
theorem dX2_count_99 : decode cX2_count 99 = .ok (.getfield 98, 3) := by decide +kernel
theorem dX2_count_102 : decode cX2_count 102 = .ok (.ireturn, 1) := by decide +kernel
theorem dX2_count_103 : decode cX2_count 103 = .ok (.aload_n 0, 1) := by decide +kernel
theorem dX2_count_104 : decode cX2_count 104 = .ok (.getfield 40, 3) := by decide +kernel
theorem dX2_count_107 : decode cX2_count 107 = .ok (.getfield 172, 3) := by decide +kernel
theorem dX2_count_110 : decode cX2_count 110 = .ok (.iconst 5, 1) := by decide +kernel
theorem dX2_count_111 : decode cX2_count 111 = .ok (.invokevirtual 115, 3) := by decide +kernel
theorem dX2_count_114 : decode cX2_count 114 = .ok (.ireturn, 1) := by decide +kernel
theorem dX2_count_115 : decode cX2_count 115 = .ok (.iconst (-1), 1) := by decide +kernel
theorem dX2_count_116 : decode cX2_count 116 = .ok (.ireturn, 1) := by decide +kernel
set_option maxRecDepth 20000 in
theorem ggX2_refuseOtherKind_X2_isKind : GoodIn wsX2_refuseOtherKind wsX2_isKind := goodIn_r _ [6] (by decide +kernel) (by decide +kernel)
set_option maxRecDepth 20000 in
theorem gX2_refuseOtherKind_X2_isKind : GoodIn wsX2_refuseOtherKind (va_wsS RX2 175 yX2_isKind wsX2_isKind) := goodIn_app (goodIn_of _ (by decide +kernel)) ggX2_refuseOtherKind_X2_isKind
theorem dX2_refuseOtherKind_0 : decode cX2_refuseOtherKind 0 = .ok (.iload_n 1, 1) := by decide +kernel
theorem dX2_refuseOtherKind_1 : decode cX2_refuseOtherKind 1 = .ok (.invokestatic 175, 3) := by decide +kernel
theorem dX2_refuseOtherKind_4 : decode cX2_refuseOtherKind 4 = .ok (.ifCond .ne 13, 3) := by decide +kernel
theorem dX2_refuseOtherKind_7 : decode cX2_refuseOtherKind 7 = .ok (.new 51, 3) := by decide +kernel
theorem dX2_refuseOtherKind_10 : decode cX2_refuseOtherKind 10 = .ok (.dup, 1) := by decide +kernel
theorem dX2_refuseOtherKind_11 : decode cX2_refuseOtherKind 11 = .ok (.ldc 178, 2) := by decide +kernel
theorem dX2_refuseOtherKind_13 : decode cX2_refuseOtherKind 13 = .ok (.invokespecial 55, 3) := by decide +kernel
theorem dX2_refuseOtherKind_16 : decode cX2_refuseOtherKind 16 = .ok (.athrow, 1) := by decide +kernel
theorem dX2_refuseOtherKind_17 : decode cX2_refuseOtherKind 17 = .ok (.return_, 1) := by decide +kernel
theorem dX2_refuseWhenDown_0 : decode cX2_refuseWhenDown 0 = .ok (.aload_n 0, 1) := by decide +kernel
theorem dX2_refuseWhenDown_1 : decode cX2_refuseWhenDown 1 = .ok (.getfield 47, 3) := by decide +kernel
theorem dX2_refuseWhenDown_4 : decode cX2_refuseWhenDown 4 = .ok (.ifCond .ne 13, 3) := by decide +kernel
theorem dX2_refuseWhenDown_7 : decode cX2_refuseWhenDown 7 = .ok (.new 161, 3) := by decide +kernel
theorem dX2_refuseWhenDown_10 : decode cX2_refuseWhenDown 10 = .ok (.dup, 1) := by decide +kernel
theorem dX2_refuseWhenDown_11 : decode cX2_refuseWhenDown 11 = .ok (.ldc 180, 2) := by decide +kernel
theorem dX2_refuseWhenDown_13 : decode cX2_refuseWhenDown 13 = .ok (.invokespecial 165, 3) := by decide +kernel
theorem dX2_refuseWhenDown_16 : decode cX2_refuseWhenDown 16 = .ok (.athrow, 1) := by decide +kernel
theorem dX2_refuseWhenDown_17 : decode cX2_refuseWhenDown 17 = .ok (.return_, 1) := by decide +kernel
set_option maxRecDepth 20000 in
theorem ggX2_refuseWhenFull_X0_length : GoodIn wsX2_refuseWhenFull wsX0_length := goodIn_r _ [9, 10, 28] (by decide +kernel) (by decide +kernel)
set_option maxRecDepth 20000 in
theorem gX2_refuseWhenFull_X0_length : GoodIn wsX2_refuseWhenFull (wsV RX2 155 RX0 yX0_length wsX0_length) := goodIn_app (goodIn_of _ (by decide +kernel)) ggX2_refuseWhenFull_X0_length
theorem dX2_refuseWhenFull_0 : decode cX2_refuseWhenFull 0 = .ok (.aload_n 0, 1) := by decide +kernel
theorem dX2_refuseWhenFull_1 : decode cX2_refuseWhenFull 1 = .ok (.getfield 40, 3) := by decide +kernel
theorem dX2_refuseWhenFull_4 : decode cX2_refuseWhenFull 4 = .ok (.getfield 98, 3) := by decide +kernel
theorem dX2_refuseWhenFull_7 : decode cX2_refuseWhenFull 7 = .ok (.bipush 9, 2) := by decide +kernel
theorem dX2_refuseWhenFull_9 : decode cX2_refuseWhenFull 9 = .ok (.iadd, 1) := by decide +kernel
theorem dX2_refuseWhenFull_10 : decode cX2_refuseWhenFull 10 = .ok (.iload_n 1, 1) := by decide +kernel
theorem dX2_refuseWhenFull_11 : decode cX2_refuseWhenFull 11 = .ok (.iadd, 1) := by decide +kernel
theorem dX2_refuseWhenFull_12 : decode cX2_refuseWhenFull 12 = .ok (.aload_n 0, 1) := by decide +kernel
theorem dX2_refuseWhenFull_13 : decode cX2_refuseWhenFull 13 = .ok (.getfield 27, 3) := by decide +kernel
theorem dX2_refuseWhenFull_16 : decode cX2_refuseWhenFull 16 = .ok (.invokevirtual 155, 3) := by decide +kernel
theorem dX2_refuseWhenFull_19 : decode cX2_refuseWhenFull 19 = .ok (.if_icmp .le 13, 3) := by decide +kernel
theorem dX2_refuseWhenFull_22 : decode cX2_refuseWhenFull 22 = .ok (.new 64, 3) := by decide +kernel
theorem dX2_refuseWhenFull_25 : decode cX2_refuseWhenFull 25 = .ok (.dup, 1) := by decide +kernel
theorem dX2_refuseWhenFull_26 : decode cX2_refuseWhenFull 26 = .ok (.ldc 182, 2) := by decide +kernel
theorem dX2_refuseWhenFull_28 : decode cX2_refuseWhenFull 28 = .ok (.invokespecial 68, 3) := by decide +kernel
theorem dX2_refuseWhenFull_31 : decode cX2_refuseWhenFull 31 = .ok (.athrow, 1) := by decide +kernel
theorem dX2_refuseWhenFull_32 : decode cX2_refuseWhenFull 32 = .ok (.return_, 1) := by decide +kernel
theorem dX2_placeOf_0 : decode cX2_placeOf 0 = .ok (.iload_n 1, 1) := by decide +kernel
theorem dX2_placeOf_1 : decode cX2_placeOf 1 = .ok (.ifCond .lt 21, 3) := by decide +kernel
theorem dX2_placeOf_4 : decode cX2_placeOf 4 = .ok (.iload_n 1, 1) := by decide +kernel
theorem dX2_placeOf_5 : decode cX2_placeOf 5 = .ok (.aload_n 0, 1) := by decide +kernel
theorem dX2_placeOf_6 : decode cX2_placeOf 6 = .ok (.getfield 18, 3) := by decide +kernel
theorem dX2_placeOf_9 : decode cX2_placeOf 9 = .ok (.if_icmp .ge 13, 3) := by decide +kernel
theorem dX2_placeOf_12 : decode cX2_placeOf 12 = .ok (.iload_n 2, 1) := by decide +kernel
theorem dX2_placeOf_13 : decode cX2_placeOf 13 = .ok (.ifCond .lt 9, 3) := by decide +kernel
theorem dX2_placeOf_16 : decode cX2_placeOf 16 = .ok (.iload_n 2, 1) := by decide +kernel
theorem dX2_placeOf_17 : decode cX2_placeOf 17 = .ok (.bipush 32, 2) := by decide +kernel
theorem dX2_placeOf_19 : decode cX2_placeOf 19 = .ok (.if_icmp .lt 13, 3) := by decide +kernel
theorem dX2_placeOf_22 : decode cX2_placeOf 22 = .ok (.new 184, 3) := by decide +kernel
theorem dX2_placeOf_25 : decode cX2_placeOf 25 = .ok (.dup, 1) := by decide +kernel
theorem dX2_placeOf_26 : decode cX2_placeOf 26 = .ok (.ldc 186, 2) := by decide +kernel
theorem dX2_placeOf_28 : decode cX2_placeOf 28 = .ok (.invokespecial 188, 3) := by decide +kernel
theorem dX2_placeOf_31 : decode cX2_placeOf 31 = .ok (.athrow, 1) := by decide +kernel
theorem dX2_placeOf_32 : decode cX2_placeOf 32 = .ok (.iload_n 1, 1) := by decide +kernel
theorem dX2_placeOf_33 : decode cX2_placeOf 33 = .ok (.bipush 32, 2) := by decide +kernel
theorem dX2_placeOf_35 : decode cX2_placeOf 35 = .ok (.imul, 1) := by decide +kernel
theorem dX2_placeOf_36 : decode cX2_placeOf 36 = .ok (.iload_n 2, 1) := by decide +kernel
theorem dX2_placeOf_37 : decode cX2_placeOf 37 = .ok (.iadd, 1) := by decide +kernel
theorem dX2_placeOf_38 : decode cX2_placeOf 38 = .ok (.ireturn, 1) := by decide +kernel
set_option maxRecDepth 20000 in
theorem ggX2_byteOfRow_X1_lengthOf : GoodIn wsX2_byteOfRow wsX1_lengthOf := goodIn_r _ [8, 9, 10, 11, 12, 13, 14, 15, 16, 30, 31, 32, 33, 34, 35, 36, 37, 38] (by decide +kernel) (by decide +kernel)
set_option maxRecDepth 20000 in
theorem gX2_byteOfRow_X1_lengthOf : GoodIn wsX2_byteOfRow (wsV RX2 145 RX1 yX1_lengthOf wsX1_lengthOf) := goodIn_app (goodIn_of _ (by decide +kernel)) ggX2_byteOfRow_X1_lengthOf
set_option maxRecDepth 20000 in
theorem ggX2_byteOfRow_X1_byteAt : GoodIn wsX2_byteOfRow wsX1_byteAt := goodIn_r _ [20, 9, 10, 11, 12, 13, 14, 15, 16, 30, 31, 32, 33, 34, 35, 36, 37, 38] (by decide +kernel) (by decide +kernel)
set_option maxRecDepth 20000 in
theorem gX2_byteOfRow_X1_byteAt : GoodIn wsX2_byteOfRow (wsV RX2 191 RX1 yX1_byteAt wsX1_byteAt) := goodIn_app (goodIn_of _ (by decide +kernel)) ggX2_byteOfRow_X1_byteAt
theorem dX2_byteOfRow_0 : decode cX2_byteOfRow 0 = .ok (.iload_n 2, 1) := by decide +kernel
theorem dX2_byteOfRow_1 : decode cX2_byteOfRow 1 = .ok (.aload_n 0, 1) := by decide +kernel
theorem dX2_byteOfRow_2 : decode cX2_byteOfRow 2 = .ok (.getfield 40, 3) := by decide +kernel
theorem dX2_byteOfRow_5 : decode cX2_byteOfRow 5 = .ok (.iload_n 1, 1) := by decide +kernel
theorem dX2_byteOfRow_6 : decode cX2_byteOfRow 6 = .ok (.invokevirtual 145, 3) := by decide +kernel
theorem dX2_byteOfRow_9 : decode cX2_byteOfRow 9 = .ok (.if_icmp .lt 13, 3) := by decide +kernel
theorem dX2_byteOfRow_12 : decode cX2_byteOfRow 12 = .ok (.new 134, 3) := by decide +kernel
theorem dX2_byteOfRow_15 : decode cX2_byteOfRow 15 = .ok (.dup, 1) := by decide +kernel
theorem dX2_byteOfRow_16 : decode cX2_byteOfRow 16 = .ok (.ldc 189, 2) := by decide +kernel
theorem dX2_byteOfRow_18 : decode cX2_byteOfRow 18 = .ok (.invokespecial 138, 3) := by decide +kernel
theorem dX2_byteOfRow_21 : decode cX2_byteOfRow 21 = .ok (.athrow, 1) := by decide +kernel
theorem dX2_byteOfRow_22 : decode cX2_byteOfRow 22 = .ok (.aload_n 0, 1) := by decide +kernel
theorem dX2_byteOfRow_23 : decode cX2_byteOfRow 23 = .ok (.getfield 40, 3) := by decide +kernel
theorem dX2_byteOfRow_26 : decode cX2_byteOfRow 26 = .ok (.iload_n 1, 1) := by decide +kernel
theorem dX2_byteOfRow_27 : decode cX2_byteOfRow 27 = .ok (.iload_n 2, 1) := by decide +kernel
theorem dX2_byteOfRow_28 : decode cX2_byteOfRow 28 = .ok (.invokevirtual 191, 3) := by decide +kernel
theorem dX2_byteOfRow_31 : decode cX2_byteOfRow 31 = .ok (.ireturn, 1) := by decide +kernel
set_option maxRecDepth 20000 in
theorem ggX2_readDisk_X1_clear : GoodIn wsX2_readDisk wsX1_clear := goodIn_r _ [10, 11, 12, 13, 14, 15, 9, 16, 17, 18, 19, 20, 21, 22, 23, 24, 25, 26, 27, 28, 29, 30, 31, 32, 33, 34, 35, 94, 95, 96, 97, 98, 99, 100, 101, 102] (by decide +kernel) (by decide +kernel)
set_option maxRecDepth 20000 in
theorem gX2_readDisk_X1_clear : GoodIn wsX2_readDisk (wsV RX2 194 RX1 yX1_clear wsX1_clear) := goodIn_app (goodIn_of _ (by decide +kernel)) ggX2_readDisk_X1_clear
set_option maxRecDepth 20000 in
theorem ggX2_readDisk_X1_read : GoodIn wsX2_readDisk wsX1_read := goodIn_r _ [39, 19, 24, 40, 41, 42, 9, 43, 17, 44, 45, 46, 29, 47, 31, 48, 27, 28, 30, 26, 49, 50, 51, 52, 53, 54, 55, 56, 57, 58, 59, 60, 61, 62, 63, 64, 65, 66, 67, 18, 68, 69, 70, 71, 72, 33, 34, 35, 73, 74, 75, 76, 25, 32, 20, 21, 22, 23, 77, 78, 79, 80, 94, 95, 96, 97, 98, 99, 100, 101, 102] (by decide +kernel) (by decide +kernel)
set_option maxRecDepth 20000 in
theorem gX2_readDisk_X1_read : GoodIn wsX2_readDisk (wsV RX2 197 RX1 yX1_read wsX1_read) := goodIn_app (goodIn_of _ (by decide +kernel)) ggX2_readDisk_X1_read
set_option maxRecDepth 20000 in
theorem ggX2_readDisk_X1_markAllOnDisk : GoodIn wsX2_readDisk wsX1_markAllOnDisk := goodIn_r _ [84, 17, 11, 19, 12, 94, 95, 96, 97, 98, 99, 100, 101] (by decide +kernel) (by decide +kernel)
set_option maxRecDepth 20000 in
theorem gX2_readDisk_X1_markAllOnDisk : GoodIn wsX2_readDisk (wsV RX2 105 RX1 yX1_markAllOnDisk wsX1_markAllOnDisk) := goodIn_app (goodIn_of _ (by decide +kernel)) ggX2_readDisk_X1_markAllOnDisk
theorem dX2_readDisk_0 : decode cX2_readDisk 0 = .ok (.aload_n 0, 1) := by decide +kernel
theorem dX2_readDisk_1 : decode cX2_readDisk 1 = .ok (.iconst 0, 1) := by decide +kernel
theorem dX2_readDisk_2 : decode cX2_readDisk 2 = .ok (.putfield 61, 3) := by decide +kernel
theorem dX2_readDisk_5 : decode cX2_readDisk 5 = .ok (.aload_n 0, 1) := by decide +kernel
theorem dX2_readDisk_6 : decode cX2_readDisk 6 = .ok (.getfield 40, 3) := by decide +kernel
theorem dX2_readDisk_9 : decode cX2_readDisk 9 = .ok (.invokevirtual 194, 3) := by decide +kernel
theorem dX2_readDisk_12 : decode cX2_readDisk 12 = .ok (.aload_n 0, 1) := by decide +kernel
theorem dX2_readDisk_13 : decode cX2_readDisk 13 = .ok (.aload_n 0, 1) := by decide +kernel
theorem dX2_readDisk_14 : decode cX2_readDisk 14 = .ok (.getfield 40, 3) := by decide +kernel
theorem dX2_readDisk_17 : decode cX2_readDisk 17 = .ok (.aload_n 0, 1) := by decide +kernel
theorem dX2_readDisk_18 : decode cX2_readDisk 18 = .ok (.getfield 27, 3) := by decide +kernel
theorem dX2_readDisk_21 : decode cX2_readDisk 21 = .ok (.invokevirtual 197, 3) := by decide +kernel
theorem dX2_readDisk_24 : decode cX2_readDisk 24 = .ok (.putfield 44, 3) := by decide +kernel
theorem dX2_readDisk_27 : decode cX2_readDisk 27 = .ok (.aload_n 0, 1) := by decide +kernel
theorem dX2_readDisk_28 : decode cX2_readDisk 28 = .ok (.getfield 40, 3) := by decide +kernel
theorem dX2_readDisk_31 : decode cX2_readDisk 31 = .ok (.invokevirtual 105, 3) := by decide +kernel
theorem dX2_readDisk_34 : decode cX2_readDisk 34 = .ok (.aload_n 0, 1) := by decide +kernel
theorem dX2_readDisk_35 : decode cX2_readDisk 35 = .ok (.iconst 1, 1) := by decide +kernel
theorem dX2_readDisk_36 : decode cX2_readDisk 36 = .ok (.putfield 47, 3) := by decide +kernel
theorem dX2_readDisk_39 : decode cX2_readDisk 39 = .ok (.aload_n 0, 1) := by decide +kernel
theorem dX2_readDisk_40 : decode cX2_readDisk 40 = .ok (.getfield 40, 3) := by decide +kernel
theorem dX2_readDisk_43 : decode cX2_readDisk 43 = .ok (.getfield 166, 3) := by decide +kernel
theorem dX2_readDisk_46 : decode cX2_readDisk 46 = .ok (.ireturn, 1) := by decide +kernel
theorem dX2_isKind_0 : decode cX2_isKind 0 = .ok (.iload_n 0, 1) := by decide +kernel
theorem dX2_isKind_1 : decode cX2_isKind 1 = .ok (.iconst 1, 1) := by decide +kernel
theorem dX2_isKind_2 : decode cX2_isKind 2 = .ok (.if_icmp .lt 12, 3) := by decide +kernel
theorem dX2_isKind_5 : decode cX2_isKind 5 = .ok (.iload_n 0, 1) := by decide +kernel
theorem dX2_isKind_6 : decode cX2_isKind 6 = .ok (.iconst 5, 1) := by decide +kernel
theorem dX2_isKind_7 : decode cX2_isKind 7 = .ok (.if_icmp .gt 7, 3) := by decide +kernel
theorem dX2_isKind_10 : decode cX2_isKind 10 = .ok (.iconst 1, 1) := by decide +kernel
theorem dX2_isKind_11 : decode cX2_isKind 11 = .ok (.goto 4, 3) := by decide +kernel
theorem dX2_isKind_14 : decode cX2_isKind 14 = .ok (.iconst 0, 1) := by decide +kernel
theorem dX2_isKind_15 : decode cX2_isKind 15 = .ok (.ireturn, 1) := by decide +kernel
set_option maxRecDepth 20000 in
theorem ggX2_sumOfRow_X0_at : GoodIn wsX2_sumOfRow wsX0_at := goodIn_r _ [6, 7, 8] (by decide +kernel) (by decide +kernel)
set_option maxRecDepth 20000 in
theorem gX2_sumOfRow_X0_at : GoodIn wsX2_sumOfRow (wsV RX2 115 RX0 yX0_at wsX0_at) := goodIn_app (goodIn_of _ (by decide +kernel)) ggX2_sumOfRow_X0_at
theorem dX2_sumOfRow_0 : decode cX2_sumOfRow 0 = .ok (.iconst 1, 1) := by decide +kernel
theorem dX2_sumOfRow_1 : decode cX2_sumOfRow 1 = .ok (.istore_n 3, 1) := by decide +kernel
theorem dX2_sumOfRow_2 : decode cX2_sumOfRow 2 = .ok (.iload_n 1, 1) := by decide +kernel
theorem dX2_sumOfRow_3 : decode cX2_sumOfRow 3 = .ok (.iconst 5, 1) := by decide +kernel
theorem dX2_sumOfRow_4 : decode cX2_sumOfRow 4 = .ok (.iadd, 1) := by decide +kernel
theorem dX2_sumOfRow_5 : decode cX2_sumOfRow 5 = .ok (.iload_n 2, 1) := by decide +kernel
theorem dX2_sumOfRow_6 : decode cX2_sumOfRow 6 = .ok (.iadd, 1) := by decide +kernel
theorem dX2_sumOfRow_7 : decode cX2_sumOfRow 7 = .ok (.istore 4, 2) := by decide +kernel
theorem dX2_sumOfRow_9 : decode cX2_sumOfRow 9 = .ok (.iload_n 1, 1) := by decide +kernel
theorem dX2_sumOfRow_10 : decode cX2_sumOfRow 10 = .ok (.iconst 1, 1) := by decide +kernel
theorem dX2_sumOfRow_11 : decode cX2_sumOfRow 11 = .ok (.iadd, 1) := by decide +kernel
theorem dX2_sumOfRow_12 : decode cX2_sumOfRow 12 = .ok (.istore 5, 2) := by decide +kernel
theorem dX2_sumOfRow_14 : decode cX2_sumOfRow 14 = .ok (.iload 5, 2) := by decide +kernel
theorem dX2_sumOfRow_16 : decode cX2_sumOfRow 16 = .ok (.iload 4, 2) := by decide +kernel
theorem dX2_sumOfRow_18 : decode cX2_sumOfRow 18 = .ok (.if_icmp .ge 34, 3) := by decide +kernel
theorem dX2_sumOfRow_21 : decode cX2_sumOfRow 21 = .ok (.iload_n 3, 1) := by decide +kernel
theorem dX2_sumOfRow_22 : decode cX2_sumOfRow 22 = .ok (.aload_n 0, 1) := by decide +kernel
theorem dX2_sumOfRow_23 : decode cX2_sumOfRow 23 = .ok (.iload 5, 2) := by decide +kernel
theorem dX2_sumOfRow_25 : decode cX2_sumOfRow 25 = .ok (.invokevirtual 115, 3) := by decide +kernel
theorem dX2_sumOfRow_28 : decode cX2_sumOfRow 28 = .ok (.ixor, 1) := by decide +kernel
theorem dX2_sumOfRow_29 : decode cX2_sumOfRow 29 = .ok (.istore 6, 2) := by decide +kernel
theorem dX2_sumOfRow_31 : decode cX2_sumOfRow 31 = .ok (.iload 6, 2) := by decide +kernel
theorem dX2_sumOfRow_33 : decode cX2_sumOfRow 33 = .ok (.bipush 7, 2) := by decide +kernel
theorem dX2_sumOfRow_35 : decode cX2_sumOfRow 35 = .ok (.ishl, 1) := by decide +kernel
theorem dX2_sumOfRow_36 : decode cX2_sumOfRow 36 = .ok (.iload 6, 2) := by decide +kernel
theorem dX2_sumOfRow_38 : decode cX2_sumOfRow 38 = .ok (.bipush 25, 2) := by decide +kernel
theorem dX2_sumOfRow_40 : decode cX2_sumOfRow 40 = .ok (.iushr, 1) := by decide +kernel
theorem dX2_sumOfRow_41 : decode cX2_sumOfRow 41 = .ok (.ior, 1) := by decide +kernel
theorem dX2_sumOfRow_42 : decode cX2_sumOfRow 42 = .ok (.ldc 201, 2) := by decide +kernel
theorem dX2_sumOfRow_44 : decode cX2_sumOfRow 44 = .ok (.imul, 1) := by decide +kernel
theorem dX2_sumOfRow_45 : decode cX2_sumOfRow 45 = .ok (.istore_n 3, 1) := by decide +kernel
theorem dX2_sumOfRow_46 : decode cX2_sumOfRow 46 = .ok (.iinc 5 1, 3) := by decide +kernel
theorem dX2_sumOfRow_49 : decode cX2_sumOfRow 49 = .ok (.goto (-35), 3) := by decide +kernel
theorem dX2_sumOfRow_52 : decode cX2_sumOfRow 52 = .ok (.iload_n 3, 1) := by decide +kernel
theorem dX2_sumOfRow_53 : decode cX2_sumOfRow 53 = .ok (.ireturn, 1) := by decide +kernel
theorem dX3_init_0 : decode cX3_init 0 = .ok (.aload_n 0, 1) := by decide +kernel
theorem dX3_init_1 : decode cX3_init 1 = .ok (.invokespecial 1, 3) := by decide +kernel
theorem dX3_init_4 : decode cX3_init 4 = .ok (.aload_n 0, 1) := by decide +kernel
theorem dX3_init_5 : decode cX3_init 5 = .ok (.sipush 2048, 3) := by decide +kernel
theorem dX3_init_8 : decode cX3_init 8 = .ok (.newarray .int, 2) := by decide +kernel
theorem dX3_init_10 : decode cX3_init 10 = .ok (.putfield 7, 3) := by decide +kernel
theorem dX3_init_13 : decode cX3_init 13 = .ok (.aload_n 0, 1) := by decide +kernel
theorem dX3_init_14 : decode cX3_init 14 = .ok (.sipush 2048, 3) := by decide +kernel
theorem dX3_init_17 : decode cX3_init 17 = .ok (.newarray .int, 2) := by decide +kernel
theorem dX3_init_19 : decode cX3_init 19 = .ok (.putfield 13, 3) := by decide +kernel
theorem dX3_init_22 : decode cX3_init 22 = .ok (.aload_n 0, 1) := by decide +kernel
theorem dX3_init_23 : decode cX3_init 23 = .ok (.iconst 1, 1) := by decide +kernel
theorem dX3_init_24 : decode cX3_init 24 = .ok (.putfield 16, 3) := by decide +kernel
theorem dX3_init_27 : decode cX3_init 27 = .ok (.aload_n 0, 1) := by decide +kernel
theorem dX3_init_28 : decode cX3_init 28 = .ok (.sipush 2080, 3) := by decide +kernel
theorem dX3_init_31 : decode cX3_init 31 = .ok (.newarray .int, 2) := by decide +kernel
theorem dX3_init_33 : decode cX3_init 33 = .ok (.putfield 20, 3) := by decide +kernel
theorem dX3_init_36 : decode cX3_init 36 = .ok (.aload_n 0, 1) := by decide +kernel
theorem dX3_init_37 : decode cX3_init 37 = .ok (.sipush 240, 3) := by decide +kernel
theorem dX3_init_40 : decode cX3_init 40 = .ok (.newarray .int, 2) := by decide +kernel
theorem dX3_init_42 : decode cX3_init 42 = .ok (.putfield 23, 3) := by decide +kernel
theorem dX3_init_45 : decode cX3_init 45 = .ok (.aload_n 0, 1) := by decide +kernel
theorem dX3_init_46 : decode cX3_init 46 = .ok (.bipush 20, 2) := by decide +kernel
theorem dX3_init_48 : decode cX3_init 48 = .ok (.newarray .int, 2) := by decide +kernel
theorem dX3_init_50 : decode cX3_init 50 = .ok (.putfield 26, 3) := by decide +kernel
theorem dX3_init_53 : decode cX3_init 53 = .ok (.aload_n 0, 1) := by decide +kernel
theorem dX3_init_54 : decode cX3_init 54 = .ok (.bipush 32, 2) := by decide +kernel
theorem dX3_init_56 : decode cX3_init 56 = .ok (.iload_n 1, 1) := by decide +kernel
theorem dX3_init_57 : decode cX3_init 57 = .ok (.iconst 1, 1) := by decide +kernel
theorem dX3_init_58 : decode cX3_init 58 = .ok (.if_icmp .ge 7, 3) := by decide +kernel
theorem dX3_init_61 : decode cX3_init 61 = .ok (.iconst 1, 1) := by decide +kernel
theorem dX3_init_62 : decode cX3_init 62 = .ok (.goto 15, 3) := by decide +kernel
theorem dX3_init_65 : decode cX3_init 65 = .ok (.iload_n 1, 1) := by decide +kernel
theorem dX3_init_66 : decode cX3_init 66 = .ok (.bipush 64, 2) := by decide +kernel
theorem dX3_init_68 : decode cX3_init 68 = .ok (.if_icmp .le 8, 3) := by decide +kernel
theorem dX3_init_71 : decode cX3_init 71 = .ok (.bipush 64, 2) := by decide +kernel
theorem dX3_init_73 : decode cX3_init 73 = .ok (.goto 4, 3) := by decide +kernel
theorem dX3_init_76 : decode cX3_init 76 = .ok (.iload_n 1, 1) := by decide +kernel
theorem dX3_init_77 : decode cX3_init 77 = .ok (.imul, 1) := by decide +kernel
theorem dX3_init_78 : decode cX3_init 78 = .ok (.putfield 29, 3) := by decide +kernel
theorem dX3_init_81 : decode cX3_init 81 = .ok (.return_, 1) := by decide +kernel
theorem dX3_thrown_0 : decode cX3_thrown 0 = .ok (.aload_n 0, 1) := by decide +kernel
theorem dX3_thrown_1 : decode cX3_thrown 1 = .ok (.getfield 33, 3) := by decide +kernel
theorem dX3_thrown_4 : decode cX3_thrown 4 = .ok (.ireturn, 1) := by decide +kernel
theorem dX3_within_0 : decode cX3_within 0 = .ok (.iload_n 0, 1) := by decide +kernel
theorem dX3_within_1 : decode cX3_within 1 = .ok (.iload_n 1, 1) := by decide +kernel
theorem dX3_within_2 : decode cX3_within 2 = .ok (.if_icmp .lt 12, 3) := by decide +kernel
theorem dX3_within_5 : decode cX3_within 5 = .ok (.iload_n 0, 1) := by decide +kernel
theorem dX3_within_6 : decode cX3_within 6 = .ok (.iload_n 2, 1) := by decide +kernel
theorem dX3_within_7 : decode cX3_within 7 = .ok (.if_icmp .gt 7, 3) := by decide +kernel
theorem dX3_within_10 : decode cX3_within 10 = .ok (.iconst 1, 1) := by decide +kernel
theorem dX3_within_11 : decode cX3_within 11 = .ok (.goto 4, 3) := by decide +kernel
theorem dX3_within_14 : decode cX3_within 14 = .ok (.iconst 0, 1) := by decide +kernel
theorem dX3_within_15 : decode cX3_within 15 = .ok (.ireturn, 1) := by decide +kernel
theorem dX3_kindOf_0 : decode cX3_kindOf 0 = .ok (.aload_n 0, 1) := by decide +kernel
theorem dX3_kindOf_1 : decode cX3_kindOf 1 = .ok (.getfield 20, 3) := by decide +kernel
theorem dX3_kindOf_4 : decode cX3_kindOf 4 = .ok (.aload_n 0, 1) := by decide +kernel
theorem dX3_kindOf_5 : decode cX3_kindOf 5 = .ok (.getfield 23, 3) := by decide +kernel
theorem dX3_kindOf_8 : decode cX3_kindOf 8 = .ok (.iload_n 1, 1) := by decide +kernel
theorem dX3_kindOf_9 : decode cX3_kindOf 9 = .ok (.iaload, 1) := by decide +kernel
theorem dX3_kindOf_10 : decode cX3_kindOf 10 = .ok (.iconst 1, 1) := by decide +kernel
theorem dX3_kindOf_11 : decode cX3_kindOf 11 = .ok (.iadd, 1) := by decide +kernel
theorem dX3_kindOf_12 : decode cX3_kindOf 12 = .ok (.iaload, 1) := by decide +kernel
theorem dX3_kindOf_13 : decode cX3_kindOf 13 = .ok (.ireturn, 1) := by decide +kernel
theorem dX3_longOf_0 : decode cX3_longOf 0 = .ok (.aload_n 0, 1) := by decide +kernel
theorem dX3_longOf_1 : decode cX3_longOf 1 = .ok (.getfield 20, 3) := by decide +kernel
theorem dX3_longOf_4 : decode cX3_longOf 4 = .ok (.aload_n 0, 1) := by decide +kernel
theorem dX3_longOf_5 : decode cX3_longOf 5 = .ok (.getfield 23, 3) := by decide +kernel
theorem dX3_longOf_8 : decode cX3_longOf 8 = .ok (.iload_n 1, 1) := by decide +kernel
theorem dX3_longOf_9 : decode cX3_longOf 9 = .ok (.iaload, 1) := by decide +kernel
theorem dX3_longOf_10 : decode cX3_longOf 10 = .ok (.iconst 4, 1) := by decide +kernel
theorem dX3_longOf_11 : decode cX3_longOf 11 = .ok (.iadd, 1) := by decide +kernel
theorem dX3_longOf_12 : decode cX3_longOf 12 = .ok (.iaload, 1) := by decide +kernel
theorem dX3_longOf_13 : decode cX3_longOf 13 = .ok (.ireturn, 1) := by decide +kernel
set_option maxRecDepth 20000 in
theorem ggX3_rowsOf_X3_kindOf : GoodIn wsX3_rowsOf wsX3_kindOf := goodIn_r _ [5, 6, 7, 8, 9, 10, 11, 12, 13, 14, 15, 16, 17, 18, 19, 20] (by decide +kernel) (by decide +kernel)
set_option maxRecDepth 20000 in
theorem gX3_rowsOf_X3_kindOf : GoodIn wsX3_rowsOf (wsV RX3 36 RX3 yX3_kindOf wsX3_kindOf) := goodIn_app (goodIn_of _ (by decide +kernel)) ggX3_rowsOf_X3_kindOf
theorem dX3_rowsOf_0 : decode cX3_rowsOf 0 = .ok (.iconst 0, 1) := by decide +kernel
theorem dX3_rowsOf_1 : decode cX3_rowsOf 1 = .ok (.istore_n 3, 1) := by decide +kernel
theorem dX3_rowsOf_2 : decode cX3_rowsOf 2 = .ok (.iconst 0, 1) := by decide +kernel
theorem dX3_rowsOf_3 : decode cX3_rowsOf 3 = .ok (.istore 4, 2) := by decide +kernel
theorem dX3_rowsOf_5 : decode cX3_rowsOf 5 = .ok (.iload 4, 2) := by decide +kernel
theorem dX3_rowsOf_7 : decode cX3_rowsOf 7 = .ok (.iload_n 2, 1) := by decide +kernel
theorem dX3_rowsOf_8 : decode cX3_rowsOf 8 = .ok (.if_icmp .ge 22, 3) := by decide +kernel
theorem dX3_rowsOf_11 : decode cX3_rowsOf 11 = .ok (.aload_n 0, 1) := by decide +kernel
theorem dX3_rowsOf_12 : decode cX3_rowsOf 12 = .ok (.iload 4, 2) := by decide +kernel
theorem dX3_rowsOf_14 : decode cX3_rowsOf 14 = .ok (.invokevirtual 36, 3) := by decide +kernel
theorem dX3_rowsOf_17 : decode cX3_rowsOf 17 = .ok (.iload_n 1, 1) := by decide +kernel
theorem dX3_rowsOf_18 : decode cX3_rowsOf 18 = .ok (.if_icmp .ne 6, 3) := by decide +kernel
theorem dX3_rowsOf_21 : decode cX3_rowsOf 21 = .ok (.iinc 3 1, 3) := by decide +kernel
theorem dX3_rowsOf_24 : decode cX3_rowsOf 24 = .ok (.iinc 4 1, 3) := by decide +kernel
theorem dX3_rowsOf_27 : decode cX3_rowsOf 27 = .ok (.goto (-22), 3) := by decide +kernel
theorem dX3_rowsOf_30 : decode cX3_rowsOf 30 = .ok (.iload_n 3, 1) := by decide +kernel
theorem dX3_rowsOf_31 : decode cX3_rowsOf 31 = .ok (.ireturn, 1) := by decide +kernel
theorem dX3_sumOf_0 : decode cX3_sumOf 0 = .ok (.iconst 1, 1) := by decide +kernel
theorem dX3_sumOf_1 : decode cX3_sumOf 1 = .ok (.istore_n 3, 1) := by decide +kernel
theorem dX3_sumOf_2 : decode cX3_sumOf 2 = .ok (.iload_n 1, 1) := by decide +kernel
theorem dX3_sumOf_3 : decode cX3_sumOf 3 = .ok (.istore 4, 2) := by decide +kernel
theorem dX3_sumOf_5 : decode cX3_sumOf 5 = .ok (.iload 4, 2) := by decide +kernel
theorem dX3_sumOf_7 : decode cX3_sumOf 7 = .ok (.iload_n 2, 1) := by decide +kernel
theorem dX3_sumOf_8 : decode cX3_sumOf 8 = .ok (.if_icmp .ge 31, 3) := by decide +kernel
theorem dX3_sumOf_11 : decode cX3_sumOf 11 = .ok (.iload_n 3, 1) := by decide +kernel
theorem dX3_sumOf_12 : decode cX3_sumOf 12 = .ok (.aload_n 0, 1) := by decide +kernel
theorem dX3_sumOf_13 : decode cX3_sumOf 13 = .ok (.iload 4, 2) := by decide +kernel
theorem dX3_sumOf_15 : decode cX3_sumOf 15 = .ok (.iaload, 1) := by decide +kernel
theorem dX3_sumOf_16 : decode cX3_sumOf 16 = .ok (.ixor, 1) := by decide +kernel
theorem dX3_sumOf_17 : decode cX3_sumOf 17 = .ok (.istore_n 3, 1) := by decide +kernel
theorem dX3_sumOf_18 : decode cX3_sumOf 18 = .ok (.iload_n 3, 1) := by decide +kernel
theorem dX3_sumOf_19 : decode cX3_sumOf 19 = .ok (.bipush 7, 2) := by decide +kernel
theorem dX3_sumOf_21 : decode cX3_sumOf 21 = .ok (.ishl, 1) := by decide +kernel
theorem dX3_sumOf_22 : decode cX3_sumOf 22 = .ok (.iload_n 3, 1) := by decide +kernel
theorem dX3_sumOf_23 : decode cX3_sumOf 23 = .ok (.bipush 25, 2) := by decide +kernel
theorem dX3_sumOf_25 : decode cX3_sumOf 25 = .ok (.iushr, 1) := by decide +kernel
theorem dX3_sumOf_26 : decode cX3_sumOf 26 = .ok (.ior, 1) := by decide +kernel
theorem dX3_sumOf_27 : decode cX3_sumOf 27 = .ok (.istore_n 3, 1) := by decide +kernel
theorem dX3_sumOf_28 : decode cX3_sumOf 28 = .ok (.iload_n 3, 1) := by decide +kernel
theorem dX3_sumOf_29 : decode cX3_sumOf 29 = .ok (.ldc 40, 2) := by decide +kernel
theorem dX3_sumOf_31 : decode cX3_sumOf 31 = .ok (.imul, 1) := by decide +kernel
theorem dX3_sumOf_32 : decode cX3_sumOf 32 = .ok (.istore_n 3, 1) := by decide +kernel
theorem dX3_sumOf_33 : decode cX3_sumOf 33 = .ok (.iinc 4 1, 3) := by decide +kernel
theorem dX3_sumOf_36 : decode cX3_sumOf 36 = .ok (.goto (-31), 3) := by decide +kernel
theorem dX3_sumOf_39 : decode cX3_sumOf 39 = .ok (.iload_n 3, 1) := by decide +kernel
theorem dX3_sumOf_40 : decode cX3_sumOf 40 = .ok (.ireturn, 1) := by decide +kernel
theorem dX3_isFull_0 : decode cX3_isFull 0 = .ok (.aload_n 0, 1) := by decide +kernel
theorem dX3_isFull_1 : decode cX3_isFull 1 = .ok (.getfield 23, 3) := by decide +kernel
theorem dX3_isFull_4 : decode cX3_isFull 4 = .ok (.aload_n 0, 1) := by decide +kernel
theorem dX3_isFull_5 : decode cX3_isFull 5 = .ok (.getfield 41, 3) := by decide +kernel
theorem dX3_isFull_8 : decode cX3_isFull 8 = .ok (.iaload, 1) := by decide +kernel
theorem dX3_isFull_9 : decode cX3_isFull 9 = .ok (.bipush 9, 2) := by decide +kernel
theorem dX3_isFull_11 : decode cX3_isFull 11 = .ok (.iadd, 1) := by decide +kernel
theorem dX3_isFull_12 : decode cX3_isFull 12 = .ok (.iload_n 1, 1) := by decide +kernel
theorem dX3_isFull_13 : decode cX3_isFull 13 = .ok (.iadd, 1) := by decide +kernel
theorem dX3_isFull_14 : decode cX3_isFull 14 = .ok (.aload_n 0, 1) := by decide +kernel
theorem dX3_isFull_15 : decode cX3_isFull 15 = .ok (.getfield 29, 3) := by decide +kernel
theorem dX3_isFull_18 : decode cX3_isFull 18 = .ok (.if_icmp .le 7, 3) := by decide +kernel
theorem dX3_isFull_21 : decode cX3_isFull 21 = .ok (.iconst 1, 1) := by decide +kernel
theorem dX3_isFull_22 : decode cX3_isFull 22 = .ok (.goto 4, 3) := by decide +kernel
theorem dX3_isFull_25 : decode cX3_isFull 25 = .ok (.iconst 0, 1) := by decide +kernel
theorem dX3_isFull_26 : decode cX3_isFull 26 = .ok (.ireturn, 1) := by decide +kernel
theorem dX3_head_0 : decode cX3_head 0 = .ok (.aload_n 0, 1) := by decide +kernel
theorem dX3_head_1 : decode cX3_head 1 = .ok (.getfield 23, 3) := by decide +kernel
theorem dX3_head_4 : decode cX3_head 4 = .ok (.aload_n 0, 1) := by decide +kernel
theorem dX3_head_5 : decode cX3_head 5 = .ok (.getfield 41, 3) := by decide +kernel
theorem dX3_head_8 : decode cX3_head 8 = .ok (.iaload, 1) := by decide +kernel
theorem dX3_head_9 : decode cX3_head 9 = .ok (.istore_n 3, 1) := by decide +kernel
theorem dX3_head_10 : decode cX3_head 10 = .ok (.aload_n 0, 1) := by decide +kernel
theorem dX3_head_11 : decode cX3_head 11 = .ok (.getfield 20, 3) := by decide +kernel
theorem dX3_head_14 : decode cX3_head 14 = .ok (.iload_n 3, 1) := by decide +kernel
theorem dX3_head_15 : decode cX3_head 15 = .ok (.bipush 90, 2) := by decide +kernel
theorem dX3_head_17 : decode cX3_head 17 = .ok (.iastore, 1) := by decide +kernel
theorem dX3_head_18 : decode cX3_head 18 = .ok (.aload_n 0, 1) := by decide +kernel
theorem dX3_head_19 : decode cX3_head 19 = .ok (.getfield 20, 3) := by decide +kernel
theorem dX3_head_22 : decode cX3_head 22 = .ok (.iload_n 3, 1) := by decide +kernel
theorem dX3_head_23 : decode cX3_head 23 = .ok (.iconst 1, 1) := by decide +kernel
theorem dX3_head_24 : decode cX3_head 24 = .ok (.iadd, 1) := by decide +kernel
theorem dX3_head_25 : decode cX3_head 25 = .ok (.iload_n 1, 1) := by decide +kernel
theorem dX3_head_26 : decode cX3_head 26 = .ok (.iastore, 1) := by decide +kernel
theorem dX3_head_27 : decode cX3_head 27 = .ok (.aload_n 0, 1) := by decide +kernel
theorem dX3_head_28 : decode cX3_head 28 = .ok (.getfield 20, 3) := by decide +kernel
theorem dX3_head_31 : decode cX3_head 31 = .ok (.iload_n 3, 1) := by decide +kernel
theorem dX3_head_32 : decode cX3_head 32 = .ok (.iconst 2, 1) := by decide +kernel
theorem dX3_head_33 : decode cX3_head 33 = .ok (.iadd, 1) := by decide +kernel
theorem dX3_head_34 : decode cX3_head 34 = .ok (.aload_n 0, 1) := by decide +kernel
theorem dX3_head_35 : decode cX3_head 35 = .ok (.getfield 41, 3) := by decide +kernel
theorem dX3_head_38 : decode cX3_head 38 = .ok (.iconst 1, 1) := by decide +kernel
theorem dX3_head_39 : decode cX3_head 39 = .ok (.iadd, 1) := by decide +kernel
theorem dX3_head_40 : decode cX3_head 40 = .ok (.bipush 8, 2) := by decide +kernel
theorem dX3_head_42 : decode cX3_head 42 = .ok (.ishr, 1) := by decide +kernel
theorem dX3_head_43 : decode cX3_head 43 = .ok (.iastore, 1) := by decide +kernel
theorem dX3_head_44 : decode cX3_head 44 = .ok (.aload_n 0, 1) := by decide +kernel
theorem dX3_head_45 : decode cX3_head 45 = .ok (.getfield 20, 3) := by decide +kernel
theorem dX3_head_48 : decode cX3_head 48 = .ok (.iload_n 3, 1) := by decide +kernel
theorem dX3_head_49 : decode cX3_head 49 = .ok (.iconst 3, 1) := by decide +kernel
theorem dX3_head_50 : decode cX3_head 50 = .ok (.iadd, 1) := by decide +kernel
theorem dX3_head_51 : decode cX3_head 51 = .ok (.aload_n 0, 1) := by decide +kernel
theorem dX3_head_52 : decode cX3_head 52 = .ok (.getfield 41, 3) := by decide +kernel
theorem dX3_head_55 : decode cX3_head 55 = .ok (.iconst 1, 1) := by decide +kernel
theorem dX3_head_56 : decode cX3_head 56 = .ok (.iadd, 1) := by decide +kernel
theorem dX3_head_57 : decode cX3_head 57 = .ok (.sipush 255, 3) := by decide +kernel
theorem dX3_head_60 : decode cX3_head 60 = .ok (.iand, 1) := by decide +kernel
theorem dX3_head_61 : decode cX3_head 61 = .ok (.iastore, 1) := by decide +kernel
theorem dX3_head_62 : decode cX3_head 62 = .ok (.aload_n 0, 1) := by decide +kernel
theorem dX3_head_63 : decode cX3_head 63 = .ok (.getfield 20, 3) := by decide +kernel
theorem dX3_head_66 : decode cX3_head 66 = .ok (.iload_n 3, 1) := by decide +kernel
theorem dX3_head_67 : decode cX3_head 67 = .ok (.iconst 4, 1) := by decide +kernel
theorem dX3_head_68 : decode cX3_head 68 = .ok (.iadd, 1) := by decide +kernel
theorem dX3_head_69 : decode cX3_head 69 = .ok (.iload_n 2, 1) := by decide +kernel
theorem dX3_head_70 : decode cX3_head 70 = .ok (.iastore, 1) := by decide +kernel
theorem dX3_head_71 : decode cX3_head 71 = .ok (.iload_n 3, 1) := by decide +kernel
theorem dX3_head_72 : decode cX3_head 72 = .ok (.iconst 5, 1) := by decide +kernel
theorem dX3_head_73 : decode cX3_head 73 = .ok (.iadd, 1) := by decide +kernel
theorem dX3_head_74 : decode cX3_head 74 = .ok (.ireturn, 1) := by decide +kernel
set_option maxRecDepth 20000 in
theorem ggX3_close_X3_sumOf : GoodIn wsX3_close wsX3_sumOf := goodIn_r _ [7, 8] (by decide +kernel) (by decide +kernel)
set_option maxRecDepth 20000 in
theorem gX3_close_X3_sumOf : GoodIn wsX3_close (va_wsS RX3 44 yX3_sumOf wsX3_sumOf) := goodIn_app (goodIn_of _ (by decide +kernel)) ggX3_close_X3_sumOf
theorem dX3_close_0 : decode cX3_close 0 = .ok (.aload_n 0, 1) := by decide +kernel
theorem dX3_close_1 : decode cX3_close 1 = .ok (.getfield 20, 3) := by decide +kernel
theorem dX3_close_4 : decode cX3_close 4 = .ok (.aload_n 0, 1) := by decide +kernel
theorem dX3_close_5 : decode cX3_close 5 = .ok (.getfield 23, 3) := by decide +kernel
theorem dX3_close_8 : decode cX3_close 8 = .ok (.aload_n 0, 1) := by decide +kernel
theorem dX3_close_9 : decode cX3_close 9 = .ok (.getfield 41, 3) := by decide +kernel
theorem dX3_close_12 : decode cX3_close 12 = .ok (.iaload, 1) := by decide +kernel
theorem dX3_close_13 : decode cX3_close 13 = .ok (.iconst 1, 1) := by decide +kernel
theorem dX3_close_14 : decode cX3_close 14 = .ok (.iadd, 1) := by decide +kernel
theorem dX3_close_15 : decode cX3_close 15 = .ok (.iload_n 1, 1) := by decide +kernel
theorem dX3_close_16 : decode cX3_close 16 = .ok (.invokestatic 44, 3) := by decide +kernel
theorem dX3_close_19 : decode cX3_close 19 = .ok (.istore_n 2, 1) := by decide +kernel
theorem dX3_close_20 : decode cX3_close 20 = .ok (.iconst 0, 1) := by decide +kernel
theorem dX3_close_21 : decode cX3_close 21 = .ok (.istore_n 3, 1) := by decide +kernel
theorem dX3_close_22 : decode cX3_close 22 = .ok (.iload_n 3, 1) := by decide +kernel
theorem dX3_close_23 : decode cX3_close 23 = .ok (.iconst 4, 1) := by decide +kernel
theorem dX3_close_24 : decode cX3_close 24 = .ok (.if_icmp .ge 30, 3) := by decide +kernel
theorem dX3_close_27 : decode cX3_close 27 = .ok (.aload_n 0, 1) := by decide +kernel
theorem dX3_close_28 : decode cX3_close 28 = .ok (.getfield 20, 3) := by decide +kernel
theorem dX3_close_31 : decode cX3_close 31 = .ok (.iload_n 1, 1) := by decide +kernel
theorem dX3_close_32 : decode cX3_close 32 = .ok (.iload_n 3, 1) := by decide +kernel
theorem dX3_close_33 : decode cX3_close 33 = .ok (.iadd, 1) := by decide +kernel
theorem dX3_close_34 : decode cX3_close 34 = .ok (.iload_n 2, 1) := by decide +kernel
theorem dX3_close_35 : decode cX3_close 35 = .ok (.bipush 24, 2) := by decide +kernel
theorem dX3_close_37 : decode cX3_close 37 = .ok (.bipush 8, 2) := by decide +kernel
theorem dX3_close_39 : decode cX3_close 39 = .ok (.iload_n 3, 1) := by decide +kernel
theorem dX3_close_40 : decode cX3_close 40 = .ok (.imul, 1) := by decide +kernel
theorem dX3_close_41 : decode cX3_close 41 = .ok (.isub, 1) := by decide +kernel
theorem dX3_close_42 : decode cX3_close 42 = .ok (.iushr, 1) := by decide +kernel
theorem dX3_close_43 : decode cX3_close 43 = .ok (.sipush 255, 3) := by decide +kernel
theorem dX3_close_46 : decode cX3_close 46 = .ok (.iand, 1) := by decide +kernel
theorem dX3_close_47 : decode cX3_close 47 = .ok (.iastore, 1) := by decide +kernel
theorem dX3_close_48 : decode cX3_close 48 = .ok (.iinc 3 1, 3) := by decide +kernel
theorem dX3_close_51 : decode cX3_close 51 = .ok (.goto (-29), 3) := by decide +kernel
theorem dX3_close_54 : decode cX3_close 54 = .ok (.aload_n 0, 1) := by decide +kernel
theorem dX3_close_55 : decode cX3_close 55 = .ok (.dup, 1) := by decide +kernel
theorem dX3_close_56 : decode cX3_close 56 = .ok (.getfield 41, 3) := by decide +kernel
theorem dX3_close_59 : decode cX3_close 59 = .ok (.iconst 1, 1) := by decide +kernel
theorem dX3_close_60 : decode cX3_close 60 = .ok (.iadd, 1) := by decide +kernel
theorem dX3_close_61 : decode cX3_close 61 = .ok (.putfield 41, 3) := by decide +kernel
theorem dX3_close_64 : decode cX3_close 64 = .ok (.aload_n 0, 1) := by decide +kernel
theorem dX3_close_65 : decode cX3_close 65 = .ok (.getfield 23, 3) := by decide +kernel
theorem dX3_close_68 : decode cX3_close 68 = .ok (.aload_n 0, 1) := by decide +kernel
theorem dX3_close_69 : decode cX3_close 69 = .ok (.getfield 41, 3) := by decide +kernel
theorem dX3_close_72 : decode cX3_close 72 = .ok (.iload_n 1, 1) := by decide +kernel
theorem dX3_close_73 : decode cX3_close 73 = .ok (.iconst 4, 1) := by decide +kernel
theorem dX3_close_74 : decode cX3_close 74 = .ok (.iadd, 1) := by decide +kernel
theorem dX3_close_75 : decode cX3_close 75 = .ok (.iastore, 1) := by decide +kernel
theorem dX3_close_76 : decode cX3_close 76 = .ok (.return_, 1) := by decide +kernel
set_option maxRecDepth 20000 in
theorem ggX3_add_X3_within : GoodIn wsX3_add wsX3_within := goodIn_r _ [8] (by decide +kernel) (by decide +kernel)
set_option maxRecDepth 20000 in
theorem gX3_add_X3_within : GoodIn wsX3_add (va_wsS RX3 48 yX3_within wsX3_within) := goodIn_app (goodIn_of _ (by decide +kernel)) ggX3_add_X3_within
theorem dX3_add_0 : decode cX3_add 0 = .ok (.aload_n 0, 1) := by decide +kernel
theorem dX3_add_1 : decode cX3_add 1 = .ok (.iload_n 1, 1) := by decide +kernel
theorem dX3_add_2 : decode cX3_add 2 = .ok (.iconst 0, 1) := by decide +kernel
theorem dX3_add_3 : decode cX3_add 3 = .ok (.sipush 255, 3) := by decide +kernel
theorem dX3_add_6 : decode cX3_add 6 = .ok (.invokestatic 48, 3) := by decide +kernel
theorem dX3_add_9 : decode cX3_add 9 = .ok (.ifCond .ne 7, 3) := by decide +kernel
theorem dX3_add_12 : decode cX3_add 12 = .ok (.iconst 1, 1) := by decide +kernel
theorem dX3_add_13 : decode cX3_add 13 = .ok (.goto 28, 3) := by decide +kernel
theorem dX3_add_16 : decode cX3_add 16 = .ok (.aload_n 0, 1) := by decide +kernel
theorem dX3_add_17 : decode cX3_add 17 = .ok (.getfield 16, 3) := by decide +kernel
theorem dX3_add_20 : decode cX3_add 20 = .ok (.ifCond .ne 7, 3) := by decide +kernel
theorem dX3_add_23 : decode cX3_add 23 = .ok (.iconst 2, 1) := by decide +kernel
theorem dX3_add_24 : decode cX3_add 24 = .ok (.goto 17, 3) := by decide +kernel
theorem dX3_add_27 : decode cX3_add 27 = .ok (.aload_n 0, 1) := by decide +kernel
theorem dX3_add_28 : decode cX3_add 28 = .ok (.getfield 52, 3) := by decide +kernel
theorem dX3_add_31 : decode cX3_add 31 = .ok (.bipush 20, 2) := by decide +kernel
theorem dX3_add_33 : decode cX3_add 33 = .ok (.if_icmp .ne 7, 3) := by decide +kernel
theorem dX3_add_36 : decode cX3_add 36 = .ok (.iconst 3, 1) := by decide +kernel
theorem dX3_add_37 : decode cX3_add 37 = .ok (.goto 4, 3) := by decide +kernel
theorem dX3_add_40 : decode cX3_add 40 = .ok (.iconst 0, 1) := by decide +kernel
theorem dX3_add_41 : decode cX3_add 41 = .ok (.putfield 33, 3) := by decide +kernel
theorem dX3_add_44 : decode cX3_add 44 = .ok (.aload_n 0, 1) := by decide +kernel
theorem dX3_add_45 : decode cX3_add 45 = .ok (.getfield 33, 3) := by decide +kernel
theorem dX3_add_48 : decode cX3_add 48 = .ok (.ifCond .eq 5, 3) := by decide +kernel
theorem dX3_add_51 : decode cX3_add 51 = .ok (.iconst 0, 1) := by decide +kernel
theorem dX3_add_52 : decode cX3_add 52 = .ok (.ireturn, 1) := by decide +kernel
theorem dX3_add_53 : decode cX3_add 53 = .ok (.aload_n 0, 1) := by decide +kernel
theorem dX3_add_54 : decode cX3_add 54 = .ok (.getfield 26, 3) := by decide +kernel
theorem dX3_add_57 : decode cX3_add 57 = .ok (.aload_n 0, 1) := by decide +kernel
theorem dX3_add_58 : decode cX3_add 58 = .ok (.getfield 52, 3) := by decide +kernel
theorem dX3_add_61 : decode cX3_add 61 = .ok (.iload_n 1, 1) := by decide +kernel
theorem dX3_add_62 : decode cX3_add 62 = .ok (.iastore, 1) := by decide +kernel
