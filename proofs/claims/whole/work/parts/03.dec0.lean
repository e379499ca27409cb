theorem dX0_init_0 : decode cX0_init 0 = .ok (.aload_n 0, 1) := by decide +kernel
theorem dX0_init_1 : decode cX0_init 1 = .ok (.invokespecial 3, 3) := by decide +kernel
theorem dX0_init_4 : decode cX0_init 4 = .ok (.aload_n 0, 1) := by decide +kernel
theorem dX0_init_5 : decode cX0_init 5 = .ok (.iconst 0, 1) := by decide +kernel
theorem dX0_init_6 : decode cX0_init 6 = .ok (.iload_n 1, 1) := by decide +kernel
theorem dX0_init_7 : decode cX0_init 7 = .ok (.invokestatic 9, 3) := by decide +kernel
theorem dX0_init_10 : decode cX0_init 10 = .ok (.newarray .int, 2) := by decide +kernel
theorem dX0_init_12 : decode cX0_init 12 = .ok (.putfield 15, 3) := by decide +kernel
theorem dX0_init_15 : decode cX0_init 15 = .ok (.return_, 1) := by decide +kernel
theorem dX0_length_0 : decode cX0_length 0 = .ok (.aload_n 0, 1) := by decide +kernel
theorem dX0_length_1 : decode cX0_length 1 = .ok (.getfield 15, 3) := by decide +kernel
theorem dX0_length_4 : decode cX0_length 4 = .ok (.arraylength, 1) := by decide +kernel
theorem dX0_length_5 : decode cX0_length 5 = .ok (.ireturn, 1) := by decide +kernel
theorem dX0_at_0 : decode cX0_at 0 = .ok (.iload_n 1, 1) := by decide +kernel
theorem dX0_at_1 : decode cX0_at 1 = .ok (.ifCond .lt 21, 3) := by decide +kernel
theorem dX0_at_4 : decode cX0_at 4 = .ok (.iload_n 1, 1) := by decide +kernel
theorem dX0_at_5 : decode cX0_at 5 = .ok (.aload_n 0, 1) := by decide +kernel
theorem dX0_at_6 : decode cX0_at 6 = .ok (.getfield 15, 3) := by decide +kernel
theorem dX0_at_9 : decode cX0_at 9 = .ok (.arraylength, 1) := by decide +kernel
theorem dX0_at_10 : decode cX0_at 10 = .ok (.if_icmp .ge 12, 3) := by decide +kernel
theorem dX0_at_13 : decode cX0_at 13 = .ok (.aload_n 0, 1) := by decide +kernel
theorem dX0_at_14 : decode cX0_at 14 = .ok (.getfield 15, 3) := by decide +kernel
theorem dX0_at_17 : decode cX0_at 17 = .ok (.iload_n 1, 1) := by decide +kernel
theorem dX0_at_18 : decode cX0_at 18 = .ok (.iaload, 1) := by decide +kernel
theorem dX0_at_19 : decode cX0_at 19 = .ok (.goto 4, 3) := by decide +kernel
theorem dX0_at_22 : decode cX0_at 22 = .ok (.iconst 0, 1) := by decide +kernel
theorem dX0_at_23 : decode cX0_at 23 = .ok (.ireturn, 1) := by decide +kernel
theorem dX0_set_0 : decode cX0_set 0 = .ok (.iload_n 1, 1) := by decide +kernel
theorem dX0_set_1 : decode cX0_set 1 = .ok (.ifCond .lt 19, 3) := by decide +kernel
theorem dX0_set_4 : decode cX0_set 4 = .ok (.iload_n 1, 1) := by decide +kernel
theorem dX0_set_5 : decode cX0_set 5 = .ok (.aload_n 0, 1) := by decide +kernel
theorem dX0_set_6 : decode cX0_set 6 = .ok (.getfield 15, 3) := by decide +kernel
theorem dX0_set_9 : decode cX0_set 9 = .ok (.arraylength, 1) := by decide +kernel
theorem dX0_set_10 : decode cX0_set 10 = .ok (.if_icmp .ge 10, 3) := by decide +kernel
theorem dX0_set_13 : decode cX0_set 13 = .ok (.aload_n 0, 1) := by decide +kernel
theorem dX0_set_14 : decode cX0_set 14 = .ok (.getfield 15, 3) := by decide +kernel
theorem dX0_set_17 : decode cX0_set 17 = .ok (.iload_n 1, 1) := by decide +kernel
theorem dX0_set_18 : decode cX0_set 18 = .ok (.iload_n 2, 1) := by decide +kernel
theorem dX0_set_19 : decode cX0_set 19 = .ok (.iastore, 1) := by decide +kernel
theorem dX0_set_20 : decode cX0_set 20 = .ok (.return_, 1) := by decide +kernel
set_option maxRecDepth 20000 in
theorem ggX0_copy_X0_at : GoodIn wsX0_copy wsX0_at := goodIn_r _ [5, 6, 11] (by decide +kernel) (by decide +kernel)
set_option maxRecDepth 20000 in
theorem gX0_copy_X0_at : GoodIn wsX0_copy (wsV RX0 21 RX0 yX0_at wsX0_at) := goodIn_app (goodIn_of _ (by decide +kernel)) ggX0_copy_X0_at
set_option maxRecDepth 20000 in
theorem ggX0_copy_X0_set : GoodIn wsX0_copy wsX0_set := goodIn_r _ [10, 6, 11] (by decide +kernel) (by decide +kernel)
set_option maxRecDepth 20000 in
theorem gX0_copy_X0_set : GoodIn wsX0_copy (wsV RX0 25 RX0 yX0_set wsX0_set) := goodIn_app (goodIn_of _ (by decide +kernel)) ggX0_copy_X0_set
theorem dX0_copy_0 : decode cX0_copy 0 = .ok (.iload_n 2, 1) := by decide +kernel
theorem dX0_copy_1 : decode cX0_copy 1 = .ok (.istore 4, 2) := by decide +kernel
theorem dX0_copy_3 : decode cX0_copy 3 = .ok (.iload 4, 2) := by decide +kernel
theorem dX0_copy_5 : decode cX0_copy 5 = .ok (.iload_n 3, 1) := by decide +kernel
theorem dX0_copy_6 : decode cX0_copy 6 = .ok (.if_icmp .ge 21, 3) := by decide +kernel
theorem dX0_copy_9 : decode cX0_copy 9 = .ok (.aload_n 0, 1) := by decide +kernel
theorem dX0_copy_10 : decode cX0_copy 10 = .ok (.iload 4, 2) := by decide +kernel
theorem dX0_copy_12 : decode cX0_copy 12 = .ok (.aload_n 1, 1) := by decide +kernel
theorem dX0_copy_13 : decode cX0_copy 13 = .ok (.iload 4, 2) := by decide +kernel
theorem dX0_copy_15 : decode cX0_copy 15 = .ok (.invokevirtual 21, 3) := by decide +kernel
theorem dX0_copy_18 : decode cX0_copy 18 = .ok (.invokevirtual 25, 3) := by decide +kernel
theorem dX0_copy_21 : decode cX0_copy 21 = .ok (.iinc 4 1, 3) := by decide +kernel
theorem dX0_copy_24 : decode cX0_copy 24 = .ok (.goto (-21), 3) := by decide +kernel
theorem dX0_copy_27 : decode cX0_copy 27 = .ok (.return_, 1) := by decide +kernel
set_option maxRecDepth 20000 in
theorem ggX0_isZeroFrom_X0_at : GoodIn wsX0_isZeroFrom wsX0_at := goodIn_r _ [6, 1, 7] (by decide +kernel) (by decide +kernel)
set_option maxRecDepth 20000 in
theorem gX0_isZeroFrom_X0_at : GoodIn wsX0_isZeroFrom (wsV RX0 21 RX0 yX0_at wsX0_at) := goodIn_app (goodIn_of _ (by decide +kernel)) ggX0_isZeroFrom_X0_at
theorem dX0_isZeroFrom_0 : decode cX0_isZeroFrom 0 = .ok (.iload_n 1, 1) := by decide +kernel
theorem dX0_isZeroFrom_1 : decode cX0_isZeroFrom 1 = .ok (.istore_n 2, 1) := by decide +kernel
theorem dX0_isZeroFrom_2 : decode cX0_isZeroFrom 2 = .ok (.iload_n 2, 1) := by decide +kernel
theorem dX0_isZeroFrom_3 : decode cX0_isZeroFrom 3 = .ok (.aload_n 0, 1) := by decide +kernel
theorem dX0_isZeroFrom_4 : decode cX0_isZeroFrom 4 = .ok (.getfield 15, 3) := by decide +kernel
theorem dX0_isZeroFrom_7 : decode cX0_isZeroFrom 7 = .ok (.arraylength, 1) := by decide +kernel
theorem dX0_isZeroFrom_8 : decode cX0_isZeroFrom 8 = .ok (.if_icmp .ge 19, 3) := by decide +kernel
theorem dX0_isZeroFrom_11 : decode cX0_isZeroFrom 11 = .ok (.aload_n 0, 1) := by decide +kernel
theorem dX0_isZeroFrom_12 : decode cX0_isZeroFrom 12 = .ok (.iload_n 2, 1) := by decide +kernel
theorem dX0_isZeroFrom_13 : decode cX0_isZeroFrom 13 = .ok (.invokevirtual 21, 3) := by decide +kernel
theorem dX0_isZeroFrom_16 : decode cX0_isZeroFrom 16 = .ok (.ifCond .eq 5, 3) := by decide +kernel
theorem dX0_isZeroFrom_19 : decode cX0_isZeroFrom 19 = .ok (.iconst 0, 1) := by decide +kernel
theorem dX0_isZeroFrom_20 : decode cX0_isZeroFrom 20 = .ok (.ireturn, 1) := by decide +kernel
theorem dX0_isZeroFrom_21 : decode cX0_isZeroFrom 21 = .ok (.iinc 2 1, 3) := by decide +kernel
theorem dX0_isZeroFrom_24 : decode cX0_isZeroFrom 24 = .ok (.goto (-22), 3) := by decide +kernel
theorem dX0_isZeroFrom_27 : decode cX0_isZeroFrom 27 = .ok (.iconst 1, 1) := by decide +kernel
theorem dX0_isZeroFrom_28 : decode cX0_isZeroFrom 28 = .ok (.ireturn, 1) := by decide +kernel
set_option maxRecDepth 20000 in
theorem ggX0_numberAt_X0_at : GoodIn wsX0_numberAt wsX0_at := goodIn_r _ [5, 6, 7] (by decide +kernel) (by decide +kernel)
set_option maxRecDepth 20000 in
theorem gX0_numberAt_X0_at : GoodIn wsX0_numberAt (wsV RX0 21 RX0 yX0_at wsX0_at) := goodIn_app (goodIn_of _ (by decide +kernel)) ggX0_numberAt_X0_at
theorem dX0_numberAt_0 : decode cX0_numberAt 0 = .ok (.iconst 0, 1) := by decide +kernel
theorem dX0_numberAt_1 : decode cX0_numberAt 1 = .ok (.istore_n 3, 1) := by decide +kernel
theorem dX0_numberAt_2 : decode cX0_numberAt 2 = .ok (.iconst 0, 1) := by decide +kernel
theorem dX0_numberAt_3 : decode cX0_numberAt 3 = .ok (.istore 4, 2) := by decide +kernel
theorem dX0_numberAt_5 : decode cX0_numberAt 5 = .ok (.iload 4, 2) := by decide +kernel
theorem dX0_numberAt_7 : decode cX0_numberAt 7 = .ok (.iload_n 2, 1) := by decide +kernel
theorem dX0_numberAt_8 : decode cX0_numberAt 8 = .ok (.if_icmp .ge 23, 3) := by decide +kernel
theorem dX0_numberAt_11 : decode cX0_numberAt 11 = .ok (.iload_n 3, 1) := by decide +kernel
theorem dX0_numberAt_12 : decode cX0_numberAt 12 = .ok (.bipush 8, 2) := by decide +kernel
theorem dX0_numberAt_14 : decode cX0_numberAt 14 = .ok (.ishl, 1) := by decide +kernel
theorem dX0_numberAt_15 : decode cX0_numberAt 15 = .ok (.aload_n 0, 1) := by decide +kernel
theorem dX0_numberAt_16 : decode cX0_numberAt 16 = .ok (.iload_n 1, 1) := by decide +kernel
theorem dX0_numberAt_17 : decode cX0_numberAt 17 = .ok (.iload 4, 2) := by decide +kernel
theorem dX0_numberAt_19 : decode cX0_numberAt 19 = .ok (.iadd, 1) := by decide +kernel
theorem dX0_numberAt_20 : decode cX0_numberAt 20 = .ok (.invokevirtual 21, 3) := by decide +kernel
theorem dX0_numberAt_23 : decode cX0_numberAt 23 = .ok (.ior, 1) := by decide +kernel
theorem dX0_numberAt_24 : decode cX0_numberAt 24 = .ok (.istore_n 3, 1) := by decide +kernel
theorem dX0_numberAt_25 : decode cX0_numberAt 25 = .ok (.iinc 4 1, 3) := by decide +kernel
theorem dX0_numberAt_28 : decode cX0_numberAt 28 = .ok (.goto (-23), 3) := by decide +kernel
theorem dX0_numberAt_31 : decode cX0_numberAt 31 = .ok (.iload_n 3, 1) := by decide +kernel
theorem dX0_numberAt_32 : decode cX0_numberAt 32 = .ok (.ireturn, 1) := by decide +kernel
set_option maxRecDepth 20000 in
theorem ggX0_setNumber_X0_set : GoodIn wsX0_setNumber wsX0_set := goodIn_r _ [5, 6, 7] (by decide +kernel) (by decide +kernel)
set_option maxRecDepth 20000 in
theorem gX0_setNumber_X0_set : GoodIn wsX0_setNumber (wsV RX0 25 RX0 yX0_set wsX0_set) := goodIn_app (goodIn_of _ (by decide +kernel)) ggX0_setNumber_X0_set
theorem dX0_setNumber_0 : decode cX0_setNumber 0 = .ok (.iconst 0, 1) := by decide +kernel
theorem dX0_setNumber_1 : decode cX0_setNumber 1 = .ok (.istore 4, 2) := by decide +kernel
theorem dX0_setNumber_3 : decode cX0_setNumber 3 = .ok (.iload 4, 2) := by decide +kernel
theorem dX0_setNumber_5 : decode cX0_setNumber 5 = .ok (.iload_n 2, 1) := by decide +kernel
theorem dX0_setNumber_6 : decode cX0_setNumber 6 = .ok (.if_icmp .ge 36, 3) := by decide +kernel
theorem dX0_setNumber_9 : decode cX0_setNumber 9 = .ok (.bipush 8, 2) := by decide +kernel
theorem dX0_setNumber_11 : decode cX0_setNumber 11 = .ok (.iload_n 2, 1) := by decide +kernel
theorem dX0_setNumber_12 : decode cX0_setNumber 12 = .ok (.iconst 1, 1) := by decide +kernel
theorem dX0_setNumber_13 : decode cX0_setNumber 13 = .ok (.isub, 1) := by decide +kernel
theorem dX0_setNumber_14 : decode cX0_setNumber 14 = .ok (.iload 4, 2) := by decide +kernel
theorem dX0_setNumber_16 : decode cX0_setNumber 16 = .ok (.isub, 1) := by decide +kernel
theorem dX0_setNumber_17 : decode cX0_setNumber 17 = .ok (.imul, 1) := by decide +kernel
theorem dX0_setNumber_18 : decode cX0_setNumber 18 = .ok (.istore 5, 2) := by decide +kernel
theorem dX0_setNumber_20 : decode cX0_setNumber 20 = .ok (.aload_n 0, 1) := by decide +kernel
theorem dX0_setNumber_21 : decode cX0_setNumber 21 = .ok (.iload_n 1, 1) := by decide +kernel
theorem dX0_setNumber_22 : decode cX0_setNumber 22 = .ok (.iload 4, 2) := by decide +kernel
theorem dX0_setNumber_24 : decode cX0_setNumber 24 = .ok (.iadd, 1) := by decide +kernel
theorem dX0_setNumber_25 : decode cX0_setNumber 25 = .ok (.iload_n 3, 1) := by decide +kernel
theorem dX0_setNumber_26 : decode cX0_setNumber 26 = .ok (.iload 5, 2) := by decide +kernel
theorem dX0_setNumber_28 : decode cX0_setNumber 28 = .ok (.iushr, 1) := by decide +kernel
theorem dX0_setNumber_29 : decode cX0_setNumber 29 = .ok (.sipush 255, 3) := by decide +kernel
theorem dX0_setNumber_32 : decode cX0_setNumber 32 = .ok (.iand, 1) := by decide +kernel
theorem dX0_setNumber_33 : decode cX0_setNumber 33 = .ok (.invokevirtual 25, 3) := by decide +kernel
theorem dX0_setNumber_36 : decode cX0_setNumber 36 = .ok (.iinc 4 1, 3) := by decide +kernel
theorem dX0_setNumber_39 : decode cX0_setNumber 39 = .ok (.goto (-36), 3) := by decide +kernel
theorem dX0_setNumber_42 : decode cX0_setNumber 42 = .ok (.return_, 1) := by decide +kernel
set_option maxRecDepth 20000 in
theorem ggX1_init_X0_init : GoodIn wsX1_init wsX0_init := goodIn_r _ [13, 14, 2, 3, 15, 16, 17, 18, 19, 20, 21] (by decide +kernel) (by decide +kernel)
set_option maxRecDepth 20000 in
theorem gX1_init_X0_init : GoodIn wsX1_init (wsX0_init) := ggX1_init_X0_init
theorem dX1_init_0 : decode cX1_init 0 = .ok (.aload_n 0, 1) := by decide +kernel
theorem dX1_init_1 : decode cX1_init 1 = .ok (.invokespecial 3, 3) := by decide +kernel
theorem dX1_init_4 : decode cX1_init 4 = .ok (.aload_n 0, 1) := by decide +kernel
theorem dX1_init_5 : decode cX1_init 5 = .ok (.new 9, 3) := by decide +kernel
theorem dX1_init_8 : decode cX1_init 8 = .ok (.dup, 1) := by decide +kernel
theorem dX1_init_9 : decode cX1_init 9 = .ok (.iload_n 1, 1) := by decide +kernel
theorem dX1_init_10 : decode cX1_init 10 = .ok (.invokespecial 11, 3) := by decide +kernel
theorem dX1_init_13 : decode cX1_init 13 = .ok (.putfield 14, 3) := by decide +kernel
theorem dX1_init_16 : decode cX1_init 16 = .ok (.aload_n 0, 1) := by decide +kernel
theorem dX1_init_17 : decode cX1_init 17 = .ok (.new 9, 3) := by decide +kernel
theorem dX1_init_20 : decode cX1_init 20 = .ok (.dup, 1) := by decide +kernel
theorem dX1_init_21 : decode cX1_init 21 = .ok (.iload_n 1, 1) := by decide +kernel
theorem dX1_init_22 : decode cX1_init 22 = .ok (.bipush 9, 2) := by decide +kernel
theorem dX1_init_24 : decode cX1_init 24 = .ok (.idiv, 1) := by decide +kernel
theorem dX1_init_25 : decode cX1_init 25 = .ok (.iconst 1, 1) := by decide +kernel
theorem dX1_init_26 : decode cX1_init 26 = .ok (.iadd, 1) := by decide +kernel
theorem dX1_init_27 : decode cX1_init 27 = .ok (.invokespecial 11, 3) := by decide +kernel
theorem dX1_init_30 : decode cX1_init 30 = .ok (.putfield 20, 3) := by decide +kernel
theorem dX1_init_33 : decode cX1_init 33 = .ok (.aload_n 0, 1) := by decide +kernel
theorem dX1_init_34 : decode cX1_init 34 = .ok (.new 9, 3) := by decide +kernel
theorem dX1_init_37 : decode cX1_init 37 = .ok (.dup, 1) := by decide +kernel
theorem dX1_init_38 : decode cX1_init 38 = .ok (.bipush 6, 2) := by decide +kernel
theorem dX1_init_40 : decode cX1_init 40 = .ok (.invokespecial 11, 3) := by decide +kernel
theorem dX1_init_43 : decode cX1_init 43 = .ok (.putfield 23, 3) := by decide +kernel
theorem dX1_init_46 : decode cX1_init 46 = .ok (.aload_n 0, 1) := by decide +kernel
theorem dX1_init_47 : decode cX1_init 47 = .ok (.new 9, 3) := by decide +kernel
theorem dX1_init_50 : decode cX1_init 50 = .ok (.dup, 1) := by decide +kernel
theorem dX1_init_51 : decode cX1_init 51 = .ok (.bipush 8, 2) := by decide +kernel
theorem dX1_init_53 : decode cX1_init 53 = .ok (.invokespecial 11, 3) := by decide +kernel
theorem dX1_init_56 : decode cX1_init 56 = .ok (.putfield 26, 3) := by decide +kernel
theorem dX1_init_59 : decode cX1_init 59 = .ok (.return_, 1) := by decide +kernel
theorem dX1_has_0 : decode cX1_has 0 = .ok (.iload_n 1, 1) := by decide +kernel
theorem dX1_has_1 : decode cX1_has 1 = .ok (.iconst 1, 1) := by decide +kernel
theorem dX1_has_2 : decode cX1_has 2 = .ok (.if_icmp .lt 15, 3) := by decide +kernel
theorem dX1_has_5 : decode cX1_has 5 = .ok (.iload_n 1, 1) := by decide +kernel
theorem dX1_has_6 : decode cX1_has 6 = .ok (.aload_n 0, 1) := by decide +kernel
theorem dX1_has_7 : decode cX1_has 7 = .ok (.getfield 29, 3) := by decide +kernel
theorem dX1_has_10 : decode cX1_has 10 = .ok (.if_icmp .gt 7, 3) := by decide +kernel
theorem dX1_has_13 : decode cX1_has 13 = .ok (.iconst 1, 1) := by decide +kernel
theorem dX1_has_14 : decode cX1_has 14 = .ok (.goto 4, 3) := by decide +kernel
theorem dX1_has_17 : decode cX1_has 17 = .ok (.iconst 0, 1) := by decide +kernel
theorem dX1_has_18 : decode cX1_has 18 = .ok (.ireturn, 1) := by decide +kernel
set_option maxRecDepth 20000 in
theorem ggX1_kindOf_X0_at : GoodIn wsX1_kindOf wsX0_at := goodIn_r _ [7, 8, 17] (by decide +kernel) (by decide +kernel)
set_option maxRecDepth 20000 in
theorem gX1_kindOf_X0_at : GoodIn wsX1_kindOf (wsV RX1 33 RX0 yX0_at wsX0_at) := goodIn_app (goodIn_of _ (by decide +kernel)) ggX1_kindOf_X0_at
theorem dX1_kindOf_0 : decode cX1_kindOf 0 = .ok (.aload_n 0, 1) := by decide +kernel
theorem dX1_kindOf_1 : decode cX1_kindOf 1 = .ok (.getfield 14, 3) := by decide +kernel
theorem dX1_kindOf_4 : decode cX1_kindOf 4 = .ok (.aload_n 0, 1) := by decide +kernel
theorem dX1_kindOf_5 : decode cX1_kindOf 5 = .ok (.getfield 20, 3) := by decide +kernel
theorem dX1_kindOf_8 : decode cX1_kindOf 8 = .ok (.iload_n 1, 1) := by decide +kernel
theorem dX1_kindOf_9 : decode cX1_kindOf 9 = .ok (.invokevirtual 33, 3) := by decide +kernel
theorem dX1_kindOf_12 : decode cX1_kindOf 12 = .ok (.iconst 1, 1) := by decide +kernel
theorem dX1_kindOf_13 : decode cX1_kindOf 13 = .ok (.iadd, 1) := by decide +kernel
theorem dX1_kindOf_14 : decode cX1_kindOf 14 = .ok (.invokevirtual 33, 3) := by decide +kernel
theorem dX1_kindOf_17 : decode cX1_kindOf 17 = .ok (.ireturn, 1) := by decide +kernel
set_option maxRecDepth 20000 in
theorem ggX1_lengthOf_X0_at : GoodIn wsX1_lengthOf wsX0_at := goodIn_r _ [7, 8, 17] (by decide +kernel) (by decide +kernel)
set_option maxRecDepth 20000 in
theorem gX1_lengthOf_X0_at : GoodIn wsX1_lengthOf (wsV RX1 33 RX0 yX0_at wsX0_at) := goodIn_app (goodIn_of _ (by decide +kernel)) ggX1_lengthOf_X0_at
theorem dX1_lengthOf_0 : decode cX1_lengthOf 0 = .ok (.aload_n 0, 1) := by decide +kernel
theorem dX1_lengthOf_1 : decode cX1_lengthOf 1 = .ok (.getfield 14, 3) := by decide +kernel
theorem dX1_lengthOf_4 : decode cX1_lengthOf 4 = .ok (.aload_n 0, 1) := by decide +kernel
theorem dX1_lengthOf_5 : decode cX1_lengthOf 5 = .ok (.getfield 20, 3) := by decide +kernel
theorem dX1_lengthOf_8 : decode cX1_lengthOf 8 = .ok (.iload_n 1, 1) := by decide +kernel
theorem dX1_lengthOf_9 : decode cX1_lengthOf 9 = .ok (.invokevirtual 33, 3) := by decide +kernel
theorem dX1_lengthOf_12 : decode cX1_lengthOf 12 = .ok (.iconst 4, 1) := by decide +kernel
theorem dX1_lengthOf_13 : decode cX1_lengthOf 13 = .ok (.iadd, 1) := by decide +kernel
theorem dX1_lengthOf_14 : decode cX1_lengthOf 14 = .ok (.invokevirtual 33, 3) := by decide +kernel
theorem dX1_lengthOf_17 : decode cX1_lengthOf 17 = .ok (.ireturn, 1) := by decide +kernel
set_option maxRecDepth 20000 in
theorem ggX1_byteAt_X0_at : GoodIn wsX1_byteAt wsX0_at := goodIn_r _ [7, 8, 17] (by decide +kernel) (by decide +kernel)
set_option maxRecDepth 20000 in
theorem gX1_byteAt_X0_at : GoodIn wsX1_byteAt (wsV RX1 33 RX0 yX0_at wsX0_at) := goodIn_app (goodIn_of _ (by decide +kernel)) ggX1_byteAt_X0_at
theorem dX1_byteAt_0 : decode cX1_byteAt 0 = .ok (.aload_n 0, 1) := by decide +kernel
theorem dX1_byteAt_1 : decode cX1_byteAt 1 = .ok (.getfield 14, 3) := by decide +kernel
theorem dX1_byteAt_4 : decode cX1_byteAt 4 = .ok (.aload_n 0, 1) := by decide +kernel
theorem dX1_byteAt_5 : decode cX1_byteAt 5 = .ok (.getfield 20, 3) := by decide +kernel
theorem dX1_byteAt_8 : decode cX1_byteAt 8 = .ok (.iload_n 1, 1) := by decide +kernel
theorem dX1_byteAt_9 : decode cX1_byteAt 9 = .ok (.invokevirtual 33, 3) := by decide +kernel
theorem dX1_byteAt_12 : decode cX1_byteAt 12 = .ok (.iconst 5, 1) := by decide +kernel
theorem dX1_byteAt_13 : decode cX1_byteAt 13 = .ok (.iadd, 1) := by decide +kernel
theorem dX1_byteAt_14 : decode cX1_byteAt 14 = .ok (.iload_n 2, 1) := by decide +kernel
theorem dX1_byteAt_15 : decode cX1_byteAt 15 = .ok (.iadd, 1) := by decide +kernel
theorem dX1_byteAt_16 : decode cX1_byteAt 16 = .ok (.invokevirtual 33, 3) := by decide +kernel
theorem dX1_byteAt_19 : decode cX1_byteAt 19 = .ok (.ireturn, 1) := by decide +kernel
set_option maxRecDepth 20000 in
theorem ggX1_sumOfBytes_X1_lengthOf : GoodIn wsX1_sumOfBytes wsX1_lengthOf := goodIn_r _ [5, 6, 7, 8, 9, 10, 11, 12, 13, 18, 19, 20, 21, 22, 23, 24, 25, 26] (by decide +kernel) (by decide +kernel)
set_option maxRecDepth 20000 in
theorem gX1_sumOfBytes_X1_lengthOf : GoodIn wsX1_sumOfBytes (wsV RX1 37 RX1 yX1_lengthOf wsX1_lengthOf) := goodIn_app (goodIn_of _ (by decide +kernel)) ggX1_sumOfBytes_X1_lengthOf
set_option maxRecDepth 20000 in
theorem ggX1_sumOfBytes_X1_byteAt : GoodIn wsX1_sumOfBytes wsX1_byteAt := goodIn_r _ [17, 6, 7, 8, 9, 10, 11, 12, 13, 18, 19, 20, 21, 22, 23, 24, 25, 26] (by decide +kernel) (by decide +kernel)
set_option maxRecDepth 20000 in
theorem gX1_sumOfBytes_X1_byteAt : GoodIn wsX1_sumOfBytes (wsV RX1 40 RX1 yX1_byteAt wsX1_byteAt) := goodIn_app (goodIn_of _ (by decide +kernel)) ggX1_sumOfBytes_X1_byteAt
theorem dX1_sumOfBytes_0 : decode cX1_sumOfBytes 0 = .ok (.aload_n 0, 1) := by decide +kernel
theorem dX1_sumOfBytes_1 : decode cX1_sumOfBytes 1 = .ok (.iload_n 1, 1) := by decide +kernel
theorem dX1_sumOfBytes_2 : decode cX1_sumOfBytes 2 = .ok (.invokevirtual 37, 3) := by decide +kernel
theorem dX1_sumOfBytes_5 : decode cX1_sumOfBytes 5 = .ok (.istore_n 2, 1) := by decide +kernel
theorem dX1_sumOfBytes_6 : decode cX1_sumOfBytes 6 = .ok (.iconst 0, 1) := by decide +kernel
theorem dX1_sumOfBytes_7 : decode cX1_sumOfBytes 7 = .ok (.istore_n 3, 1) := by decide +kernel
theorem dX1_sumOfBytes_8 : decode cX1_sumOfBytes 8 = .ok (.iconst 0, 1) := by decide +kernel
theorem dX1_sumOfBytes_9 : decode cX1_sumOfBytes 9 = .ok (.istore 4, 2) := by decide +kernel
theorem dX1_sumOfBytes_11 : decode cX1_sumOfBytes 11 = .ok (.iload 4, 2) := by decide +kernel
theorem dX1_sumOfBytes_13 : decode cX1_sumOfBytes 13 = .ok (.iload_n 2, 1) := by decide +kernel
theorem dX1_sumOfBytes_14 : decode cX1_sumOfBytes 14 = .ok (.if_icmp .ge 19, 3) := by decide +kernel
theorem dX1_sumOfBytes_17 : decode cX1_sumOfBytes 17 = .ok (.iload_n 3, 1) := by decide +kernel
theorem dX1_sumOfBytes_18 : decode cX1_sumOfBytes 18 = .ok (.aload_n 0, 1) := by decide +kernel
theorem dX1_sumOfBytes_19 : decode cX1_sumOfBytes 19 = .ok (.iload_n 1, 1) := by decide +kernel
theorem dX1_sumOfBytes_20 : decode cX1_sumOfBytes 20 = .ok (.iload 4, 2) := by decide +kernel
theorem dX1_sumOfBytes_22 : decode cX1_sumOfBytes 22 = .ok (.invokevirtual 40, 3) := by decide +kernel
theorem dX1_sumOfBytes_25 : decode cX1_sumOfBytes 25 = .ok (.iadd, 1) := by decide +kernel
theorem dX1_sumOfBytes_26 : decode cX1_sumOfBytes 26 = .ok (.istore_n 3, 1) := by decide +kernel
theorem dX1_sumOfBytes_27 : decode cX1_sumOfBytes 27 = .ok (.iinc 4 1, 3) := by decide +kernel
theorem dX1_sumOfBytes_30 : decode cX1_sumOfBytes 30 = .ok (.goto (-19), 3) := by decide +kernel
theorem dX1_sumOfBytes_33 : decode cX1_sumOfBytes 33 = .ok (.iload_n 3, 1) := by decide +kernel
theorem dX1_sumOfBytes_34 : decode cX1_sumOfBytes 34 = .ok (.ireturn, 1) := by decide +kernel
set_option maxRecDepth 20000 in
theorem ggX1_numberOf_X1_kindOf : GoodIn wsX1_numberOf wsX1_kindOf := goodIn_r _ [6, 7, 8, 9, 10, 11, 12, 13, 14, 15, 16, 17, 18, 19, 20, 21, 22, 23] (by decide +kernel) (by decide +kernel)
set_option maxRecDepth 20000 in
theorem gX1_numberOf_X1_kindOf : GoodIn wsX1_numberOf (wsV RX1 44 RX1 yX1_kindOf wsX1_kindOf) := goodIn_app (goodIn_of _ (by decide +kernel)) ggX1_numberOf_X1_kindOf
theorem dX1_numberOf_0 : decode cX1_numberOf 0 = .ok (.iconst 0, 1) := by decide +kernel
theorem dX1_numberOf_1 : decode cX1_numberOf 1 = .ok (.istore_n 3, 1) := by decide +kernel
theorem dX1_numberOf_2 : decode cX1_numberOf 2 = .ok (.iconst 1, 1) := by decide +kernel
theorem dX1_numberOf_3 : decode cX1_numberOf 3 = .ok (.istore 4, 2) := by decide +kernel
theorem dX1_numberOf_5 : decode cX1_numberOf 5 = .ok (.iload 4, 2) := by decide +kernel
theorem dX1_numberOf_7 : decode cX1_numberOf 7 = .ok (.aload_n 0, 1) := by decide +kernel
theorem dX1_numberOf_8 : decode cX1_numberOf 8 = .ok (.getfield 29, 3) := by decide +kernel
theorem dX1_numberOf_11 : decode cX1_numberOf 11 = .ok (.if_icmp .gt 30, 3) := by decide +kernel
theorem dX1_numberOf_14 : decode cX1_numberOf 14 = .ok (.aload_n 0, 1) := by decide +kernel
theorem dX1_numberOf_15 : decode cX1_numberOf 15 = .ok (.iload 4, 2) := by decide +kernel
theorem dX1_numberOf_17 : decode cX1_numberOf 17 = .ok (.invokevirtual 44, 3) := by decide +kernel
theorem dX1_numberOf_20 : decode cX1_numberOf 20 = .ok (.iload_n 1, 1) := by decide +kernel
theorem dX1_numberOf_21 : decode cX1_numberOf 21 = .ok (.if_icmp .ne 14, 3) := by decide +kernel
theorem dX1_numberOf_24 : decode cX1_numberOf 24 = .ok (.iload_n 3, 1) := by decide +kernel
theorem dX1_numberOf_25 : decode cX1_numberOf 25 = .ok (.iload_n 2, 1) := by decide +kernel
theorem dX1_numberOf_26 : decode cX1_numberOf 26 = .ok (.if_icmp .ne 6, 3) := by decide +kernel
theorem dX1_numberOf_29 : decode cX1_numberOf 29 = .ok (.iload 4, 2) := by decide +kernel
theorem dX1_numberOf_31 : decode cX1_numberOf 31 = .ok (.ireturn, 1) := by decide +kernel
theorem dX1_numberOf_32 : decode cX1_numberOf 32 = .ok (.iinc 3 1, 3) := by decide +kernel
theorem dX1_numberOf_35 : decode cX1_numberOf 35 = .ok (.iinc 4 1, 3) := by decide +kernel
theorem dX1_numberOf_38 : decode cX1_numberOf 38 = .ok (.goto (-33), 3) := by decide +kernel
theorem dX1_numberOf_41 : decode cX1_numberOf 41 = .ok (.iconst (-1), 1) := by decide +kernel
theorem dX1_numberOf_42 : decode cX1_numberOf 42 = .ok (.ireturn, 1) := by decide +kernel
theorem dX1_bytesInMemory_0 : decode cX1_bytesInMemory 0 = .ok (.aload_n 0, 1) := by decide +kernel
theorem dX1_bytesInMemory_1 : decode cX1_bytesInMemory 1 = .ok (.getfield 47, 3) := by decide +kernel
theorem dX1_bytesInMemory_4 : decode cX1_bytesInMemory 4 = .ok (.aload_n 0, 1) := by decide +kernel
theorem dX1_bytesInMemory_5 : decode cX1_bytesInMemory 5 = .ok (.getfield 50, 3) := by decide +kernel
theorem dX1_bytesInMemory_8 : decode cX1_bytesInMemory 8 = .ok (.isub, 1) := by decide +kernel
theorem dX1_bytesInMemory_9 : decode cX1_bytesInMemory 9 = .ok (.ireturn, 1) := by decide +kernel
set_option maxRecDepth 20000 in
theorem ggX1_write_X0_set : GoodIn wsX1_write wsX0_set := goodIn_r _ [8, 9, 47] (by decide +kernel) (by decide +kernel)
set_option maxRecDepth 20000 in
theorem gX1_write_X0_set : GoodIn wsX1_write (wsV RX1 53 RX0 yX0_set wsX0_set) := goodIn_app (goodIn_of _ (by decide +kernel)) ggX1_write_X0_set
set_option maxRecDepth 20000 in
theorem ggX1_write_X0_setNumber : GoodIn wsX1_write wsX0_setNumber := goodIn_r _ [13, 14, 5, 6, 7, 8, 9, 47] (by decide +kernel) (by decide +kernel)
set_option maxRecDepth 20000 in
theorem gX1_write_X0_setNumber : GoodIn wsX1_write (wsV RX1 57 RX0 yX0_setNumber wsX0_setNumber) := goodIn_app (goodIn_of _ (by decide +kernel)) ggX1_write_X0_setNumber
set_option maxRecDepth 20000 in
theorem ggX1_write_X0_at : GoodIn wsX1_write wsX0_at := goodIn_r _ [18, 9, 47] (by decide +kernel) (by decide +kernel)
set_option maxRecDepth 20000 in
theorem gX1_write_X0_at : GoodIn wsX1_write (wsV RX1 33 RX0 yX0_at wsX0_at) := goodIn_app (goodIn_of _ (by decide +kernel)) ggX1_write_X0_at
set_option maxRecDepth 20000 in
theorem ggX1_write_X2_sumOfRow : GoodIn wsX1_write wsX2_sumOfRow := goodIn_r _ [21, 22, 23, 16, 17, 7, 18, 9, 47] (by decide +kernel) (by decide +kernel)
set_option maxRecDepth 20000 in
theorem gX1_write_X2_sumOfRow_n61 : GoodIn wsX1_write (wsX2_sumOfRow) := ggX1_write_X2_sumOfRow
set_option maxRecDepth 20000 in
theorem ggX1_write_X1_enlistNext : GoodIn wsX1_write wsX1_enlistNext := goodIn_r _ [28, 3, 29, 2, 30, 4, 5, 6, 7, 8, 9, 31, 32, 33, 27, 34, 1, 15, 16, 17, 18, 35, 36, 37, 38, 39, 40, 41, 42, 43, 44, 45, 46, 47] (by decide +kernel) (by decide +kernel)
set_option maxRecDepth 20000 in
theorem gX1_write_X1_enlistNext : GoodIn wsX1_write (wsV RX1 65 RX1 yX1_enlistNext wsX1_enlistNext) := goodIn_app (goodIn_of _ (by decide +kernel)) ggX1_write_X1_enlistNext
theorem dX1_write_0 : decode cX1_write 0 = .ok (.aload_n 0, 1) := by decide +kernel
theorem dX1_write_1 : decode cX1_write 1 = .ok (.getfield 14, 3) := by decide +kernel
theorem dX1_write_4 : decode cX1_write 4 = .ok (.aload_n 0, 1) := by decide +kernel
theorem dX1_write_5 : decode cX1_write 5 = .ok (.getfield 47, 3) := by decide +kernel
theorem dX1_write_8 : decode cX1_write 8 = .ok (.bipush 90, 2) := by decide +kernel
theorem dX1_write_10 : decode cX1_write 10 = .ok (.invokevirtual 53, 3) := by decide +kernel
theorem dX1_write_13 : decode cX1_write 13 = .ok (.aload_n 0, 1) := by decide +kernel
theorem dX1_write_14 : decode cX1_write 14 = .ok (.getfield 14, 3) := by decide +kernel
theorem dX1_write_17 : decode cX1_write 17 = .ok (.aload_n 0, 1) := by decide +kernel
theorem dX1_write_18 : decode cX1_write 18 = .ok (.getfield 47, 3) := by decide +kernel
theorem dX1_write_21 : decode cX1_write 21 = .ok (.iconst 1, 1) := by decide +kernel
theorem dX1_write_22 : decode cX1_write 22 = .ok (.iadd, 1) := by decide +kernel
theorem dX1_write_23 : decode cX1_write 23 = .ok (.iload_n 1, 1) := by decide +kernel
theorem dX1_write_24 : decode cX1_write 24 = .ok (.invokevirtual 53, 3) := by decide +kernel
theorem dX1_write_27 : decode cX1_write 27 = .ok (.aload_n 0, 1) := by decide +kernel
theorem dX1_write_28 : decode cX1_write 28 = .ok (.getfield 14, 3) := by decide +kernel
theorem dX1_write_31 : decode cX1_write 31 = .ok (.aload_n 0, 1) := by decide +kernel
theorem dX1_write_32 : decode cX1_write 32 = .ok (.getfield 47, 3) := by decide +kernel
theorem dX1_write_35 : decode cX1_write 35 = .ok (.iconst 2, 1) := by decide +kernel
theorem dX1_write_36 : decode cX1_write 36 = .ok (.iadd, 1) := by decide +kernel
theorem dX1_write_37 : decode cX1_write 37 = .ok (.iconst 2, 1) := by decide +kernel
theorem dX1_write_38 : decode cX1_write 38 = .ok (.aload_n 0, 1) := by decide +kernel
theorem dX1_write_39 : decode cX1_write 39 = .ok (.getfield 29, 3) := by decide +kernel
theorem dX1_write_42 : decode cX1_write 42 = .ok (.iconst 1, 1) := by decide +kernel
theorem dX1_write_43 : decode cX1_write 43 = .ok (.iadd, 1) := by decide +kernel
theorem dX1_write_44 : decode cX1_write 44 = .ok (.invokevirtual 57, 3) := by decide +kernel
theorem dX1_write_47 : decode cX1_write 47 = .ok (.aload_n 0, 1) := by decide +kernel
theorem dX1_write_48 : decode cX1_write 48 = .ok (.getfield 14, 3) := by decide +kernel
theorem dX1_write_51 : decode cX1_write 51 = .ok (.aload_n 0, 1) := by decide +kernel
theorem dX1_write_52 : decode cX1_write 52 = .ok (.getfield 47, 3) := by decide +kernel
theorem dX1_write_55 : decode cX1_write 55 = .ok (.iconst 4, 1) := by decide +kernel
theorem dX1_write_56 : decode cX1_write 56 = .ok (.iadd, 1) := by decide +kernel
theorem dX1_write_57 : decode cX1_write 57 = .ok (.iload_n 3, 1) := by decide +kernel
theorem dX1_write_58 : decode cX1_write 58 = .ok (.invokevirtual 53, 3) := by decide +kernel
theorem dX1_write_61 : decode cX1_write 61 = .ok (.iconst 0, 1) := by decide +kernel
theorem dX1_write_62 : decode cX1_write 62 = .ok (.istore 4, 2) := by decide +kernel
theorem dX1_write_64 : decode cX1_write 64 = .ok (.iload 4, 2) := by decide +kernel
theorem dX1_write_66 : decode cX1_write 66 = .ok (.iload_n 3, 1) := by decide +kernel
theorem dX1_write_67 : decode cX1_write 67 = .ok (.if_icmp .ge 31, 3) := by decide +kernel
theorem dX1_write_70 : decode cX1_write 70 = .ok (.aload_n 0, 1) := by decide +kernel
theorem dX1_write_71 : decode cX1_write 71 = .ok (.getfield 14, 3) := by decide +kernel
theorem dX1_write_74 : decode cX1_write 74 = .ok (.aload_n 0, 1) := by decide +kernel
theorem dX1_write_75 : decode cX1_write 75 = .ok (.getfield 47, 3) := by decide +kernel
theorem dX1_write_78 : decode cX1_write 78 = .ok (.iconst 5, 1) := by decide +kernel
theorem dX1_write_79 : decode cX1_write 79 = .ok (.iadd, 1) := by decide +kernel
theorem dX1_write_80 : decode cX1_write 80 = .ok (.iload 4, 2) := by decide +kernel
theorem dX1_write_82 : decode cX1_write 82 = .ok (.iadd, 1) := by decide +kernel
theorem dX1_write_83 : decode cX1_write 83 = .ok (.aload_n 2, 1) := by decide +kernel
theorem dX1_write_84 : decode cX1_write 84 = .ok (.iload 4, 2) := by decide +kernel
theorem dX1_write_86 : decode cX1_write 86 = .ok (.invokevirtual 33, 3) := by decide +kernel
theorem dX1_write_89 : decode cX1_write 89 = .ok (.invokevirtual 53, 3) := by decide +kernel
theorem dX1_write_92 : decode cX1_write 92 = .ok (.iinc 4 1, 3) := by decide +kernel
theorem dX1_write_95 : decode cX1_write 95 = .ok (.goto (-31), 3) := by decide +kernel
theorem dX1_write_98 : decode cX1_write 98 = .ok (.aload_n 0, 1) := by decide +kernel
theorem dX1_write_99 : decode cX1_write 99 = .ok (.getfield 14, 3) := by decide +kernel
theorem dX1_write_102 : decode cX1_write 102 = .ok (.aload_n 0, 1) := by decide +kernel
theorem dX1_write_103 : decode cX1_write 103 = .ok (.getfield 47, 3) := by decide +kernel
theorem dX1_write_106 : decode cX1_write 106 = .ok (.iconst 5, 1) := by decide +kernel
theorem dX1_write_107 : decode cX1_write 107 = .ok (.iadd, 1) := by decide +kernel
theorem dX1_write_108 : decode cX1_write 108 = .ok (.iload_n 3, 1) := by decide +kernel
theorem dX1_write_109 : decode cX1_write 109 = .ok (.iadd, 1) := by decide +kernel
theorem dX1_write_110 : decode cX1_write 110 = .ok (.iconst 4, 1) := by decide +kernel
theorem dX1_write_111 : decode cX1_write 111 = .ok (.aload_n 0, 1) := by decide +kernel
theorem dX1_write_112 : decode cX1_write 112 = .ok (.getfield 14, 3) := by decide +kernel
theorem dX1_write_115 : decode cX1_write 115 = .ok (.aload_n 0, 1) := by decide +kernel
theorem dX1_write_116 : decode cX1_write 116 = .ok (.getfield 47, 3) := by decide +kernel
theorem dX1_write_119 : decode cX1_write 119 = .ok (.iload_n 3, 1) := by decide +kernel
theorem dX1_write_120 : decode cX1_write 120 = .ok (.invokestatic 61, 3) := by decide +kernel
theorem dX1_write_123 : decode cX1_write 123 = .ok (.invokevirtual 57, 3) := by decide +kernel
theorem dX1_write_126 : decode cX1_write 126 = .ok (.aload_n 0, 1) := by decide +kernel
theorem dX1_write_127 : decode cX1_write 127 = .ok (.invokevirtual 65, 3) := by decide +kernel
theorem dX1_write_130 : decode cX1_write 130 = .ok (.aload_n 0, 1) := by decide +kernel
theorem dX1_write_131 : decode cX1_write 131 = .ok (.getfield 29, 3) := by decide +kernel
theorem dX1_write_134 : decode cX1_write 134 = .ok (.ireturn, 1) := by decide +kernel
set_option maxRecDepth 20000 in
theorem ggX1_writeState_X1_fillState : GoodIn wsX1_writeState wsX1_fillState := goodIn_r _ [6, 1, 7, 8, 9, 10, 11, 12, 13, 14, 15, 16, 17, 18, 19, 20, 21, 48, 49, 50, 51, 52, 53, 54, 55, 56] (by decide +kernel) (by decide +kernel)
set_option maxRecDepth 20000 in
theorem gX1_writeState_X1_fillState : GoodIn wsX1_writeState (wsV RX1 68 RX1 yX1_fillState wsX1_fillState) := goodIn_app (goodIn_of _ (by decide +kernel)) ggX1_writeState_X1_fillState
set_option maxRecDepth 20000 in
theorem ggX1_writeState_X1_write : GoodIn wsX1_writeState wsX1_write := goodIn_r _ [25, 26, 27, 28, 29, 19, 20, 11, 21, 13, 14, 15, 16, 17, 18, 8, 9, 10, 12, 30, 31, 32, 33, 34, 35, 36, 37, 5, 38, 39, 7, 40, 41, 42, 43, 44, 45, 46, 47, 48, 49, 50, 51, 52, 53, 54, 55, 56] (by decide +kernel) (by decide +kernel)
set_option maxRecDepth 20000 in
theorem gX1_writeState_X1_write : GoodIn wsX1_writeState (wsV RX1 71 RX1 yX1_write wsX1_write) := goodIn_app (goodIn_of _ (by decide +kernel)) ggX1_writeState_X1_write
theorem dX1_writeState_0 : decode cX1_writeState 0 = .ok (.aload_n 0, 1) := by decide +kernel
theorem dX1_writeState_1 : decode cX1_writeState 1 = .ok (.invokevirtual 68, 3) := by decide +kernel
theorem dX1_writeState_4 : decode cX1_writeState 4 = .ok (.aload_n 0, 1) := by decide +kernel
theorem dX1_writeState_5 : decode cX1_writeState 5 = .ok (.iconst 5, 1) := by decide +kernel
theorem dX1_writeState_6 : decode cX1_writeState 6 = .ok (.aload_n 0, 1) := by decide +kernel
theorem dX1_writeState_7 : decode cX1_writeState 7 = .ok (.getfield 26, 3) := by decide +kernel
theorem dX1_writeState_10 : decode cX1_writeState 10 = .ok (.bipush 8, 2) := by decide +kernel
theorem dX1_writeState_12 : decode cX1_writeState 12 = .ok (.invokevirtual 71, 3) := by decide +kernel
theorem dX1_writeState_15 : decode cX1_writeState 15 = .ok (.ireturn, 1) := by decide +kernel
theorem dX1_markAllOnDisk_0 : decode cX1_markAllOnDisk 0 = .ok (.aload_n 0, 1) := by decide +kernel
theorem dX1_markAllOnDisk_1 : decode cX1_markAllOnDisk 1 = .ok (.aload_n 0, 1) := by decide +kernel
theorem dX1_markAllOnDisk_2 : decode cX1_markAllOnDisk 2 = .ok (.getfield 29, 3) := by decide +kernel
theorem dX1_markAllOnDisk_5 : decode cX1_markAllOnDisk 5 = .ok (.putfield 75, 3) := by decide +kernel
theorem dX1_markAllOnDisk_8 : decode cX1_markAllOnDisk 8 = .ok (.aload_n 0, 1) := by decide +kernel
theorem dX1_markAllOnDisk_9 : decode cX1_markAllOnDisk 9 = .ok (.aload_n 0, 1) := by decide +kernel
theorem dX1_markAllOnDisk_10 : decode cX1_markAllOnDisk 10 = .ok (.getfield 47, 3) := by decide +kernel
theorem dX1_markAllOnDisk_13 : decode cX1_markAllOnDisk 13 = .ok (.putfield 50, 3) := by decide +kernel
theorem dX1_markAllOnDisk_16 : decode cX1_markAllOnDisk 16 = .ok (.return_, 1) := by decide +kernel
set_option maxRecDepth 20000 in
theorem ggX1_dropMemory_X1_kindOf : GoodIn wsX1_dropMemory wsX1_kindOf := goodIn_r _ [10, 11, 12, 13, 14, 15, 16, 17, 18, 23, 24, 25, 26, 27, 28, 29, 30, 31] (by decide +kernel) (by decide +kernel)
set_option maxRecDepth 20000 in
theorem gX1_dropMemory_X1_kindOf : GoodIn wsX1_dropMemory (wsV RX1 44 RX1 yX1_kindOf wsX1_kindOf) := goodIn_app (goodIn_of _ (by decide +kernel)) ggX1_dropMemory_X1_kindOf
set_option maxRecDepth 20000 in
theorem ggX1_dropMemory_X0_at : GoodIn wsX1_dropMemory wsX0_at := goodIn_r _ [17, 18, 31] (by decide +kernel) (by decide +kernel)
set_option maxRecDepth 20000 in
theorem gX1_dropMemory_X0_at : GoodIn wsX1_dropMemory (wsV RX1 33 RX0 yX0_at wsX0_at) := goodIn_app (goodIn_of _ (by decide +kernel)) ggX1_dropMemory_X0_at
set_option maxRecDepth 20000 in
theorem ggX1_dropMemory_X0_set : GoodIn wsX1_dropMemory wsX0_set := goodIn_r _ [22, 18, 31] (by decide +kernel) (by decide +kernel)
set_option maxRecDepth 20000 in
theorem gX1_dropMemory_X0_set : GoodIn wsX1_dropMemory (wsV RX1 53 RX0 yX0_set wsX0_set) := goodIn_app (goodIn_of _ (by decide +kernel)) ggX1_dropMemory_X0_set
theorem dX1_dropMemory_0 : decode cX1_dropMemory 0 = .ok (.aload_n 0, 1) := by decide +kernel
theorem dX1_dropMemory_1 : decode cX1_dropMemory 1 = .ok (.getfield 75, 3) := by decide +kernel
theorem dX1_dropMemory_4 : decode cX1_dropMemory 4 = .ok (.iconst 1, 1) := by decide +kernel
theorem dX1_dropMemory_5 : decode cX1_dropMemory 5 = .ok (.iadd, 1) := by decide +kernel
theorem dX1_dropMemory_6 : decode cX1_dropMemory 6 = .ok (.istore_n 1, 1) := by decide +kernel
theorem dX1_dropMemory_7 : decode cX1_dropMemory 7 = .ok (.iload_n 1, 1) := by decide +kernel
theorem dX1_dropMemory_8 : decode cX1_dropMemory 8 = .ok (.aload_n 0, 1) := by decide +kernel
theorem dX1_dropMemory_9 : decode cX1_dropMemory 9 = .ok (.getfield 29, 3) := by decide +kernel
theorem dX1_dropMemory_12 : decode cX1_dropMemory 12 = .ok (.if_icmp .gt 33, 3) := by decide +kernel
theorem dX1_dropMemory_15 : decode cX1_dropMemory 15 = .ok (.aload_n 0, 1) := by decide +kernel
theorem dX1_dropMemory_16 : decode cX1_dropMemory 16 = .ok (.iload_n 1, 1) := by decide +kernel
theorem dX1_dropMemory_17 : decode cX1_dropMemory 17 = .ok (.invokevirtual 44, 3) := by decide +kernel
theorem dX1_dropMemory_20 : decode cX1_dropMemory 20 = .ok (.istore_n 2, 1) := by decide +kernel
theorem dX1_dropMemory_21 : decode cX1_dropMemory 21 = .ok (.aload_n 0, 1) := by decide +kernel
theorem dX1_dropMemory_22 : decode cX1_dropMemory 22 = .ok (.getfield 23, 3) := by decide +kernel
theorem dX1_dropMemory_25 : decode cX1_dropMemory 25 = .ok (.iload_n 2, 1) := by decide +kernel
theorem dX1_dropMemory_26 : decode cX1_dropMemory 26 = .ok (.aload_n 0, 1) := by decide +kernel
theorem dX1_dropMemory_27 : decode cX1_dropMemory 27 = .ok (.getfield 23, 3) := by decide +kernel
theorem dX1_dropMemory_30 : decode cX1_dropMemory 30 = .ok (.iload_n 2, 1) := by decide +kernel
theorem dX1_dropMemory_31 : decode cX1_dropMemory 31 = .ok (.invokevirtual 33, 3) := by decide +kernel
theorem dX1_dropMemory_34 : decode cX1_dropMemory 34 = .ok (.iconst 1, 1) := by decide +kernel
theorem dX1_dropMemory_35 : decode cX1_dropMemory 35 = .ok (.isub, 1) := by decide +kernel
theorem dX1_dropMemory_36 : decode cX1_dropMemory 36 = .ok (.invokevirtual 53, 3) := by decide +kernel
theorem dX1_dropMemory_39 : decode cX1_dropMemory 39 = .ok (.iinc 1 1, 3) := by decide +kernel
theorem dX1_dropMemory_42 : decode cX1_dropMemory 42 = .ok (.goto (-35), 3) := by decide +kernel
theorem dX1_dropMemory_45 : decode cX1_dropMemory 45 = .ok (.aload_n 0, 1) := by decide +kernel
theorem dX1_dropMemory_46 : decode cX1_dropMemory 46 = .ok (.aload_n 0, 1) := by decide +kernel
theorem dX1_dropMemory_47 : decode cX1_dropMemory 47 = .ok (.getfield 75, 3) := by decide +kernel
theorem dX1_dropMemory_50 : decode cX1_dropMemory 50 = .ok (.putfield 29, 3) := by decide +kernel
theorem dX1_dropMemory_53 : decode cX1_dropMemory 53 = .ok (.aload_n 0, 1) := by decide +kernel
theorem dX1_dropMemory_54 : decode cX1_dropMemory 54 = .ok (.aload_n 0, 1) := by decide +kernel
theorem dX1_dropMemory_55 : decode cX1_dropMemory 55 = .ok (.getfield 50, 3) := by decide +kernel
theorem dX1_dropMemory_58 : decode cX1_dropMemory 58 = .ok (.putfield 47, 3) := by decide +kernel
theorem dX1_dropMemory_61 : decode cX1_dropMemory 61 = .ok (.return_, 1) := by decide +kernel
set_option maxRecDepth 20000 in
theorem ggX1_clear_X1_dropMemory : GoodIn wsX1_clear wsX1_dropMemory := goodIn_r _ [7, 1, 8, 9, 2, 10, 11, 12, 13, 6, 14, 15, 16, 17, 18, 19, 20, 21, 22, 23, 24, 25, 26, 27, 28, 29, 30, 31, 32, 33, 34, 35] (by decide +kernel) (by decide +kernel)
set_option maxRecDepth 20000 in
theorem gX1_clear_X1_dropMemory : GoodIn wsX1_clear (wsV RX1 78 RX1 yX1_dropMemory wsX1_dropMemory) := goodIn_app (goodIn_of _ (by decide +kernel)) ggX1_clear_X1_dropMemory
theorem dX1_clear_0 : decode cX1_clear 0 = .ok (.aload_n 0, 1) := by decide +kernel
theorem dX1_clear_1 : decode cX1_clear 1 = .ok (.iconst 0, 1) := by decide +kernel
theorem dX1_clear_2 : decode cX1_clear 2 = .ok (.putfield 75, 3) := by decide +kernel
theorem dX1_clear_5 : decode cX1_clear 5 = .ok (.aload_n 0, 1) := by decide +kernel
theorem dX1_clear_6 : decode cX1_clear 6 = .ok (.iconst 0, 1) := by decide +kernel
theorem dX1_clear_7 : decode cX1_clear 7 = .ok (.putfield 50, 3) := by decide +kernel
theorem dX1_clear_10 : decode cX1_clear 10 = .ok (.aload_n 0, 1) := by decide +kernel
theorem dX1_clear_11 : decode cX1_clear 11 = .ok (.invokevirtual 78, 3) := by decide +kernel
theorem dX1_clear_14 : decode cX1_clear 14 = .ok (.return_, 1) := by decide +kernel
set_option maxRecDepth 20000 in
theorem ggX1_read_X1_judgeNext : GoodIn wsX1_read wsX1_judgeNext := goodIn_r _ [7, 1, 8, 9, 10, 11, 12, 13, 14, 15, 16, 17, 18, 19, 20, 21, 22, 23, 24, 25, 26, 27, 28, 29, 30, 31, 32, 33, 34, 35, 36, 37, 6, 38, 39, 62, 63, 64, 65, 66, 67, 68, 69, 70] (by decide +kernel) (by decide +kernel)
set_option maxRecDepth 20000 in
theorem gX1_read_X1_judgeNext : GoodIn wsX1_read (wsV RX1 81 RX1 yX1_judgeNext wsX1_judgeNext) := goodIn_app (goodIn_of _ (by decide +kernel)) ggX1_read_X1_judgeNext
set_option maxRecDepth 20000 in
theorem ggX1_read_X0_length : GoodIn wsX1_read wsX0_length := goodIn_r _ [23, 14, 70] (by decide +kernel) (by decide +kernel)
set_option maxRecDepth 20000 in
theorem gX1_read_X0_length : GoodIn wsX1_read (wsV RX1 85 RX0 yX0_length wsX0_length) := goodIn_app (goodIn_of _ (by decide +kernel)) ggX1_read_X0_length
set_option maxRecDepth 20000 in
theorem ggX1_read_X0_at : GoodIn wsX1_read wsX0_at := goodIn_r _ [18, 14, 70] (by decide +kernel) (by decide +kernel)
set_option maxRecDepth 20000 in
theorem gX1_read_X0_at : GoodIn wsX1_read (wsV RX1 33 RX0 yX0_at wsX0_at) := goodIn_app (goodIn_of _ (by decide +kernel)) ggX1_read_X0_at
set_option maxRecDepth 20000 in
theorem ggX1_read_X0_copy : GoodIn wsX1_read wsX0_copy := goodIn_r _ [43, 15, 16, 17, 12, 18, 14, 44, 45, 46, 47, 70] (by decide +kernel) (by decide +kernel)
set_option maxRecDepth 20000 in
theorem gX1_read_X0_copy : GoodIn wsX1_read (wsV RX1 89 RX0 yX0_copy wsX0_copy) := goodIn_app (goodIn_of _ (by decide +kernel)) ggX1_read_X0_copy
set_option maxRecDepth 20000 in
theorem ggX1_read_X1_enlistNext : GoodIn wsX1_read wsX1_enlistNext := goodIn_r _ [51, 8, 52, 1, 39, 53, 45, 46, 12, 47, 14, 54, 55, 56, 6, 57, 2, 19, 16, 17, 18, 58, 59, 60, 61, 62, 63, 64, 65, 66, 67, 68, 69, 70] (by decide +kernel) (by decide +kernel)
set_option maxRecDepth 20000 in
theorem gX1_read_X1_enlistNext : GoodIn wsX1_read (wsV RX1 65 RX1 yX1_enlistNext wsX1_enlistNext) := goodIn_app (goodIn_of _ (by decide +kernel)) ggX1_read_X1_enlistNext
theorem dX1_read_0 : decode cX1_read 0 = .ok (.aload_n 0, 1) := by decide +kernel
theorem dX1_read_1 : decode cX1_read 1 = .ok (.aload_n 1, 1) := by decide +kernel
theorem dX1_read_2 : decode cX1_read 2 = .ok (.invokevirtual 81, 3) := by decide +kernel
theorem dX1_read_5 : decode cX1_read 5 = .ok (.istore_n 2, 1) := by decide +kernel
theorem dX1_read_6 : decode cX1_read 6 = .ok (.iconst 0, 1) := by decide +kernel
theorem dX1_read_7 : decode cX1_read 7 = .ok (.istore_n 3, 1) := by decide +kernel
theorem dX1_read_8 : decode cX1_read 8 = .ok (.iload_n 3, 1) := by decide +kernel
theorem dX1_read_9 : decode cX1_read 9 = .ok (.aload_n 1, 1) := by decide +kernel
theorem dX1_read_10 : decode cX1_read 10 = .ok (.invokevirtual 85, 3) := by decide +kernel
theorem dX1_read_13 : decode cX1_read 13 = .ok (.if_icmp .ge 58, 3) := by decide +kernel
theorem dX1_read_16 : decode cX1_read 16 = .ok (.iload_n 2, 1) := by decide +kernel
theorem dX1_read_17 : decode cX1_read 17 = .ok (.iconst (-1), 1) := by decide +kernel
theorem dX1_read_18 : decode cX1_read 18 = .ok (.if_icmp .ne 53, 3) := by decide +kernel
theorem dX1_read_21 : decode cX1_read 21 = .ok (.aload_n 1, 1) := by decide +kernel
theorem dX1_read_22 : decode cX1_read 22 = .ok (.aload_n 0, 1) := by decide +kernel
theorem dX1_read_23 : decode cX1_read 23 = .ok (.getfield 47, 3) := by decide +kernel
theorem dX1_read_26 : decode cX1_read 26 = .ok (.iconst 4, 1) := by decide +kernel
theorem dX1_read_27 : decode cX1_read 27 = .ok (.iadd, 1) := by decide +kernel
theorem dX1_read_28 : decode cX1_read 28 = .ok (.invokevirtual 33, 3) := by decide +kernel
theorem dX1_read_31 : decode cX1_read 31 = .ok (.istore 4, 2) := by decide +kernel
theorem dX1_read_33 : decode cX1_read 33 = .ok (.aload_n 0, 1) := by decide +kernel
theorem dX1_read_34 : decode cX1_read 34 = .ok (.getfield 14, 3) := by decide +kernel
theorem dX1_read_37 : decode cX1_read 37 = .ok (.aload_n 1, 1) := by decide +kernel
theorem dX1_read_38 : decode cX1_read 38 = .ok (.aload_n 0, 1) := by decide +kernel
theorem dX1_read_39 : decode cX1_read 39 = .ok (.getfield 47, 3) := by decide +kernel
theorem dX1_read_42 : decode cX1_read 42 = .ok (.aload_n 0, 1) := by decide +kernel
theorem dX1_read_43 : decode cX1_read 43 = .ok (.getfield 47, 3) := by decide +kernel
theorem dX1_read_46 : decode cX1_read 46 = .ok (.bipush 9, 2) := by decide +kernel
theorem dX1_read_48 : decode cX1_read 48 = .ok (.iadd, 1) := by decide +kernel
theorem dX1_read_49 : decode cX1_read 49 = .ok (.iload 4, 2) := by decide +kernel
theorem dX1_read_51 : decode cX1_read 51 = .ok (.iadd, 1) := by decide +kernel
theorem dX1_read_52 : decode cX1_read 52 = .ok (.invokevirtual 89, 3) := by decide +kernel
theorem dX1_read_55 : decode cX1_read 55 = .ok (.aload_n 0, 1) := by decide +kernel
theorem dX1_read_56 : decode cX1_read 56 = .ok (.invokevirtual 65, 3) := by decide +kernel
theorem dX1_read_59 : decode cX1_read 59 = .ok (.aload_n 0, 1) := by decide +kernel
theorem dX1_read_60 : decode cX1_read 60 = .ok (.aload_n 1, 1) := by decide +kernel
theorem dX1_read_61 : decode cX1_read 61 = .ok (.invokevirtual 81, 3) := by decide +kernel
theorem dX1_read_64 : decode cX1_read 64 = .ok (.istore_n 2, 1) := by decide +kernel
theorem dX1_read_65 : decode cX1_read 65 = .ok (.iinc 3 1, 3) := by decide +kernel
theorem dX1_read_68 : decode cX1_read 68 = .ok (.goto (-60), 3) := by decide +kernel
theorem dX1_read_71 : decode cX1_read 71 = .ok (.iload_n 2, 1) := by decide +kernel
theorem dX1_read_72 : decode cX1_read 72 = .ok (.ireturn, 1) := by decide +kernel
set_option maxRecDepth 20000 in
theorem ggX1_judgeNext_X0_isZeroFrom : GoodIn wsX1_judgeNext wsX0_isZeroFrom := goodIn_r _ [7, 8, 9, 10, 11, 6, 12, 43] (by decide +kernel) (by decide +kernel)
set_option maxRecDepth 20000 in
theorem gX1_judgeNext_X0_isZeroFrom : GoodIn wsX1_judgeNext (wsV RX1 93 RX0 yX0_isZeroFrom wsX0_isZeroFrom) := goodIn_app (goodIn_of _ (by decide +kernel)) ggX1_judgeNext_X0_isZeroFrom
set_option maxRecDepth 20000 in
theorem ggX1_judgeNext_X0_at : GoodIn wsX1_judgeNext wsX0_at := goodIn_r _ [12, 8, 43] (by decide +kernel) (by decide +kernel)
set_option maxRecDepth 20000 in
theorem gX1_judgeNext_X0_at : GoodIn wsX1_judgeNext (wsV RX1 33 RX0 yX0_at wsX0_at) := goodIn_app (goodIn_of _ (by decide +kernel)) ggX1_judgeNext_X0_at
set_option maxRecDepth 20000 in
theorem ggX1_judgeNext_X0_length : GoodIn wsX1_judgeNext wsX0_length := goodIn_r _ [17, 8, 43] (by decide +kernel) (by decide +kernel)
set_option maxRecDepth 20000 in
theorem gX1_judgeNext_X0_length : GoodIn wsX1_judgeNext (wsV RX1 85 RX0 yX0_length wsX0_length) := goodIn_app (goodIn_of _ (by decide +kernel)) ggX1_judgeNext_X0_length
set_option maxRecDepth 20000 in
theorem ggX1_judgeNext_X2_isKind : GoodIn wsX1_judgeNext wsX2_isKind := goodIn_r _ [20] (by decide +kernel) (by decide +kernel)
set_option maxRecDepth 20000 in
theorem gX1_judgeNext_X2_isKind_n97 : GoodIn wsX1_judgeNext (wsX2_isKind) := ggX1_judgeNext_X2_isKind
set_option maxRecDepth 20000 in
theorem ggX1_judgeNext_X0_numberAt : GoodIn wsX1_judgeNext wsX0_numberAt := goodIn_r _ [24, 9, 10, 11, 6, 12, 8, 43] (by decide +kernel) (by decide +kernel)
set_option maxRecDepth 20000 in
theorem gX1_judgeNext_X0_numberAt : GoodIn wsX1_judgeNext (wsV RX1 100 RX0 yX0_numberAt wsX0_numberAt) := goodIn_app (goodIn_of _ (by decide +kernel)) ggX1_judgeNext_X0_numberAt
set_option maxRecDepth 20000 in
theorem ggX1_judgeNext_X2_sumOfRow : GoodIn wsX1_judgeNext wsX2_sumOfRow := goodIn_r _ [26, 27, 28, 10, 11, 6, 12, 8, 43] (by decide +kernel) (by decide +kernel)
set_option maxRecDepth 20000 in
theorem gX1_judgeNext_X2_sumOfRow_n61 : GoodIn wsX1_judgeNext (wsX2_sumOfRow) := ggX1_judgeNext_X2_sumOfRow
set_option maxRecDepth 20000 in
theorem ggX1_judgeNext_X1_isState : GoodIn wsX1_judgeNext wsX1_isState := goodIn_r _ [33, 34, 21, 22, 23, 6, 24, 9, 10, 11, 12, 8, 13, 35, 36, 37, 38, 39, 40, 41, 42, 43] (by decide +kernel) (by decide +kernel)
set_option maxRecDepth 20000 in
theorem gX1_judgeNext_X1_isState : GoodIn wsX1_judgeNext (wsV RX1 103 RX1 yX1_isState wsX1_isState) := goodIn_app (goodIn_of _ (by decide +kernel)) ggX1_judgeNext_X1_isState
theorem dX1_judgeNext_0 : decode cX1_judgeNext 0 = .ok (.aload_n 1, 1) := by decide +kernel
theorem dX1_judgeNext_1 : decode cX1_judgeNext 1 = .ok (.aload_n 0, 1) := by decide +kernel
theorem dX1_judgeNext_2 : decode cX1_judgeNext 2 = .ok (.getfield 47, 3) := by decide +kernel
theorem dX1_judgeNext_5 : decode cX1_judgeNext 5 = .ok (.invokevirtual 93, 3) := by decide +kernel
theorem dX1_judgeNext_8 : decode cX1_judgeNext 8 = .ok (.ifCond .eq 5, 3) := by decide +kernel
theorem dX1_judgeNext_11 : decode cX1_judgeNext 11 = .ok (.iconst 0, 1) := by decide +kernel
theorem dX1_judgeNext_12 : decode cX1_judgeNext 12 = .ok (.ireturn, 1) := by decide +kernel
theorem dX1_judgeNext_13 : decode cX1_judgeNext 13 = .ok (.aload_n 1, 1) := by decide +kernel
theorem dX1_judgeNext_14 : decode cX1_judgeNext 14 = .ok (.aload_n 0, 1) := by decide +kernel
theorem dX1_judgeNext_15 : decode cX1_judgeNext 15 = .ok (.getfield 47, 3) := by decide +kernel
theorem dX1_judgeNext_18 : decode cX1_judgeNext 18 = .ok (.invokevirtual 33, 3) := by decide +kernel
theorem dX1_judgeNext_21 : decode cX1_judgeNext 21 = .ok (.bipush 90, 2) := by decide +kernel
theorem dX1_judgeNext_23 : decode cX1_judgeNext 23 = .ok (.if_icmp .eq 5, 3) := by decide +kernel
theorem dX1_judgeNext_26 : decode cX1_judgeNext 26 = .ok (.iconst 1, 1) := by decide +kernel
theorem dX1_judgeNext_27 : decode cX1_judgeNext 27 = .ok (.ireturn, 1) := by decide +kernel
theorem dX1_judgeNext_28 : decode cX1_judgeNext 28 = .ok (.aload_n 0, 1) := by decide +kernel
theorem dX1_judgeNext_29 : decode cX1_judgeNext 29 = .ok (.getfield 47, 3) := by decide +kernel
theorem dX1_judgeNext_32 : decode cX1_judgeNext 32 = .ok (.iconst 4, 1) := by decide +kernel
theorem dX1_judgeNext_33 : decode cX1_judgeNext 33 = .ok (.iadd, 1) := by decide +kernel
theorem dX1_judgeNext_34 : decode cX1_judgeNext 34 = .ok (.aload_n 1, 1) := by decide +kernel
theorem dX1_judgeNext_35 : decode cX1_judgeNext 35 = .ok (.invokevirtual 85, 3) := by decide +kernel
theorem dX1_judgeNext_38 : decode cX1_judgeNext 38 = .ok (.if_icmp .lt 5, 3) := by decide +kernel
theorem dX1_judgeNext_41 : decode cX1_judgeNext 41 = .ok (.iconst 4, 1) := by decide +kernel
theorem dX1_judgeNext_42 : decode cX1_judgeNext 42 = .ok (.ireturn, 1) := by decide +kernel
theorem dX1_judgeNext_43 : decode cX1_judgeNext 43 = .ok (.aload_n 1, 1) := by decide +kernel
theorem dX1_judgeNext_44 : decode cX1_judgeNext 44 = .ok (.aload_n 0, 1) := by decide +kernel
theorem dX1_judgeNext_45 : decode cX1_judgeNext 45 = .ok (.getfield 47, 3) := by decide +kernel
theorem dX1_judgeNext_48 : decode cX1_judgeNext 48 = .ok (.iconst 1, 1) := by decide +kernel
theorem dX1_judgeNext_49 : decode cX1_judgeNext 49 = .ok (.iadd, 1) := by decide +kernel
theorem dX1_judgeNext_50 : decode cX1_judgeNext 50 = .ok (.invokevirtual 33, 3) := by decide +kernel
theorem dX1_judgeNext_53 : decode cX1_judgeNext 53 = .ok (.invokestatic 97, 3) := by decide +kernel
theorem dX1_judgeNext_56 : decode cX1_judgeNext 56 = .ok (.ifCond .ne 5, 3) := by decide +kernel
theorem dX1_judgeNext_59 : decode cX1_judgeNext 59 = .ok (.iconst 2, 1) := by decide +kernel
theorem dX1_judgeNext_60 : decode cX1_judgeNext 60 = .ok (.ireturn, 1) := by decide +kernel
theorem dX1_judgeNext_61 : decode cX1_judgeNext 61 = .ok (.aload_n 1, 1) := by decide +kernel
theorem dX1_judgeNext_62 : decode cX1_judgeNext 62 = .ok (.aload_n 0, 1) := by decide +kernel
theorem dX1_judgeNext_63 : decode cX1_judgeNext 63 = .ok (.getfield 47, 3) := by decide +kernel
theorem dX1_judgeNext_66 : decode cX1_judgeNext 66 = .ok (.iconst 2, 1) := by decide +kernel
theorem dX1_judgeNext_67 : decode cX1_judgeNext 67 = .ok (.iadd, 1) := by decide +kernel
theorem dX1_judgeNext_68 : decode cX1_judgeNext 68 = .ok (.iconst 2, 1) := by decide +kernel
theorem dX1_judgeNext_69 : decode cX1_judgeNext 69 = .ok (.invokevirtual 100, 3) := by decide +kernel
theorem dX1_judgeNext_72 : decode cX1_judgeNext 72 = .ok (.aload_n 0, 1) := by decide +kernel
theorem dX1_judgeNext_73 : decode cX1_judgeNext 73 = .ok (.getfield 29, 3) := by decide +kernel
theorem dX1_judgeNext_76 : decode cX1_judgeNext 76 = .ok (.iconst 1, 1) := by decide +kernel
theorem dX1_judgeNext_77 : decode cX1_judgeNext 77 = .ok (.iadd, 1) := by decide +kernel
theorem dX1_judgeNext_78 : decode cX1_judgeNext 78 = .ok (.if_icmp .eq 5, 3) := by decide +kernel
theorem dX1_judgeNext_81 : decode cX1_judgeNext 81 = .ok (.iconst 3, 1) := by decide +kernel
theorem dX1_judgeNext_82 : decode cX1_judgeNext 82 = .ok (.ireturn, 1) := by decide +kernel
theorem dX1_judgeNext_83 : decode cX1_judgeNext 83 = .ok (.aload_n 1, 1) := by decide +kernel
theorem dX1_judgeNext_84 : decode cX1_judgeNext 84 = .ok (.aload_n 0, 1) := by decide +kernel
theorem dX1_judgeNext_85 : decode cX1_judgeNext 85 = .ok (.getfield 47, 3) := by decide +kernel
theorem dX1_judgeNext_88 : decode cX1_judgeNext 88 = .ok (.iconst 4, 1) := by decide +kernel
theorem dX1_judgeNext_89 : decode cX1_judgeNext 89 = .ok (.iadd, 1) := by decide +kernel
theorem dX1_judgeNext_90 : decode cX1_judgeNext 90 = .ok (.invokevirtual 33, 3) := by decide +kernel
theorem dX1_judgeNext_93 : decode cX1_judgeNext 93 = .ok (.istore_n 2, 1) := by decide +kernel
theorem dX1_judgeNext_94 : decode cX1_judgeNext 94 = .ok (.iload_n 2, 1) := by decide +kernel
theorem dX1_judgeNext_95 : decode cX1_judgeNext 95 = .ok (.bipush 20, 2) := by decide +kernel
theorem dX1_judgeNext_97 : decode cX1_judgeNext 97 = .ok (.if_icmp .gt 19, 3) := by decide +kernel
theorem dX1_judgeNext_100 : decode cX1_judgeNext 100 = .ok (.aload_n 0, 1) := by decide +kernel
theorem dX1_judgeNext_101 : decode cX1_judgeNext 101 = .ok (.getfield 47, 3) := by decide +kernel
theorem dX1_judgeNext_104 : decode cX1_judgeNext 104 = .ok (.bipush 9, 2) := by decide +kernel
theorem dX1_judgeNext_106 : decode cX1_judgeNext 106 = .ok (.iadd, 1) := by decide +kernel
theorem dX1_judgeNext_107 : decode cX1_judgeNext 107 = .ok (.iload_n 2, 1) := by decide +kernel
theorem dX1_judgeNext_108 : decode cX1_judgeNext 108 = .ok (.iadd, 1) := by decide +kernel
theorem dX1_judgeNext_109 : decode cX1_judgeNext 109 = .ok (.aload_n 1, 1) := by decide +kernel
theorem dX1_judgeNext_110 : decode cX1_judgeNext 110 = .ok (.invokevirtual 85, 3) := by decide +kernel
theorem dX1_judgeNext_113 : decode cX1_judgeNext 113 = .ok (.if_icmp .le 5, 3) := by decide +kernel
theorem dX1_judgeNext_116 : decode cX1_judgeNext 116 = .ok (.iconst 4, 1) := by decide +kernel
theorem dX1_judgeNext_117 : decode cX1_judgeNext 117 = .ok (.ireturn, 1) := by decide +kernel
theorem dX1_judgeNext_118 : decode cX1_judgeNext 118 = .ok (.aload_n 1, 1) := by decide +kernel
theorem dX1_judgeNext_119 : decode cX1_judgeNext 119 = .ok (.aload_n 0, 1) := by decide +kernel
theorem dX1_judgeNext_120 : decode cX1_judgeNext 120 = .ok (.getfield 47, 3) := by decide +kernel
theorem dX1_judgeNext_123 : decode cX1_judgeNext 123 = .ok (.iconst 5, 1) := by decide +kernel
theorem dX1_judgeNext_124 : decode cX1_judgeNext 124 = .ok (.iadd, 1) := by decide +kernel
theorem dX1_judgeNext_125 : decode cX1_judgeNext 125 = .ok (.iload_n 2, 1) := by decide +kernel
theorem dX1_judgeNext_126 : decode cX1_judgeNext 126 = .ok (.iadd, 1) := by decide +kernel
theorem dX1_judgeNext_127 : decode cX1_judgeNext 127 = .ok (.iconst 4, 1) := by decide +kernel
theorem dX1_judgeNext_128 : decode cX1_judgeNext 128 = .ok (.invokevirtual 100, 3) := by decide +kernel
theorem dX1_judgeNext_131 : decode cX1_judgeNext 131 = .ok (.aload_n 1, 1) := by decide +kernel
theorem dX1_judgeNext_132 : decode cX1_judgeNext 132 = .ok (.aload_n 0, 1) := by decide +kernel
theorem dX1_judgeNext_133 : decode cX1_judgeNext 133 = .ok (.getfield 47, 3) := by decide +kernel
theorem dX1_judgeNext_136 : decode cX1_judgeNext 136 = .ok (.iload_n 2, 1) := by decide +kernel
theorem dX1_judgeNext_137 : decode cX1_judgeNext 137 = .ok (.invokestatic 61, 3) := by decide +kernel
theorem dX1_judgeNext_140 : decode cX1_judgeNext 140 = .ok (.if_icmp .eq 5, 3) := by decide +kernel
theorem dX1_judgeNext_143 : decode cX1_judgeNext 143 = .ok (.iconst 5, 1) := by decide +kernel
theorem dX1_judgeNext_144 : decode cX1_judgeNext 144 = .ok (.ireturn, 1) := by decide +kernel
theorem dX1_judgeNext_145 : decode cX1_judgeNext 145 = .ok (.aload_n 1, 1) := by decide +kernel
theorem dX1_judgeNext_146 : decode cX1_judgeNext 146 = .ok (.aload_n 0, 1) := by decide +kernel
theorem dX1_judgeNext_147 : decode cX1_judgeNext 147 = .ok (.getfield 47, 3) := by decide +kernel
theorem dX1_judgeNext_150 : decode cX1_judgeNext 150 = .ok (.iconst 1, 1) := by decide +kernel
theorem dX1_judgeNext_151 : decode cX1_judgeNext 151 = .ok (.iadd, 1) := by decide +kernel
theorem dX1_judgeNext_152 : decode cX1_judgeNext 152 = .ok (.invokevirtual 33, 3) := by decide +kernel
theorem dX1_judgeNext_155 : decode cX1_judgeNext 155 = .ok (.iconst 5, 1) := by decide +kernel
theorem dX1_judgeNext_156 : decode cX1_judgeNext 156 = .ok (.if_icmp .ne 21, 3) := by decide +kernel
theorem dX1_judgeNext_159 : decode cX1_judgeNext 159 = .ok (.aload_n 0, 1) := by decide +kernel
theorem dX1_judgeNext_160 : decode cX1_judgeNext 160 = .ok (.aload_n 1, 1) := by decide +kernel
theorem dX1_judgeNext_161 : decode cX1_judgeNext 161 = .ok (.aload_n 0, 1) := by decide +kernel
theorem dX1_judgeNext_162 : decode cX1_judgeNext 162 = .ok (.getfield 47, 3) := by decide +kernel
theorem dX1_judgeNext_165 : decode cX1_judgeNext 165 = .ok (.iconst 5, 1) := by decide +kernel
theorem dX1_judgeNext_166 : decode cX1_judgeNext 166 = .ok (.iadd, 1) := by decide +kernel
theorem dX1_judgeNext_167 : decode cX1_judgeNext 167 = .ok (.iload_n 2, 1) := by decide +kernel
theorem dX1_judgeNext_168 : decode cX1_judgeNext 168 = .ok (.invokevirtual 103, 3) := by decide +kernel
theorem dX1_judgeNext_171 : decode cX1_judgeNext 171 = .ok (.ifCond .ne 6, 3) := by decide +kernel
theorem dX1_judgeNext_174 : decode cX1_judgeNext 174 = .ok (.bipush 6, 2) := by decide +kernel
theorem dX1_judgeNext_176 : decode cX1_judgeNext 176 = .ok (.ireturn, 1) := by decide +kernel
theorem dX1_judgeNext_177 : decode cX1_judgeNext 177 = .ok (.iconst (-1), 1) := by decide +kernel
theorem dX1_judgeNext_178 : decode cX1_judgeNext 178 = .ok (.ireturn, 1) := by decide +kernel
set_option maxRecDepth 20000 in
theorem ggX1_isState_X0_numberAt : GoodIn wsX1_isState wsX0_numberAt := goodIn_r _ [6, 7, 8, 9, 5, 10, 11, 21] (by decide +kernel) (by decide +kernel)
set_option maxRecDepth 20000 in
theorem gX1_isState_X0_numberAt : GoodIn wsX1_isState (wsV RX1 100 RX0 yX0_numberAt wsX0_numberAt) := goodIn_app (goodIn_of _ (by decide +kernel)) ggX1_isState_X0_numberAt
set_option maxRecDepth 20000 in
theorem ggX1_isState_X0_at : GoodIn wsX1_isState wsX0_at := goodIn_r _ [10, 11, 21] (by decide +kernel) (by decide +kernel)
set_option maxRecDepth 20000 in
theorem gX1_isState_X0_at : GoodIn wsX1_isState (wsV RX1 33 RX0 yX0_at wsX0_at) := goodIn_app (goodIn_of _ (by decide +kernel)) ggX1_isState_X0_at
theorem dX1_isState_0 : decode cX1_isState 0 = .ok (.iload_n 3, 1) := by decide +kernel
theorem dX1_isState_1 : decode cX1_isState 1 = .ok (.bipush 8, 2) := by decide +kernel
theorem dX1_isState_3 : decode cX1_isState 3 = .ok (.if_icmp .eq 5, 3) := by decide +kernel
theorem dX1_isState_6 : decode cX1_isState 6 = .ok (.iconst 0, 1) := by decide +kernel
theorem dX1_isState_7 : decode cX1_isState 7 = .ok (.ireturn, 1) := by decide +kernel
theorem dX1_isState_8 : decode cX1_isState 8 = .ok (.iconst 1, 1) := by decide +kernel
theorem dX1_isState_9 : decode cX1_isState 9 = .ok (.istore 4, 2) := by decide +kernel
theorem dX1_isState_11 : decode cX1_isState 11 = .ok (.iload 4, 2) := by decide +kernel
theorem dX1_isState_13 : decode cX1_isState 13 = .ok (.iconst 5, 1) := by decide +kernel
theorem dX1_isState_14 : decode cX1_isState 14 = .ok (.if_icmp .ge 36, 3) := by decide +kernel
theorem dX1_isState_17 : decode cX1_isState 17 = .ok (.aload_n 1, 1) := by decide +kernel
theorem dX1_isState_18 : decode cX1_isState 18 = .ok (.iload_n 2, 1) := by decide +kernel
theorem dX1_isState_19 : decode cX1_isState 19 = .ok (.iconst 2, 1) := by decide +kernel
theorem dX1_isState_20 : decode cX1_isState 20 = .ok (.iload 4, 2) := by decide +kernel
theorem dX1_isState_22 : decode cX1_isState 22 = .ok (.iconst 1, 1) := by decide +kernel
theorem dX1_isState_23 : decode cX1_isState 23 = .ok (.isub, 1) := by decide +kernel
theorem dX1_isState_24 : decode cX1_isState 24 = .ok (.imul, 1) := by decide +kernel
theorem dX1_isState_25 : decode cX1_isState 25 = .ok (.iadd, 1) := by decide +kernel
theorem dX1_isState_26 : decode cX1_isState 26 = .ok (.iconst 2, 1) := by decide +kernel
theorem dX1_isState_27 : decode cX1_isState 27 = .ok (.invokevirtual 100, 3) := by decide +kernel
theorem dX1_isState_30 : decode cX1_isState 30 = .ok (.aload_n 0, 1) := by decide +kernel
theorem dX1_isState_31 : decode cX1_isState 31 = .ok (.getfield 23, 3) := by decide +kernel
theorem dX1_isState_34 : decode cX1_isState 34 = .ok (.iload 4, 2) := by decide +kernel
theorem dX1_isState_36 : decode cX1_isState 36 = .ok (.invokevirtual 33, 3) := by decide +kernel
theorem dX1_isState_39 : decode cX1_isState 39 = .ok (.if_icmp .eq 5, 3) := by decide +kernel
theorem dX1_isState_42 : decode cX1_isState 42 = .ok (.iconst 0, 1) := by decide +kernel
theorem dX1_isState_43 : decode cX1_isState 43 = .ok (.ireturn, 1) := by decide +kernel
theorem dX1_isState_44 : decode cX1_isState 44 = .ok (.iinc 4 1, 3) := by decide +kernel
theorem dX1_isState_47 : decode cX1_isState 47 = .ok (.goto (-36), 3) := by decide +kernel
theorem dX1_isState_50 : decode cX1_isState 50 = .ok (.iconst 1, 1) := by decide +kernel
theorem dX1_isState_51 : decode cX1_isState 51 = .ok (.ireturn, 1) := by decide +kernel
set_option maxRecDepth 20000 in
theorem ggX1_fillState_X0_at : GoodIn wsX1_fillState wsX0_at := goodIn_r _ [7, 8, 25] (by decide +kernel) (by decide +kernel)
set_option maxRecDepth 20000 in
theorem gX1_fillState_X0_at : GoodIn wsX1_fillState (wsV RX1 33 RX0 yX0_at wsX0_at) := goodIn_app (goodIn_of _ (by decide +kernel)) ggX1_fillState_X0_at
set_option maxRecDepth 20000 in
theorem ggX1_fillState_X0_setNumber : GoodIn wsX1_fillState wsX0_setNumber := goodIn_r _ [12, 13, 14, 15, 6, 16, 8, 25] (by decide +kernel) (by decide +kernel)
set_option maxRecDepth 20000 in
theorem gX1_fillState_X0_setNumber : GoodIn wsX1_fillState (wsV RX1 57 RX0 yX0_setNumber wsX0_setNumber) := goodIn_app (goodIn_of _ (by decide +kernel)) ggX1_fillState_X0_setNumber
theorem dX1_fillState_0 : decode cX1_fillState 0 = .ok (.iconst 1, 1) := by decide +kernel
theorem dX1_fillState_1 : decode cX1_fillState 1 = .ok (.istore_n 1, 1) := by decide +kernel
theorem dX1_fillState_2 : decode cX1_fillState 2 = .ok (.iload_n 1, 1) := by decide +kernel
theorem dX1_fillState_3 : decode cX1_fillState 3 = .ok (.iconst 5, 1) := by decide +kernel
theorem dX1_fillState_4 : decode cX1_fillState 4 = .ok (.if_icmp .ge 30, 3) := by decide +kernel
theorem dX1_fillState_7 : decode cX1_fillState 7 = .ok (.aload_n 0, 1) := by decide +kernel
theorem dX1_fillState_8 : decode cX1_fillState 8 = .ok (.getfield 26, 3) := by decide +kernel
theorem dX1_fillState_11 : decode cX1_fillState 11 = .ok (.iconst 2, 1) := by decide +kernel
theorem dX1_fillState_12 : decode cX1_fillState 12 = .ok (.iload_n 1, 1) := by decide +kernel
theorem dX1_fillState_13 : decode cX1_fillState 13 = .ok (.iconst 1, 1) := by decide +kernel
theorem dX1_fillState_14 : decode cX1_fillState 14 = .ok (.isub, 1) := by decide +kernel
theorem dX1_fillState_15 : decode cX1_fillState 15 = .ok (.imul, 1) := by decide +kernel
theorem dX1_fillState_16 : decode cX1_fillState 16 = .ok (.iconst 2, 1) := by decide +kernel
theorem dX1_fillState_17 : decode cX1_fillState 17 = .ok (.aload_n 0, 1) := by decide +kernel
theorem dX1_fillState_18 : decode cX1_fillState 18 = .ok (.getfield 23, 3) := by decide +kernel
theorem dX1_fillState_21 : decode cX1_fillState 21 = .ok (.iload_n 1, 1) := by decide +kernel
theorem dX1_fillState_22 : decode cX1_fillState 22 = .ok (.invokevirtual 33, 3) := by decide +kernel
theorem dX1_fillState_25 : decode cX1_fillState 25 = .ok (.invokevirtual 57, 3) := by decide +kernel
theorem dX1_fillState_28 : decode cX1_fillState 28 = .ok (.iinc 1 1, 3) := by decide +kernel
theorem dX1_fillState_31 : decode cX1_fillState 31 = .ok (.goto (-29), 3) := by decide +kernel
theorem dX1_fillState_34 : decode cX1_fillState 34 = .ok (.return_, 1) := by decide +kernel
set_option maxRecDepth 20000 in
theorem ggX1_enlistNext_X0_set : GoodIn wsX1_enlistNext wsX0_set := goodIn_r _ [9, 10, 33] (by decide +kernel) (by decide +kernel)
set_option maxRecDepth 20000 in
theorem gX1_enlistNext_X0_set : GoodIn wsX1_enlistNext (wsV RX1 53 RX0 yX0_set wsX0_set) := goodIn_app (goodIn_of _ (by decide +kernel)) ggX1_enlistNext_X0_set
set_option maxRecDepth 20000 in
theorem ggX1_enlistNext_X1_kindOf : GoodIn wsX1_enlistNext wsX1_kindOf := goodIn_r _ [15, 16, 2, 17, 18, 19, 8, 20, 10, 25, 26, 27, 28, 29, 30, 31, 32, 33] (by decide +kernel) (by decide +kernel)
set_option maxRecDepth 20000 in
theorem gX1_enlistNext_X1_kindOf : GoodIn wsX1_enlistNext (wsV RX1 44 RX1 yX1_kindOf wsX1_kindOf) := goodIn_app (goodIn_of _ (by decide +kernel)) ggX1_enlistNext_X1_kindOf
set_option maxRecDepth 20000 in
theorem ggX1_enlistNext_X0_at : GoodIn wsX1_enlistNext wsX0_at := goodIn_r _ [20, 10, 33] (by decide +kernel) (by decide +kernel)
set_option maxRecDepth 20000 in
theorem gX1_enlistNext_X0_at : GoodIn wsX1_enlistNext (wsV RX1 33 RX0 yX0_at wsX0_at) := goodIn_app (goodIn_of _ (by decide +kernel)) ggX1_enlistNext_X0_at
set_option maxRecDepth 20000 in
theorem ggX1_enlistNext_X1_lengthOf : GoodIn wsX1_enlistNext wsX1_lengthOf := goodIn_r _ [24, 16, 2, 17, 18, 19, 8, 20, 10, 25, 26, 27, 28, 29, 30, 31, 32, 33] (by decide +kernel) (by decide +kernel)
set_option maxRecDepth 20000 in
theorem gX1_enlistNext_X1_lengthOf : GoodIn wsX1_enlistNext (wsV RX1 37 RX1 yX1_lengthOf wsX1_lengthOf) := goodIn_app (goodIn_of _ (by decide +kernel)) ggX1_enlistNext_X1_lengthOf
theorem dX1_enlistNext_0 : decode cX1_enlistNext 0 = .ok (.aload_n 0, 1) := by decide +kernel
theorem dX1_enlistNext_1 : decode cX1_enlistNext 1 = .ok (.dup, 1) := by decide +kernel
theorem dX1_enlistNext_2 : decode cX1_enlistNext 2 = .ok (.getfield 29, 3) := by decide +kernel
theorem dX1_enlistNext_5 : decode cX1_enlistNext 5 = .ok (.iconst 1, 1) := by decide +kernel
theorem dX1_enlistNext_6 : decode cX1_enlistNext 6 = .ok (.iadd, 1) := by decide +kernel
theorem dX1_enlistNext_7 : decode cX1_enlistNext 7 = .ok (.putfield 29, 3) := by decide +kernel
theorem dX1_enlistNext_10 : decode cX1_enlistNext 10 = .ok (.aload_n 0, 1) := by decide +kernel
theorem dX1_enlistNext_11 : decode cX1_enlistNext 11 = .ok (.getfield 20, 3) := by decide +kernel
theorem dX1_enlistNext_14 : decode cX1_enlistNext 14 = .ok (.aload_n 0, 1) := by decide +kernel
theorem dX1_enlistNext_15 : decode cX1_enlistNext 15 = .ok (.getfield 29, 3) := by decide +kernel
theorem dX1_enlistNext_18 : decode cX1_enlistNext 18 = .ok (.aload_n 0, 1) := by decide +kernel
theorem dX1_enlistNext_19 : decode cX1_enlistNext 19 = .ok (.getfield 47, 3) := by decide +kernel
theorem dX1_enlistNext_22 : decode cX1_enlistNext 22 = .ok (.invokevirtual 53, 3) := by decide +kernel
theorem dX1_enlistNext_25 : decode cX1_enlistNext 25 = .ok (.aload_n 0, 1) := by decide +kernel
theorem dX1_enlistNext_26 : decode cX1_enlistNext 26 = .ok (.aload_n 0, 1) := by decide +kernel
theorem dX1_enlistNext_27 : decode cX1_enlistNext 27 = .ok (.getfield 29, 3) := by decide +kernel
theorem dX1_enlistNext_30 : decode cX1_enlistNext 30 = .ok (.invokevirtual 44, 3) := by decide +kernel
theorem dX1_enlistNext_33 : decode cX1_enlistNext 33 = .ok (.istore_n 1, 1) := by decide +kernel
theorem dX1_enlistNext_34 : decode cX1_enlistNext 34 = .ok (.aload_n 0, 1) := by decide +kernel
theorem dX1_enlistNext_35 : decode cX1_enlistNext 35 = .ok (.getfield 23, 3) := by decide +kernel
theorem dX1_enlistNext_38 : decode cX1_enlistNext 38 = .ok (.iload_n 1, 1) := by decide +kernel
theorem dX1_enlistNext_39 : decode cX1_enlistNext 39 = .ok (.aload_n 0, 1) := by decide +kernel
theorem dX1_enlistNext_40 : decode cX1_enlistNext 40 = .ok (.getfield 23, 3) := by decide +kernel
theorem dX1_enlistNext_43 : decode cX1_enlistNext 43 = .ok (.iload_n 1, 1) := by decide +kernel
theorem dX1_enlistNext_44 : decode cX1_enlistNext 44 = .ok (.invokevirtual 33, 3) := by decide +kernel
theorem dX1_enlistNext_47 : decode cX1_enlistNext 47 = .ok (.iconst 1, 1) := by decide +kernel
theorem dX1_enlistNext_48 : decode cX1_enlistNext 48 = .ok (.iadd, 1) := by decide +kernel
theorem dX1_enlistNext_49 : decode cX1_enlistNext 49 = .ok (.invokevirtual 53, 3) := by decide +kernel
theorem dX1_enlistNext_52 : decode cX1_enlistNext 52 = .ok (.aload_n 0, 1) := by decide +kernel
theorem dX1_enlistNext_53 : decode cX1_enlistNext 53 = .ok (.dup, 1) := by decide +kernel
theorem dX1_enlistNext_54 : decode cX1_enlistNext 54 = .ok (.getfield 47, 3) := by decide +kernel
theorem dX1_enlistNext_57 : decode cX1_enlistNext 57 = .ok (.bipush 9, 2) := by decide +kernel
theorem dX1_enlistNext_59 : decode cX1_enlistNext 59 = .ok (.aload_n 0, 1) := by decide +kernel
theorem dX1_enlistNext_60 : decode cX1_enlistNext 60 = .ok (.aload_n 0, 1) := by decide +kernel
theorem dX1_enlistNext_61 : decode cX1_enlistNext 61 = .ok (.getfield 29, 3) := by decide +kernel
theorem dX1_enlistNext_64 : decode cX1_enlistNext 64 = .ok (.invokevirtual 37, 3) := by decide +kernel
theorem dX1_enlistNext_67 : decode cX1_enlistNext 67 = .ok (.iadd, 1) := by decide +kernel
theorem dX1_enlistNext_68 : decode cX1_enlistNext 68 = .ok (.iadd, 1) := by decide +kernel
theorem dX1_enlistNext_69 : decode cX1_enlistNext 69 = .ok (.putfield 47, 3) := by decide +kernel
theorem dX1_enlistNext_72 : decode cX1_enlistNext 72 = .ok (.return_, 1) := by decide +kernel
set_option maxRecDepth 20000 in
theorem ggX2_init_X0_init : GoodIn wsX2_init wsX0_init := goodIn_r _ [26, 27, 2, 3, 28, 9, 6, 10, 29, 30, 50] (by decide +kernel) (by decide +kernel)
set_option maxRecDepth 20000 in
theorem gX2_init_X0_init : GoodIn wsX2_init (wsX0_init) := ggX2_init_X0_init
set_option maxRecDepth 20000 in
theorem ggX2_init_X1_init : GoodIn wsX2_init wsX1_init := goodIn_r _ [33, 34, 2, 3, 35, 13, 14, 36, 37, 38, 39, 40, 25, 26, 27, 28, 9, 6, 10, 29, 30, 50, 51, 52, 53, 54, 55, 56, 57, 58] (by decide +kernel) (by decide +kernel)
set_option maxRecDepth 20000 in
theorem gX2_init_X1_init : GoodIn wsX2_init (wsX1_init) := ggX2_init_X1_init
theorem dX2_init_0 : decode cX2_init 0 = .ok (.aload_n 0, 1) := by decide +kernel
theorem dX2_init_1 : decode cX2_init 1 = .ok (.invokespecial 3, 3) := by decide +kernel
theorem dX2_init_4 : decode cX2_init 4 = .ok (.aload_n 0, 1) := by decide +kernel
theorem dX2_init_5 : decode cX2_init 5 = .ok (.iconst 1, 1) := by decide +kernel
theorem dX2_init_6 : decode cX2_init 6 = .ok (.bipush 64, 2) := by decide +kernel
theorem dX2_init_8 : decode cX2_init 8 = .ok (.iload_n 1, 1) := by decide +kernel
theorem dX2_init_9 : decode cX2_init 9 = .ok (.invokestatic 9, 3) := by decide +kernel
theorem dX2_init_12 : decode cX2_init 12 = .ok (.invokestatic 15, 3) := by decide +kernel
theorem dX2_init_15 : decode cX2_init 15 = .ok (.putfield 18, 3) := by decide +kernel
theorem dX2_init_18 : decode cX2_init 18 = .ok (.aload_n 0, 1) := by decide +kernel
theorem dX2_init_19 : decode cX2_init 19 = .ok (.getfield 18, 3) := by decide +kernel
theorem dX2_init_22 : decode cX2_init 22 = .ok (.bipush 32, 2) := by decide +kernel
theorem dX2_init_24 : decode cX2_init 24 = .ok (.imul, 1) := by decide +kernel
theorem dX2_init_25 : decode cX2_init 25 = .ok (.istore_n 2, 1) := by decide +kernel
theorem dX2_init_26 : decode cX2_init 26 = .ok (.aload_n 0, 1) := by decide +kernel
theorem dX2_init_27 : decode cX2_init 27 = .ok (.new 22, 3) := by decide +kernel
theorem dX2_init_30 : decode cX2_init 30 = .ok (.dup, 1) := by decide +kernel
theorem dX2_init_31 : decode cX2_init 31 = .ok (.iload_n 2, 1) := by decide +kernel
theorem dX2_init_32 : decode cX2_init 32 = .ok (.invokespecial 24, 3) := by decide +kernel
theorem dX2_init_35 : decode cX2_init 35 = .ok (.putfield 27, 3) := by decide +kernel
theorem dX2_init_38 : decode cX2_init 38 = .ok (.aload_n 0, 1) := by decide +kernel
theorem dX2_init_39 : decode cX2_init 39 = .ok (.new 22, 3) := by decide +kernel
theorem dX2_init_42 : decode cX2_init 42 = .ok (.dup, 1) := by decide +kernel
theorem dX2_init_43 : decode cX2_init 43 = .ok (.iload_n 2, 1) := by decide +kernel
theorem dX2_init_44 : decode cX2_init 44 = .ok (.invokespecial 24, 3) := by decide +kernel
theorem dX2_init_47 : decode cX2_init 47 = .ok (.putfield 31, 3) := by decide +kernel
theorem dX2_init_50 : decode cX2_init 50 = .ok (.aload_n 0, 1) := by decide +kernel
theorem dX2_init_51 : decode cX2_init 51 = .ok (.new 22, 3) := by decide +kernel
theorem dX2_init_54 : decode cX2_init 54 = .ok (.dup, 1) := by decide +kernel
theorem dX2_init_55 : decode cX2_init 55 = .ok (.bipush 20, 2) := by decide +kernel
theorem dX2_init_57 : decode cX2_init 57 = .ok (.invokespecial 24, 3) := by decide +kernel
theorem dX2_init_60 : decode cX2_init 60 = .ok (.putfield 34, 3) := by decide +kernel
theorem dX2_init_63 : decode cX2_init 63 = .ok (.aload_n 0, 1) := by decide +kernel
theorem dX2_init_64 : decode cX2_init 64 = .ok (.new 37, 3) := by decide +kernel
theorem dX2_init_67 : decode cX2_init 67 = .ok (.dup, 1) := by decide +kernel
theorem dX2_init_68 : decode cX2_init 68 = .ok (.iload_n 2, 1) := by decide +kernel
theorem dX2_init_69 : decode cX2_init 69 = .ok (.invokespecial 39, 3) := by decide +kernel
theorem dX2_init_72 : decode cX2_init 72 = .ok (.putfield 40, 3) := by decide +kernel
theorem dX2_init_75 : decode cX2_init 75 = .ok (.aload_n 0, 1) := by decide +kernel
theorem dX2_init_76 : decode cX2_init 76 = .ok (.iconst 0, 1) := by decide +kernel
theorem dX2_init_77 : decode cX2_init 77 = .ok (.putfield 44, 3) := by decide +kernel
theorem dX2_init_80 : decode cX2_init 80 = .ok (.aload_n 0, 1) := by decide +kernel
theorem dX2_init_81 : decode cX2_init 81 = .ok (.iconst 1, 1) := by decide +kernel
theorem dX2_init_82 : decode cX2_init 82 = .ok (.putfield 47, 3) := by decide +kernel
theorem dX2_init_85 : decode cX2_init 85 = .ok (.return_, 1) := by decide +kernel
set_option maxRecDepth 20000 in
theorem ggX2_add_X2_refuseWhenDown : GoodIn wsX2_add wsX2_refuseWhenDown := goodIn_ca (goodIn_r _ [11, 12, 13, 14, 21, 22, 23, 24, 25, 26, 27, 28, 29] (by decide +kernel) (by decide +kernel)) (goodIn_sub (fun _ h => List.mem_cons_of_mem _ (List.mem_append_right _ h)) (by decide +kernel))
set_option maxRecDepth 20000 in
theorem gX2_add_X2_refuseWhenDown : GoodIn wsX2_add (wsV RX2 58 RX2 yX2_refuseWhenDown wsX2_refuseWhenDown) := goodIn_app (goodIn_of _ (by decide +kernel)) ggX2_add_X2_refuseWhenDown
set_option maxRecDepth 20000 in
theorem ggX2_add_X0_set : GoodIn wsX2_add wsX0_set := goodIn_r _ [19, 20, 30] (by decide +kernel) (by decide +kernel)
set_option maxRecDepth 20000 in
theorem gX2_add_X0_set : GoodIn wsX2_add (wsV RX2 69 RX0 yX0_set wsX0_set) := goodIn_app (goodIn_of _ (by decide +kernel)) ggX2_add_X0_set
theorem dX2_add_0 : decode cX2_add 0 = .ok (.iload_n 1, 1) := by decide +kernel
theorem dX2_add_1 : decode cX2_add 1 = .ok (.ifCond .lt 10, 3) := by decide +kernel
theorem dX2_add_4 : decode cX2_add 4 = .ok (.iload_n 1, 1) := by decide +kernel
theorem dX2_add_5 : decode cX2_add 5 = .ok (.sipush 255, 3) := by decide +kernel
theorem dX2_add_8 : decode cX2_add 8 = .ok (.if_icmp .le 13, 3) := by decide +kernel
theorem dX2_add_11 : decode cX2_add 11 = .ok (.new 51, 3) := by decide +kernel
theorem dX2_add_14 : decode cX2_add 14 = .ok (.dup, 1) := by decide +kernel
theorem dX2_add_15 : decode cX2_add 15 = .ok (.ldc 53, 2) := by decide +kernel
theorem dX2_add_17 : decode cX2_add 17 = .ok (.invokespecial 55, 3) := by decide +kernel
theorem dX2_add_20 : decode cX2_add 20 = .ok (.athrow, 1) := by decide +kernel
theorem dX2_add_21 : decode cX2_add 21 = .ok (.aload_n 0, 1) := by decide +kernel
theorem dX2_add_22 : decode cX2_add 22 = .ok (.invokevirtual 58, 3) := by decide +kernel
theorem dX2_add_25 : decode cX2_add 25 = .ok (.aload_n 0, 1) := by decide +kernel
theorem dX2_add_26 : decode cX2_add 26 = .ok (.getfield 61, 3) := by decide +kernel
theorem dX2_add_29 : decode cX2_add 29 = .ok (.bipush 20, 2) := by decide +kernel
theorem dX2_add_31 : decode cX2_add 31 = .ok (.if_icmp .lt 13, 3) := by decide +kernel
theorem dX2_add_34 : decode cX2_add 34 = .ok (.new 64, 3) := by decide +kernel
theorem dX2_add_37 : decode cX2_add 37 = .ok (.dup, 1) := by decide +kernel
theorem dX2_add_38 : decode cX2_add 38 = .ok (.ldc 66, 2) := by decide +kernel
theorem dX2_add_40 : decode cX2_add 40 = .ok (.invokespecial 68, 3) := by decide +kernel
theorem dX2_add_43 : decode cX2_add 43 = .ok (.athrow, 1) := by decide +kernel
theorem dX2_add_44 : decode cX2_add 44 = .ok (.aload_n 0, 1) := by decide +kernel
theorem dX2_add_45 : decode cX2_add 45 = .ok (.getfield 34, 3) := by decide +kernel
theorem dX2_add_48 : decode cX2_add 48 = .ok (.aload_n 0, 1) := by decide +kernel
theorem dX2_add_49 : decode cX2_add 49 = .ok (.getfield 61, 3) := by decide +kernel
theorem dX2_add_52 : decode cX2_add 52 = .ok (.iload_n 1, 1) := by decide +kernel
theorem dX2_add_53 : decode cX2_add 53 = .ok (.invokevirtual 69, 3) := by decide +kernel
theorem dX2_add_56 : decode cX2_add 56 = .ok (.aload_n 0, 1) := by decide +kernel
theorem dX2_add_57 : decode cX2_add 57 = .ok (.dup, 1) := by decide +kernel
theorem dX2_add_58 : decode cX2_add 58 = .ok (.getfield 61, 3) := by decide +kernel
theorem dX2_add_61 : decode cX2_add 61 = .ok (.iconst 1, 1) := by decide +kernel
theorem dX2_add_62 : decode cX2_add 62 = .ok (.iadd, 1) := by decide +kernel
theorem dX2_add_63 : decode cX2_add 63 = .ok (.putfield 61, 3) := by decide +kernel
theorem dX2_add_66 : decode cX2_add 66 = .ok (.aload_n 0, 1) := by decide +kernel
theorem dX2_add_67 : decode cX2_add 67 = .ok (.getfield 61, 3) := by decide +kernel
theorem dX2_add_70 : decode cX2_add 70 = .ok (.ireturn, 1) := by decide +kernel
set_option maxRecDepth 20000 in
theorem ggX2_end_X2_refuseOtherKind : GoodIn wsX2_end wsX2_refuseOtherKind := goodIn_ca (goodIn_r _ [10, 1, 2, 11, 12, 9, 13] (by decide +kernel) (by decide +kernel)) (goodIn_sub (fun _ h => List.mem_cons_of_mem _ (List.mem_append_left _ (List.mem_append_left _ (List.mem_append_right _ h)))) (by decide +kernel))
set_option maxRecDepth 20000 in
theorem gX2_end_X2_refuseOtherKind : GoodIn wsX2_end (wsV RX2 75 RX2 yX2_refuseOtherKind wsX2_refuseOtherKind) := goodIn_app (goodIn_of _ (by decide +kernel)) ggX2_end_X2_refuseOtherKind
set_option maxRecDepth 20000 in
theorem ggX2_end_X2_refuseWhenDown : GoodIn wsX2_end wsX2_refuseWhenDown := goodIn_ca (goodIn_r _ [17, 18, 19, 20, 73, 74, 75, 76, 77, 78, 79, 80, 81] (by decide +kernel) (by decide +kernel)) (goodIn_sub (fun _ h => List.mem_cons_of_mem _ (List.mem_append_left _ (List.mem_append_right _ h))) (by decide +kernel))
set_option maxRecDepth 20000 in
theorem gX2_end_X2_refuseWhenDown : GoodIn wsX2_end (wsV RX2 58 RX2 yX2_refuseWhenDown wsX2_refuseWhenDown) := goodIn_app (goodIn_of _ (by decide +kernel)) ggX2_end_X2_refuseWhenDown
set_option maxRecDepth 20000 in
theorem ggX2_end_X2_refuseWhenFull : GoodIn wsX2_end wsX2_refuseWhenFull := goodIn_ca (goodIn_r _ [24, 25, 26, 4, 27, 28, 29, 30, 31, 32, 33, 73, 74, 75, 76, 77, 78, 79, 80, 81, 82, 83, 84, 85, 86, 87, 88, 89, 90] (by decide +kernel) (by decide +kernel)) (goodIn_sub (fun _ h => List.mem_cons_of_mem _ (List.mem_append_right _ h)) (by decide +kernel))
set_option maxRecDepth 20000 in
theorem gX2_end_X2_refuseWhenFull : GoodIn wsX2_end (wsV RX2 78 RX2 yX2_refuseWhenFull wsX2_refuseWhenFull) := goodIn_app (goodIn_of _ (by decide +kernel)) ggX2_end_X2_refuseWhenFull
set_option maxRecDepth 20000 in
theorem ggX2_end_X1_write : GoodIn wsX2_end wsX1_write := goodIn_r _ [38, 39, 40, 41, 42, 43, 44, 31, 45, 33, 46, 47, 48, 49, 50, 51, 52, 53, 54, 55, 9, 56, 57, 58, 59, 60, 61, 37, 62, 63, 64, 65, 66, 67, 68, 69, 70, 71, 72, 82, 83, 84, 85, 86, 87, 88, 89, 90] (by decide +kernel) (by decide +kernel)
set_option maxRecDepth 20000 in
theorem gX2_end_X1_write : GoodIn wsX2_end (wsV RX2 81 RX1 yX1_write wsX1_write) := goodIn_app (goodIn_of _ (by decide +kernel)) ggX2_end_X1_write
theorem dX2_end_0 : decode cX2_end 0 = .ok (.iload_n 1, 1) := by decide +kernel
theorem dX2_end_1 : decode cX2_end 1 = .ok (.iconst 5, 1) := by decide +kernel
theorem dX2_end_2 : decode cX2_end 2 = .ok (.if_icmp .ne 13, 3) := by decide +kernel
theorem dX2_end_5 : decode cX2_end 5 = .ok (.new 51, 3) := by decide +kernel
theorem dX2_end_8 : decode cX2_end 8 = .ok (.dup, 1) := by decide +kernel
theorem dX2_end_9 : decode cX2_end 9 = .ok (.ldc 73, 2) := by decide +kernel
theorem dX2_end_11 : decode cX2_end 11 = .ok (.invokespecial 55, 3) := by decide +kernel
theorem dX2_end_14 : decode cX2_end 14 = .ok (.athrow, 1) := by decide +kernel
theorem dX2_end_15 : decode cX2_end 15 = .ok (.aload_n 0, 1) := by decide +kernel
theorem dX2_end_16 : decode cX2_end 16 = .ok (.iload_n 1, 1) := by decide +kernel
theorem dX2_end_17 : decode cX2_end 17 = .ok (.invokevirtual 75, 3) := by decide +kernel
theorem dX2_end_20 : decode cX2_end 20 = .ok (.aload_n 0, 1) := by decide +kernel
theorem dX2_end_21 : decode cX2_end 21 = .ok (.invokevirtual 58, 3) := by decide +kernel
theorem dX2_end_24 : decode cX2_end 24 = .ok (.aload_n 0, 1) := by decide +kernel
theorem dX2_end_25 : decode cX2_end 25 = .ok (.aload_n 0, 1) := by decide +kernel
theorem dX2_end_26 : decode cX2_end 26 = .ok (.getfield 61, 3) := by decide +kernel
theorem dX2_end_29 : decode cX2_end 29 = .ok (.invokevirtual 78, 3) := by decide +kernel
theorem dX2_end_32 : decode cX2_end 32 = .ok (.aload_n 0, 1) := by decide +kernel
theorem dX2_end_33 : decode cX2_end 33 = .ok (.getfield 40, 3) := by decide +kernel
theorem dX2_end_36 : decode cX2_end 36 = .ok (.iload_n 1, 1) := by decide +kernel
theorem dX2_end_37 : decode cX2_end 37 = .ok (.aload_n 0, 1) := by decide +kernel
theorem dX2_end_38 : decode cX2_end 38 = .ok (.getfield 34, 3) := by decide +kernel
theorem dX2_end_41 : decode cX2_end 41 = .ok (.aload_n 0, 1) := by decide +kernel
theorem dX2_end_42 : decode cX2_end 42 = .ok (.getfield 61, 3) := by decide +kernel
