theorem dX0_init_0 : decode cX0_init 0 = .ok (.aload_n 0, 1) := by decide +kernel
theorem dX0_init_1 : decode cX0_init 1 = .ok (.invokespecial 3, 3) := by decide +kernel
theorem dX0_init_4 : decode cX0_init 4 = .ok (.aload_n 0, 1) := by decide +kernel
theorem dX0_init_5 : decode cX0_init 5 = .ok (.iload_n 1, 1) := by decide +kernel
theorem dX0_init_6 : decode cX0_init 6 = .ok (.putfield 9, 3) := by decide +kernel
theorem dX0_init_9 : decode cX0_init 9 = .ok (.aload_n 0, 1) := by decide +kernel
theorem dX0_init_10 : decode cX0_init 10 = .ok (.ldc2_w 15, 3) := by decide +kernel
theorem dX0_init_13 : decode cX0_init 13 = .ok (.iload_n 2, 1) := by decide +kernel
theorem dX0_init_14 : decode cX0_init 14 = .ok (.i2l, 1) := by decide +kernel
theorem dX0_init_15 : decode cX0_init 15 = .ok (.lmul, 1) := by decide +kernel
theorem dX0_init_16 : decode cX0_init 16 = .ok (.putfield 17, 3) := by decide +kernel
theorem dX0_init_19 : decode cX0_init 19 = .ok (.aload_n 0, 1) := by decide +kernel
theorem dX0_init_20 : decode cX0_init 20 = .ok (.aload_n 0, 1) := by decide +kernel
theorem dX0_init_21 : decode cX0_init 21 = .ok (.getfield 17, 3) := by decide +kernel
theorem dX0_init_24 : decode cX0_init 24 = .ok (.putfield 21, 3) := by decide +kernel
theorem dX0_init_27 : decode cX0_init 27 = .ok (.return_, 1) := by decide +kernel
theorem dX0_fill_0 : decode cX0_fill 0 = .ok (.aload_n 0, 1) := by decide +kernel
theorem dX0_fill_1 : decode cX0_fill 1 = .ok (.aload_n 0, 1) := by decide +kernel
theorem dX0_fill_2 : decode cX0_fill 2 = .ok (.getfield 17, 3) := by decide +kernel
theorem dX0_fill_5 : decode cX0_fill 5 = .ok (.aload_n 0, 1) := by decide +kernel
theorem dX0_fill_6 : decode cX0_fill 6 = .ok (.getfield 21, 3) := by decide +kernel
theorem dX0_fill_9 : decode cX0_fill 9 = .ok (.aload_n 0, 1) := by decide +kernel
theorem dX0_fill_10 : decode cX0_fill 10 = .ok (.getfield 9, 3) := by decide +kernel
theorem dX0_fill_13 : decode cX0_fill 13 = .ok (.i2l, 1) := by decide +kernel
theorem dX0_fill_14 : decode cX0_fill 14 = .ok (.iload_n 1, 1) := by decide +kernel
theorem dX0_fill_15 : decode cX0_fill 15 = .ok (.i2l, 1) := by decide +kernel
theorem dX0_fill_16 : decode cX0_fill 16 = .ok (.lmul, 1) := by decide +kernel
theorem dX0_fill_17 : decode cX0_fill 17 = .ok (.ladd, 1) := by decide +kernel
theorem dX0_fill_18 : decode cX0_fill 18 = .ok (.invokestatic 24, 3) := by decide +kernel
theorem dX0_fill_21 : decode cX0_fill 21 = .ok (.putfield 21, 3) := by decide +kernel
theorem dX0_fill_24 : decode cX0_fill 24 = .ok (.return_, 1) := by decide +kernel
theorem dX0_covers_0 : decode cX0_covers 0 = .ok (.aload_n 0, 1) := by decide +kernel
theorem dX0_covers_1 : decode cX0_covers 1 = .ok (.getfield 21, 3) := by decide +kernel
theorem dX0_covers_4 : decode cX0_covers 4 = .ok (.ldc2_w 15, 3) := by decide +kernel
theorem dX0_covers_7 : decode cX0_covers 7 = .ok (.iload_n 1, 1) := by decide +kernel
theorem dX0_covers_8 : decode cX0_covers 8 = .ok (.i2l, 1) := by decide +kernel
theorem dX0_covers_9 : decode cX0_covers 9 = .ok (.lmul, 1) := by decide +kernel
theorem dX0_covers_10 : decode cX0_covers 10 = .ok (.lcmp, 1) := by decide +kernel
theorem dX0_covers_11 : decode cX0_covers 11 = .ok (.ifCond .lt 7, 3) := by decide +kernel
theorem dX0_covers_14 : decode cX0_covers 14 = .ok (.iconst 1, 1) := by decide +kernel
theorem dX0_covers_15 : decode cX0_covers 15 = .ok (.goto 4, 3) := by decide +kernel
theorem dX0_covers_18 : decode cX0_covers 18 = .ok (.iconst 0, 1) := by decide +kernel
theorem dX0_covers_19 : decode cX0_covers 19 = .ok (.ireturn, 1) := by decide +kernel
theorem dX0_take_0 : decode cX0_take 0 = .ok (.aload_n 0, 1) := by decide +kernel
theorem dX0_take_1 : decode cX0_take 1 = .ok (.dup, 1) := by decide +kernel
theorem dX0_take_2 : decode cX0_take 2 = .ok (.getfield 21, 3) := by decide +kernel
theorem dX0_take_5 : decode cX0_take 5 = .ok (.ldc2_w 15, 3) := by decide +kernel
theorem dX0_take_8 : decode cX0_take 8 = .ok (.iload_n 1, 1) := by decide +kernel
theorem dX0_take_9 : decode cX0_take 9 = .ok (.i2l, 1) := by decide +kernel
theorem dX0_take_10 : decode cX0_take 10 = .ok (.lmul, 1) := by decide +kernel
theorem dX0_take_11 : decode cX0_take 11 = .ok (.lsub, 1) := by decide +kernel
theorem dX0_take_12 : decode cX0_take 12 = .ok (.putfield 21, 3) := by decide +kernel
theorem dX0_take_15 : decode cX0_take 15 = .ok (.return_, 1) := by decide +kernel
theorem dX0_ticksUntilCovers_0 : decode cX0_ticksUntilCovers 0 = .ok (.ldc2_w 15, 3) := by decide +kernel
theorem dX0_ticksUntilCovers_3 : decode cX0_ticksUntilCovers 3 = .ok (.iload_n 1, 1) := by decide +kernel
theorem dX0_ticksUntilCovers_4 : decode cX0_ticksUntilCovers 4 = .ok (.i2l, 1) := by decide +kernel
theorem dX0_ticksUntilCovers_5 : decode cX0_ticksUntilCovers 5 = .ok (.lmul, 1) := by decide +kernel
theorem dX0_ticksUntilCovers_6 : decode cX0_ticksUntilCovers 6 = .ok (.aload_n 0, 1) := by decide +kernel
theorem dX0_ticksUntilCovers_7 : decode cX0_ticksUntilCovers 7 = .ok (.getfield 21, 3) := by decide +kernel
theorem dX0_ticksUntilCovers_10 : decode cX0_ticksUntilCovers 10 = .ok (.lsub, 1) := by decide +kernel
theorem dX0_ticksUntilCovers_11 : decode cX0_ticksUntilCovers 11 = .ok (.lstore_n 2, 1) := by decide +kernel
theorem dX0_ticksUntilCovers_12 : decode cX0_ticksUntilCovers 12 = .ok (.lload_n 2, 1) := by decide +kernel
theorem dX0_ticksUntilCovers_13 : decode cX0_ticksUntilCovers 13 = .ok (.lconst 0, 1) := by decide +kernel
theorem dX0_ticksUntilCovers_14 : decode cX0_ticksUntilCovers 14 = .ok (.lcmp, 1) := by decide +kernel
theorem dX0_ticksUntilCovers_15 : decode cX0_ticksUntilCovers 15 = .ok (.ifCond .gt 5, 3) := by decide +kernel
theorem dX0_ticksUntilCovers_18 : decode cX0_ticksUntilCovers 18 = .ok (.lconst 0, 1) := by decide +kernel
theorem dX0_ticksUntilCovers_19 : decode cX0_ticksUntilCovers 19 = .ok (.lreturn, 1) := by decide +kernel
theorem dX0_ticksUntilCovers_20 : decode cX0_ticksUntilCovers 20 = .ok (.aload_n 0, 1) := by decide +kernel
theorem dX0_ticksUntilCovers_21 : decode cX0_ticksUntilCovers 21 = .ok (.getfield 9, 3) := by decide +kernel
theorem dX0_ticksUntilCovers_24 : decode cX0_ticksUntilCovers 24 = .ok (.ifCond .gt 9, 3) := by decide +kernel
theorem dX0_ticksUntilCovers_27 : decode cX0_ticksUntilCovers 27 = .ok (.ldc2_w 30, 3) := by decide +kernel
theorem dX0_ticksUntilCovers_30 : decode cX0_ticksUntilCovers 30 = .ok (.goto 18, 3) := by decide +kernel
theorem dX0_ticksUntilCovers_33 : decode cX0_ticksUntilCovers 33 = .ok (.lload_n 2, 1) := by decide +kernel
theorem dX0_ticksUntilCovers_34 : decode cX0_ticksUntilCovers 34 = .ok (.aload_n 0, 1) := by decide +kernel
theorem dX0_ticksUntilCovers_35 : decode cX0_ticksUntilCovers 35 = .ok (.getfield 9, 3) := by decide +kernel
theorem dX0_ticksUntilCovers_38 : decode cX0_ticksUntilCovers 38 = .ok (.i2l, 1) := by decide +kernel
theorem dX0_ticksUntilCovers_39 : decode cX0_ticksUntilCovers 39 = .ok (.ladd, 1) := by decide +kernel
theorem dX0_ticksUntilCovers_40 : decode cX0_ticksUntilCovers 40 = .ok (.lconst 1, 1) := by decide +kernel
theorem dX0_ticksUntilCovers_41 : decode cX0_ticksUntilCovers 41 = .ok (.lsub, 1) := by decide +kernel
theorem dX0_ticksUntilCovers_42 : decode cX0_ticksUntilCovers 42 = .ok (.aload_n 0, 1) := by decide +kernel
theorem dX0_ticksUntilCovers_43 : decode cX0_ticksUntilCovers 43 = .ok (.getfield 9, 3) := by decide +kernel
theorem dX0_ticksUntilCovers_46 : decode cX0_ticksUntilCovers 46 = .ok (.i2l, 1) := by decide +kernel
theorem dX0_ticksUntilCovers_47 : decode cX0_ticksUntilCovers 47 = .ok (.ldiv, 1) := by decide +kernel
theorem dX0_ticksUntilCovers_48 : decode cX0_ticksUntilCovers 48 = .ok (.lreturn, 1) := by decide +kernel
theorem dX1_init_0 : decode cX1_init 0 = .ok (.aload_n 0, 1) := by decide +kernel
theorem dX1_init_1 : decode cX1_init 1 = .ok (.invokespecial 3, 3) := by decide +kernel
theorem dX1_init_4 : decode cX1_init 4 = .ok (.aload_n 0, 1) := by decide +kernel
theorem dX1_init_5 : decode cX1_init 5 = .ok (.iload_n 1, 1) := by decide +kernel
theorem dX1_init_6 : decode cX1_init 6 = .ok (.putfield 9, 3) := by decide +kernel
theorem dX1_init_9 : decode cX1_init 9 = .ok (.aload_n 0, 1) := by decide +kernel
theorem dX1_init_10 : decode cX1_init 10 = .ok (.aload_n 2, 1) := by decide +kernel
theorem dX1_init_11 : decode cX1_init 11 = .ok (.putfield 15, 3) := by decide +kernel
theorem dX1_init_14 : decode cX1_init 14 = .ok (.return_, 1) := by decide +kernel
theorem dX1_tagOf_0 : decode cX1_tagOf 0 = .ok (.aload_n 0, 1) := by decide +kernel
theorem dX1_tagOf_1 : decode cX1_tagOf 1 = .ok (.getfield 9, 3) := by decide +kernel
theorem dX1_tagOf_4 : decode cX1_tagOf 4 = .ok (.ifCond .gt 10, 3) := by decide +kernel
theorem dX1_tagOf_7 : decode cX1_tagOf 7 = .ok (.aload_n 0, 1) := by decide +kernel
theorem dX1_tagOf_8 : decode cX1_tagOf 8 = .ok (.getfield 19, 3) := by decide +kernel
theorem dX1_tagOf_11 : decode cX1_tagOf 11 = .ok (.goto 20, 3) := by decide +kernel
theorem dX1_tagOf_14 : decode cX1_tagOf 14 = .ok (.aload_n 0, 1) := by decide +kernel
theorem dX1_tagOf_15 : decode cX1_tagOf 15 = .ok (.getfield 19, 3) := by decide +kernel
theorem dX1_tagOf_18 : decode cX1_tagOf 18 = .ok (.ldc2_w 23, 3) := by decide +kernel
theorem dX1_tagOf_21 : decode cX1_tagOf 21 = .ok (.iload_n 1, 1) := by decide +kernel
theorem dX1_tagOf_22 : decode cX1_tagOf 22 = .ok (.i2l, 1) := by decide +kernel
theorem dX1_tagOf_23 : decode cX1_tagOf 23 = .ok (.lmul, 1) := by decide +kernel
theorem dX1_tagOf_24 : decode cX1_tagOf 24 = .ok (.aload_n 0, 1) := by decide +kernel
theorem dX1_tagOf_25 : decode cX1_tagOf 25 = .ok (.getfield 9, 3) := by decide +kernel
theorem dX1_tagOf_28 : decode cX1_tagOf 28 = .ok (.i2l, 1) := by decide +kernel
theorem dX1_tagOf_29 : decode cX1_tagOf 29 = .ok (.ldiv, 1) := by decide +kernel
theorem dX1_tagOf_30 : decode cX1_tagOf 30 = .ok (.ladd, 1) := by decide +kernel
theorem dX1_tagOf_31 : decode cX1_tagOf 31 = .ok (.lreturn, 1) := by decide +kernel
theorem dX2_init_0 : decode cX2_init 0 = .ok (.aload_n 0, 1) := by decide +kernel
theorem dX2_init_1 : decode cX2_init 1 = .ok (.invokespecial 3, 3) := by decide +kernel
theorem dX2_init_4 : decode cX2_init 4 = .ok (.aload_n 0, 1) := by decide +kernel
theorem dX2_init_5 : decode cX2_init 5 = .ok (.aload_n 1, 1) := by decide +kernel
theorem dX2_init_6 : decode cX2_init 6 = .ok (.putfield 9, 3) := by decide +kernel
theorem dX2_init_9 : decode cX2_init 9 = .ok (.aload_n 0, 1) := by decide +kernel
theorem dX2_init_10 : decode cX2_init 10 = .ok (.iload_n 2, 1) := by decide +kernel
theorem dX2_init_11 : decode cX2_init 11 = .ok (.putfield 15, 3) := by decide +kernel
theorem dX2_init_14 : decode cX2_init 14 = .ok (.aload_n 0, 1) := by decide +kernel
theorem dX2_init_15 : decode cX2_init 15 = .ok (.iload_n 3, 1) := by decide +kernel
theorem dX2_init_16 : decode cX2_init 16 = .ok (.putfield 19, 3) := by decide +kernel
theorem dX2_init_19 : decode cX2_init 19 = .ok (.aload_n 0, 1) := by decide +kernel
theorem dX2_init_20 : decode cX2_init 20 = .ok (.aload 4, 2) := by decide +kernel
theorem dX2_init_22 : decode cX2_init 22 = .ok (.putfield 22, 3) := by decide +kernel
theorem dX2_init_25 : decode cX2_init 25 = .ok (.aload_n 0, 1) := by decide +kernel
theorem dX2_init_26 : decode cX2_init 26 = .ok (.iload 5, 2) := by decide +kernel
theorem dX2_init_28 : decode cX2_init 28 = .ok (.putfield 26, 3) := by decide +kernel
theorem dX2_init_31 : decode cX2_init 31 = .ok (.return_, 1) := by decide +kernel
set_option maxRecDepth 20000 in
theorem ggX2_paysPolicer_X0_covers : GoodIn wsX2_paysPolicer wsX0_covers := goodIn_r _ [6, 7, 8, 31, 32, 33] (by decide +kernel) (by decide +kernel)
set_option maxRecDepth 20000 in
theorem gX2_paysPolicer_X0_covers : GoodIn wsX2_paysPolicer (wsV RX2 32 RX0 yX0_covers wsX0_covers) := goodIn_app (goodIn_of _ (by decide +kernel)) ggX2_paysPolicer_X0_covers
set_option maxRecDepth 20000 in
theorem ggX2_paysPolicer_X0_take : GoodIn wsX2_paysPolicer wsX0_take := goodIn_r _ [12, 7, 8, 31, 32, 33] (by decide +kernel) (by decide +kernel)
set_option maxRecDepth 20000 in
theorem gX2_paysPolicer_X0_take : GoodIn wsX2_paysPolicer (wsV RX2 38 RX0 yX0_take wsX0_take) := goodIn_app (goodIn_of _ (by decide +kernel)) ggX2_paysPolicer_X0_take
theorem dX2_paysPolicer_0 : decode cX2_paysPolicer 0 = .ok (.aload_n 0, 1) := by decide +kernel
theorem dX2_paysPolicer_1 : decode cX2_paysPolicer 1 = .ok (.getfield 29, 3) := by decide +kernel
theorem dX2_paysPolicer_4 : decode cX2_paysPolicer 4 = .ok (.ifnonnull 5, 3) := by decide +kernel
theorem dX2_paysPolicer_7 : decode cX2_paysPolicer 7 = .ok (.iconst 1, 1) := by decide +kernel
theorem dX2_paysPolicer_8 : decode cX2_paysPolicer 8 = .ok (.ireturn, 1) := by decide +kernel
theorem dX2_paysPolicer_9 : decode cX2_paysPolicer 9 = .ok (.aload_n 0, 1) := by decide +kernel
theorem dX2_paysPolicer_10 : decode cX2_paysPolicer 10 = .ok (.getfield 29, 3) := by decide +kernel
theorem dX2_paysPolicer_13 : decode cX2_paysPolicer 13 = .ok (.iload_n 1, 1) := by decide +kernel
theorem dX2_paysPolicer_14 : decode cX2_paysPolicer 14 = .ok (.invokevirtual 32, 3) := by decide +kernel
theorem dX2_paysPolicer_17 : decode cX2_paysPolicer 17 = .ok (.ifCond .ne 5, 3) := by decide +kernel
theorem dX2_paysPolicer_20 : decode cX2_paysPolicer 20 = .ok (.iconst 0, 1) := by decide +kernel
theorem dX2_paysPolicer_21 : decode cX2_paysPolicer 21 = .ok (.ireturn, 1) := by decide +kernel
theorem dX2_paysPolicer_22 : decode cX2_paysPolicer 22 = .ok (.aload_n 0, 1) := by decide +kernel
theorem dX2_paysPolicer_23 : decode cX2_paysPolicer 23 = .ok (.getfield 29, 3) := by decide +kernel
theorem dX2_paysPolicer_26 : decode cX2_paysPolicer 26 = .ok (.iload_n 1, 1) := by decide +kernel
theorem dX2_paysPolicer_27 : decode cX2_paysPolicer 27 = .ok (.invokevirtual 38, 3) := by decide +kernel
theorem dX2_paysPolicer_30 : decode cX2_paysPolicer 30 = .ok (.iconst 1, 1) := by decide +kernel
theorem dX2_paysPolicer_31 : decode cX2_paysPolicer 31 = .ok (.ireturn, 1) := by decide +kernel
theorem dX2_catchUp_0 : decode cX2_catchUp 0 = .ok (.aload_n 0, 1) := by decide +kernel
theorem dX2_catchUp_1 : decode cX2_catchUp 1 = .ok (.getfield 42, 3) := by decide +kernel
theorem dX2_catchUp_4 : decode cX2_catchUp 4 = .ok (.ifnonnull 21, 3) := by decide +kernel
theorem dX2_catchUp_7 : decode cX2_catchUp 7 = .ok (.aload_n 0, 1) := by decide +kernel
theorem dX2_catchUp_8 : decode cX2_catchUp 8 = .ok (.aload_n 0, 1) := by decide +kernel
theorem dX2_catchUp_9 : decode cX2_catchUp 9 = .ok (.getfield 46, 3) := by decide +kernel
theorem dX2_catchUp_12 : decode cX2_catchUp 12 = .ok (.aload_n 0, 1) := by decide +kernel
theorem dX2_catchUp_13 : decode cX2_catchUp 13 = .ok (.getfield 9, 3) := by decide +kernel
theorem dX2_catchUp_16 : decode cX2_catchUp 16 = .ok (.getfield 50, 3) := by decide +kernel
theorem dX2_catchUp_19 : decode cX2_catchUp 19 = .ok (.invokestatic 55, 3) := by decide +kernel
theorem dX2_catchUp_22 : decode cX2_catchUp 22 = .ok (.putfield 46, 3) := by decide +kernel
theorem dX2_catchUp_25 : decode cX2_catchUp 25 = .ok (.aload_n 0, 1) := by decide +kernel
theorem dX2_catchUp_26 : decode cX2_catchUp 26 = .ok (.getfield 9, 3) := by decide +kernel
theorem dX2_catchUp_29 : decode cX2_catchUp 29 = .ok (.getfield 61, 3) := by decide +kernel
theorem dX2_catchUp_32 : decode cX2_catchUp 32 = .ok (.ifCond .ne 21, 3) := by decide +kernel
theorem dX2_catchUp_35 : decode cX2_catchUp 35 = .ok (.aload_n 0, 1) := by decide +kernel
theorem dX2_catchUp_36 : decode cX2_catchUp 36 = .ok (.getfield 9, 3) := by decide +kernel
theorem dX2_catchUp_39 : decode cX2_catchUp 39 = .ok (.aload_n 0, 1) := by decide +kernel
theorem dX2_catchUp_40 : decode cX2_catchUp 40 = .ok (.getfield 9, 3) := by decide +kernel
theorem dX2_catchUp_43 : decode cX2_catchUp 43 = .ok (.getfield 64, 3) := by decide +kernel
theorem dX2_catchUp_46 : decode cX2_catchUp 46 = .ok (.lload_n 1, 1) := by decide +kernel
theorem dX2_catchUp_47 : decode cX2_catchUp 47 = .ok (.invokestatic 55, 3) := by decide +kernel
theorem dX2_catchUp_50 : decode cX2_catchUp 50 = .ok (.putfield 64, 3) := by decide +kernel
theorem dX2_catchUp_53 : decode cX2_catchUp 53 = .ok (.return_, 1) := by decide +kernel
theorem dX2_append_0 : decode cX2_append 0 = .ok (.aload_n 0, 1) := by decide +kernel
theorem dX2_append_1 : decode cX2_append 1 = .ok (.getfield 65, 3) := by decide +kernel
theorem dX2_append_4 : decode cX2_append 4 = .ok (.ifnonnull 11, 3) := by decide +kernel
theorem dX2_append_7 : decode cX2_append 7 = .ok (.aload_n 0, 1) := by decide +kernel
theorem dX2_append_8 : decode cX2_append 8 = .ok (.aload_n 1, 1) := by decide +kernel
theorem dX2_append_9 : decode cX2_append 9 = .ok (.putfield 42, 3) := by decide +kernel
theorem dX2_append_12 : decode cX2_append 12 = .ok (.goto 11, 3) := by decide +kernel
theorem dX2_append_15 : decode cX2_append 15 = .ok (.aload_n 0, 1) := by decide +kernel
theorem dX2_append_16 : decode cX2_append 16 = .ok (.getfield 65, 3) := by decide +kernel
theorem dX2_append_19 : decode cX2_append 19 = .ok (.aload_n 1, 1) := by decide +kernel
theorem dX2_append_20 : decode cX2_append 20 = .ok (.putfield 68, 3) := by decide +kernel
theorem dX2_append_23 : decode cX2_append 23 = .ok (.aload_n 0, 1) := by decide +kernel
theorem dX2_append_24 : decode cX2_append 24 = .ok (.aload_n 1, 1) := by decide +kernel
theorem dX2_append_25 : decode cX2_append 25 = .ok (.putfield 65, 3) := by decide +kernel
theorem dX2_append_28 : decode cX2_append 28 = .ok (.aload_n 0, 1) := by decide +kernel
theorem dX2_append_29 : decode cX2_append 29 = .ok (.dup, 1) := by decide +kernel
theorem dX2_append_30 : decode cX2_append 30 = .ok (.getfield 73, 3) := by decide +kernel
theorem dX2_append_33 : decode cX2_append 33 = .ok (.iconst 1, 1) := by decide +kernel
theorem dX2_append_34 : decode cX2_append 34 = .ok (.iadd, 1) := by decide +kernel
theorem dX2_append_35 : decode cX2_append 35 = .ok (.putfield 73, 3) := by decide +kernel
theorem dX2_append_38 : decode cX2_append 38 = .ok (.aload_n 0, 1) := by decide +kernel
theorem dX2_append_39 : decode cX2_append 39 = .ok (.dup, 1) := by decide +kernel
theorem dX2_append_40 : decode cX2_append 40 = .ok (.getfield 74, 3) := by decide +kernel
theorem dX2_append_43 : decode cX2_append 43 = .ok (.aload_n 1, 1) := by decide +kernel
theorem dX2_append_44 : decode cX2_append 44 = .ok (.getfield 77, 3) := by decide +kernel
theorem dX2_append_47 : decode cX2_append 47 = .ok (.iadd, 1) := by decide +kernel
theorem dX2_append_48 : decode cX2_append 48 = .ok (.putfield 74, 3) := by decide +kernel
theorem dX2_append_51 : decode cX2_append 51 = .ok (.aload_n 0, 1) := by decide +kernel
theorem dX2_append_52 : decode cX2_append 52 = .ok (.getfield 9, 3) := by decide +kernel
theorem dX2_append_55 : decode cX2_append 55 = .ok (.dup, 1) := by decide +kernel
theorem dX2_append_56 : decode cX2_append 56 = .ok (.getfield 61, 3) := by decide +kernel
theorem dX2_append_59 : decode cX2_append 59 = .ok (.iconst 1, 1) := by decide +kernel
theorem dX2_append_60 : decode cX2_append 60 = .ok (.iadd, 1) := by decide +kernel
theorem dX2_append_61 : decode cX2_append 61 = .ok (.putfield 61, 3) := by decide +kernel
theorem dX2_append_64 : decode cX2_append 64 = .ok (.return_, 1) := by decide +kernel
theorem dX2_start_0 : decode cX2_start 0 = .ok (.aload_n 0, 1) := by decide +kernel
theorem dX2_start_1 : decode cX2_start 1 = .ok (.getfield 42, 3) := by decide +kernel
theorem dX2_start_4 : decode cX2_start 4 = .ok (.ifnull 10, 3) := by decide +kernel
theorem dX2_start_7 : decode cX2_start 7 = .ok (.aload_n 0, 1) := by decide +kernel
theorem dX2_start_8 : decode cX2_start 8 = .ok (.getfield 19, 3) := by decide +kernel
theorem dX2_start_11 : decode cX2_start 11 = .ok (.ifCond .gt 8, 3) := by decide +kernel
theorem dX2_start_14 : decode cX2_start 14 = .ok (.ldc 80, 2) := by decide +kernel
theorem dX2_start_16 : decode cX2_start 16 = .ok (.goto 17, 3) := by decide +kernel
theorem dX2_start_19 : decode cX2_start 19 = .ok (.aload_n 0, 1) := by decide +kernel
theorem dX2_start_20 : decode cX2_start 20 = .ok (.getfield 81, 3) := by decide +kernel
theorem dX2_start_23 : decode cX2_start 23 = .ok (.aload_n 0, 1) := by decide +kernel
theorem dX2_start_24 : decode cX2_start 24 = .ok (.getfield 42, 3) := by decide +kernel
theorem dX2_start_27 : decode cX2_start 27 = .ok (.getfield 84, 3) := by decide +kernel
theorem dX2_start_30 : decode cX2_start 30 = .ok (.invokestatic 87, 3) := by decide +kernel
theorem dX2_start_33 : decode cX2_start 33 = .ok (.ireturn, 1) := by decide +kernel
set_option maxRecDepth 20000 in
theorem ggX2_deadline_X2_start : GoodIn wsX2_deadline wsX2_start := goodIn_r _ [9, 1, 2, 3, 10, 11, 12, 13, 14, 15, 16, 17, 18, 19, 20, 21, 22, 23, 24, 25, 26, 27, 28, 29, 30, 31, 32, 33, 34, 35, 36, 37, 38, 39, 40, 41, 42] (by decide +kernel) (by decide +kernel)
set_option maxRecDepth 20000 in
theorem gX2_deadline_X2_start : GoodIn wsX2_deadline (wsV RX2 90 RX2 yX2_start wsX2_start) := goodIn_app (goodIn_of _ (by decide +kernel)) ggX2_deadline_X2_start
theorem dX2_deadline_0 : decode cX2_deadline 0 = .ok (.aload_n 0, 1) := by decide +kernel
theorem dX2_deadline_1 : decode cX2_deadline 1 = .ok (.getfield 42, 3) := by decide +kernel
theorem dX2_deadline_4 : decode cX2_deadline 4 = .ok (.ifnull 10, 3) := by decide +kernel
theorem dX2_deadline_7 : decode cX2_deadline 7 = .ok (.aload_n 0, 1) := by decide +kernel
theorem dX2_deadline_8 : decode cX2_deadline 8 = .ok (.getfield 19, 3) := by decide +kernel
theorem dX2_deadline_11 : decode cX2_deadline 11 = .ok (.ifCond .gt 6, 3) := by decide +kernel
theorem dX2_deadline_14 : decode cX2_deadline 14 = .ok (.ldc 80, 2) := by decide +kernel
theorem dX2_deadline_16 : decode cX2_deadline 16 = .ok (.ireturn, 1) := by decide +kernel
theorem dX2_deadline_17 : decode cX2_deadline 17 = .ok (.aload_n 0, 1) := by decide +kernel
theorem dX2_deadline_18 : decode cX2_deadline 18 = .ok (.invokevirtual 90, 3) := by decide +kernel
theorem dX2_deadline_21 : decode cX2_deadline 21 = .ok (.sipush 1000, 3) := by decide +kernel
theorem dX2_deadline_24 : decode cX2_deadline 24 = .ok (.aload_n 0, 1) := by decide +kernel
theorem dX2_deadline_25 : decode cX2_deadline 25 = .ok (.getfield 42, 3) := by decide +kernel
theorem dX2_deadline_28 : decode cX2_deadline 28 = .ok (.getfield 77, 3) := by decide +kernel
theorem dX2_deadline_31 : decode cX2_deadline 31 = .ok (.imul, 1) := by decide +kernel
theorem dX2_deadline_32 : decode cX2_deadline 32 = .ok (.aload_n 0, 1) := by decide +kernel
theorem dX2_deadline_33 : decode cX2_deadline 33 = .ok (.getfield 19, 3) := by decide +kernel
theorem dX2_deadline_36 : decode cX2_deadline 36 = .ok (.iadd, 1) := by decide +kernel
theorem dX2_deadline_37 : decode cX2_deadline 37 = .ok (.iconst 1, 1) := by decide +kernel
theorem dX2_deadline_38 : decode cX2_deadline 38 = .ok (.isub, 1) := by decide +kernel
theorem dX2_deadline_39 : decode cX2_deadline 39 = .ok (.aload_n 0, 1) := by decide +kernel
theorem dX2_deadline_40 : decode cX2_deadline 40 = .ok (.getfield 19, 3) := by decide +kernel
theorem dX2_deadline_43 : decode cX2_deadline 43 = .ok (.idiv, 1) := by decide +kernel
theorem dX2_deadline_44 : decode cX2_deadline 44 = .ok (.iadd, 1) := by decide +kernel
theorem dX2_deadline_45 : decode cX2_deadline 45 = .ok (.ireturn, 1) := by decide +kernel
set_option maxRecDepth 20000 in
theorem ggX2_isReady_X0_covers : GoodIn wsX2_isReady wsX0_covers := goodIn_r _ [10, 11, 12, 46, 47, 48] (by decide +kernel) (by decide +kernel)
set_option maxRecDepth 20000 in
theorem gX2_isReady_X0_covers : GoodIn wsX2_isReady (wsV RX2 32 RX0 yX0_covers wsX0_covers) := goodIn_app (goodIn_of _ (by decide +kernel)) ggX2_isReady_X0_covers
theorem dX2_isReady_0 : decode cX2_isReady 0 = .ok (.aload_n 0, 1) := by decide +kernel
theorem dX2_isReady_1 : decode cX2_isReady 1 = .ok (.getfield 42, 3) := by decide +kernel
theorem dX2_isReady_4 : decode cX2_isReady 4 = .ok (.ifnull 44, 3) := by decide +kernel
theorem dX2_isReady_7 : decode cX2_isReady 7 = .ok (.aload_n 0, 1) := by decide +kernel
theorem dX2_isReady_8 : decode cX2_isReady 8 = .ok (.getfield 22, 3) := by decide +kernel
theorem dX2_isReady_11 : decode cX2_isReady 11 = .ok (.aload_n 0, 1) := by decide +kernel
theorem dX2_isReady_12 : decode cX2_isReady 12 = .ok (.getfield 42, 3) := by decide +kernel
theorem dX2_isReady_15 : decode cX2_isReady 15 = .ok (.getfield 77, 3) := by decide +kernel
theorem dX2_isReady_18 : decode cX2_isReady 18 = .ok (.invokevirtual 32, 3) := by decide +kernel
theorem dX2_isReady_21 : decode cX2_isReady 21 = .ok (.ifCond .eq 27, 3) := by decide +kernel
theorem dX2_isReady_24 : decode cX2_isReady 24 = .ok (.aload_n 0, 1) := by decide +kernel
theorem dX2_isReady_25 : decode cX2_isReady 25 = .ok (.getfield 9, 3) := by decide +kernel
theorem dX2_isReady_28 : decode cX2_isReady 28 = .ok (.getfield 94, 3) := by decide +kernel
theorem dX2_isReady_31 : decode cX2_isReady 31 = .ok (.aload_n 0, 1) := by decide +kernel
theorem dX2_isReady_32 : decode cX2_isReady 32 = .ok (.getfield 42, 3) := by decide +kernel
theorem dX2_isReady_35 : decode cX2_isReady 35 = .ok (.getfield 77, 3) := by decide +kernel
theorem dX2_isReady_38 : decode cX2_isReady 38 = .ok (.invokevirtual 32, 3) := by decide +kernel
theorem dX2_isReady_41 : decode cX2_isReady 41 = .ok (.ifCond .eq 7, 3) := by decide +kernel
theorem dX2_isReady_44 : decode cX2_isReady 44 = .ok (.iconst 1, 1) := by decide +kernel
theorem dX2_isReady_45 : decode cX2_isReady 45 = .ok (.goto 4, 3) := by decide +kernel
theorem dX2_isReady_48 : decode cX2_isReady 48 = .ok (.iconst 0, 1) := by decide +kernel
theorem dX2_isReady_49 : decode cX2_isReady 49 = .ok (.ireturn, 1) := by decide +kernel
set_option maxRecDepth 20000 in
theorem ggX2_isHeld_X2_isReady : GoodIn wsX2_isHeld wsX2_isReady := goodIn_r _ [6, 1, 7, 8, 9, 10, 11, 12, 13, 14, 15, 16, 17, 18, 19, 20, 21, 22, 23, 24, 25, 26, 27, 28, 29, 30, 31, 32, 33, 34, 35, 36, 37, 38, 39, 40, 41, 42, 43, 44, 45, 46, 47, 48, 49, 50, 51, 52, 53] (by decide +kernel) (by decide +kernel)
set_option maxRecDepth 20000 in
theorem gX2_isHeld_X2_isReady : GoodIn wsX2_isHeld (wsV RX2 95 RX2 yX2_isReady wsX2_isReady) := goodIn_app (goodIn_of _ (by decide +kernel)) ggX2_isHeld_X2_isReady
theorem dX2_isHeld_0 : decode cX2_isHeld 0 = .ok (.aload_n 0, 1) := by decide +kernel
theorem dX2_isHeld_1 : decode cX2_isHeld 1 = .ok (.getfield 42, 3) := by decide +kernel
theorem dX2_isHeld_4 : decode cX2_isHeld 4 = .ok (.ifnull 14, 3) := by decide +kernel
theorem dX2_isHeld_7 : decode cX2_isHeld 7 = .ok (.aload_n 0, 1) := by decide +kernel
theorem dX2_isHeld_8 : decode cX2_isHeld 8 = .ok (.invokevirtual 95, 3) := by decide +kernel
theorem dX2_isHeld_11 : decode cX2_isHeld 11 = .ok (.ifCond .ne 7, 3) := by decide +kernel
theorem dX2_isHeld_14 : decode cX2_isHeld 14 = .ok (.iconst 1, 1) := by decide +kernel
theorem dX2_isHeld_15 : decode cX2_isHeld 15 = .ok (.goto 4, 3) := by decide +kernel
theorem dX2_isHeld_18 : decode cX2_isHeld 18 = .ok (.iconst 0, 1) := by decide +kernel
theorem dX2_isHeld_19 : decode cX2_isHeld 19 = .ok (.ireturn, 1) := by decide +kernel
theorem dX2_tagInLeaf_0 : decode cX2_tagInLeaf 0 = .ok (.aload_n 0, 1) := by decide +kernel
theorem dX2_tagInLeaf_1 : decode cX2_tagInLeaf 1 = .ok (.getfield 42, 3) := by decide +kernel
theorem dX2_tagInLeaf_4 : decode cX2_tagInLeaf 4 = .ok (.ifnull 10, 3) := by decide +kernel
theorem dX2_tagInLeaf_7 : decode cX2_tagInLeaf 7 = .ok (.aload_n 0, 1) := by decide +kernel
theorem dX2_tagInLeaf_8 : decode cX2_tagInLeaf 8 = .ok (.getfield 15, 3) := by decide +kernel
theorem dX2_tagInLeaf_11 : decode cX2_tagInLeaf 11 = .ok (.ifCond .gt 10, 3) := by decide +kernel
theorem dX2_tagInLeaf_14 : decode cX2_tagInLeaf 14 = .ok (.aload_n 0, 1) := by decide +kernel
theorem dX2_tagInLeaf_15 : decode cX2_tagInLeaf 15 = .ok (.getfield 46, 3) := by decide +kernel
theorem dX2_tagInLeaf_18 : decode cX2_tagInLeaf 18 = .ok (.goto 26, 3) := by decide +kernel
theorem dX2_tagInLeaf_21 : decode cX2_tagInLeaf 21 = .ok (.aload_n 0, 1) := by decide +kernel
theorem dX2_tagInLeaf_22 : decode cX2_tagInLeaf 22 = .ok (.getfield 46, 3) := by decide +kernel
theorem dX2_tagInLeaf_25 : decode cX2_tagInLeaf 25 = .ok (.ldc2_w 99, 3) := by decide +kernel
theorem dX2_tagInLeaf_28 : decode cX2_tagInLeaf 28 = .ok (.aload_n 0, 1) := by decide +kernel
theorem dX2_tagInLeaf_29 : decode cX2_tagInLeaf 29 = .ok (.getfield 42, 3) := by decide +kernel
theorem dX2_tagInLeaf_32 : decode cX2_tagInLeaf 32 = .ok (.getfield 77, 3) := by decide +kernel
theorem dX2_tagInLeaf_35 : decode cX2_tagInLeaf 35 = .ok (.i2l, 1) := by decide +kernel
theorem dX2_tagInLeaf_36 : decode cX2_tagInLeaf 36 = .ok (.lmul, 1) := by decide +kernel
theorem dX2_tagInLeaf_37 : decode cX2_tagInLeaf 37 = .ok (.aload_n 0, 1) := by decide +kernel
theorem dX2_tagInLeaf_38 : decode cX2_tagInLeaf 38 = .ok (.getfield 15, 3) := by decide +kernel
theorem dX2_tagInLeaf_41 : decode cX2_tagInLeaf 41 = .ok (.i2l, 1) := by decide +kernel
theorem dX2_tagInLeaf_42 : decode cX2_tagInLeaf 42 = .ok (.ldiv, 1) := by decide +kernel
theorem dX2_tagInLeaf_43 : decode cX2_tagInLeaf 43 = .ok (.ladd, 1) := by decide +kernel
theorem dX2_tagInLeaf_44 : decode cX2_tagInLeaf 44 = .ok (.lreturn, 1) := by decide +kernel
set_option maxRecDepth 20000 in
theorem ggX2_tagInGroup_X1_tagOf : GoodIn wsX2_tagInGroup wsX1_tagOf := goodIn_r _ [9, 10, 11, 12, 31, 32, 33, 34, 35, 36] (by decide +kernel) (by decide +kernel)
set_option maxRecDepth 20000 in
theorem gX2_tagInGroup_X1_tagOf : GoodIn wsX2_tagInGroup (wsV RX2 101 RX1 yX1_tagOf wsX1_tagOf) := goodIn_app (goodIn_of _ (by decide +kernel)) ggX2_tagInGroup_X1_tagOf
theorem dX2_tagInGroup_0 : decode cX2_tagInGroup 0 = .ok (.aload_n 0, 1) := by decide +kernel
theorem dX2_tagInGroup_1 : decode cX2_tagInGroup 1 = .ok (.getfield 42, 3) := by decide +kernel
theorem dX2_tagInGroup_4 : decode cX2_tagInGroup 4 = .ok (.ifnonnull 13, 3) := by decide +kernel
theorem dX2_tagInGroup_7 : decode cX2_tagInGroup 7 = .ok (.aload_n 0, 1) := by decide +kernel
theorem dX2_tagInGroup_8 : decode cX2_tagInGroup 8 = .ok (.getfield 9, 3) := by decide +kernel
theorem dX2_tagInGroup_11 : decode cX2_tagInGroup 11 = .ok (.getfield 64, 3) := by decide +kernel
theorem dX2_tagInGroup_14 : decode cX2_tagInGroup 14 = .ok (.goto 17, 3) := by decide +kernel
theorem dX2_tagInGroup_17 : decode cX2_tagInGroup 17 = .ok (.aload_n 0, 1) := by decide +kernel
theorem dX2_tagInGroup_18 : decode cX2_tagInGroup 18 = .ok (.getfield 9, 3) := by decide +kernel
theorem dX2_tagInGroup_21 : decode cX2_tagInGroup 21 = .ok (.aload_n 0, 1) := by decide +kernel
theorem dX2_tagInGroup_22 : decode cX2_tagInGroup 22 = .ok (.getfield 42, 3) := by decide +kernel
theorem dX2_tagInGroup_25 : decode cX2_tagInGroup 25 = .ok (.getfield 77, 3) := by decide +kernel
theorem dX2_tagInGroup_28 : decode cX2_tagInGroup 28 = .ok (.invokevirtual 101, 3) := by decide +kernel
theorem dX2_tagInGroup_31 : decode cX2_tagInGroup 31 = .ok (.lreturn, 1) := by decide +kernel
set_option maxRecDepth 20000 in
theorem ggX2_ticksUntilMayGo_X0_ticksUntilCovers : GoodIn wsX2_ticksUntilMayGo wsX0_ticksUntilCovers := goodIn_r _ [18, 19, 20, 21, 22, 68, 69, 70] (by decide +kernel) (by decide +kernel)
set_option maxRecDepth 20000 in
theorem gX2_ticksUntilMayGo_X0_ticksUntilCovers : GoodIn wsX2_ticksUntilMayGo (wsV RX2 107 RX0 yX0_ticksUntilCovers wsX0_ticksUntilCovers) := goodIn_app (goodIn_of _ (by decide +kernel)) ggX2_ticksUntilMayGo_X0_ticksUntilCovers
set_option maxRecDepth 20000 in
theorem ggX2_ticksUntilMayGo_X2_start : GoodIn wsX2_ticksUntilMayGo wsX2_start := goodIn_r _ [27, 1, 28, 29, 30, 31, 32, 33, 9, 34, 35, 36, 37, 38, 39, 40, 41, 42, 43, 44, 45, 46, 47, 48, 49, 50, 51, 52, 53, 54, 55, 56, 57, 58, 59, 60, 61] (by decide +kernel) (by decide +kernel)
set_option maxRecDepth 20000 in
theorem gX2_ticksUntilMayGo_X2_start : GoodIn wsX2_ticksUntilMayGo (wsV RX2 90 RX2 yX2_start wsX2_start) := goodIn_app (goodIn_of _ (by decide +kernel)) ggX2_ticksUntilMayGo_X2_start
theorem dX2_ticksUntilMayGo_0 : decode cX2_ticksUntilMayGo 0 = .ok (.aload_n 0, 1) := by decide +kernel
theorem dX2_ticksUntilMayGo_1 : decode cX2_ticksUntilMayGo 1 = .ok (.getfield 42, 3) := by decide +kernel
theorem dX2_ticksUntilMayGo_4 : decode cX2_ticksUntilMayGo 4 = .ok (.ifnonnull 7, 3) := by decide +kernel
theorem dX2_ticksUntilMayGo_7 : decode cX2_ticksUntilMayGo 7 = .ok (.ldc2_w 105, 3) := by decide +kernel
theorem dX2_ticksUntilMayGo_10 : decode cX2_ticksUntilMayGo 10 = .ok (.lreturn, 1) := by decide +kernel
theorem dX2_ticksUntilMayGo_11 : decode cX2_ticksUntilMayGo 11 = .ok (.aload_n 0, 1) := by decide +kernel
theorem dX2_ticksUntilMayGo_12 : decode cX2_ticksUntilMayGo 12 = .ok (.getfield 22, 3) := by decide +kernel
theorem dX2_ticksUntilMayGo_15 : decode cX2_ticksUntilMayGo 15 = .ok (.aload_n 0, 1) := by decide +kernel
theorem dX2_ticksUntilMayGo_16 : decode cX2_ticksUntilMayGo 16 = .ok (.getfield 42, 3) := by decide +kernel
theorem dX2_ticksUntilMayGo_19 : decode cX2_ticksUntilMayGo 19 = .ok (.getfield 77, 3) := by decide +kernel
theorem dX2_ticksUntilMayGo_22 : decode cX2_ticksUntilMayGo 22 = .ok (.invokevirtual 107, 3) := by decide +kernel
theorem dX2_ticksUntilMayGo_25 : decode cX2_ticksUntilMayGo 25 = .ok (.aload_n 0, 1) := by decide +kernel
theorem dX2_ticksUntilMayGo_26 : decode cX2_ticksUntilMayGo 26 = .ok (.getfield 9, 3) := by decide +kernel
theorem dX2_ticksUntilMayGo_29 : decode cX2_ticksUntilMayGo 29 = .ok (.getfield 94, 3) := by decide +kernel
theorem dX2_ticksUntilMayGo_32 : decode cX2_ticksUntilMayGo 32 = .ok (.aload_n 0, 1) := by decide +kernel
theorem dX2_ticksUntilMayGo_33 : decode cX2_ticksUntilMayGo 33 = .ok (.getfield 42, 3) := by decide +kernel
theorem dX2_ticksUntilMayGo_36 : decode cX2_ticksUntilMayGo 36 = .ok (.getfield 77, 3) := by decide +kernel
theorem dX2_ticksUntilMayGo_39 : decode cX2_ticksUntilMayGo 39 = .ok (.invokevirtual 107, 3) := by decide +kernel
theorem dX2_ticksUntilMayGo_42 : decode cX2_ticksUntilMayGo 42 = .ok (.invokestatic 55, 3) := by decide +kernel
theorem dX2_ticksUntilMayGo_45 : decode cX2_ticksUntilMayGo 45 = .ok (.lstore_n 2, 1) := by decide +kernel
theorem dX2_ticksUntilMayGo_46 : decode cX2_ticksUntilMayGo 46 = .ok (.aload_n 0, 1) := by decide +kernel
theorem dX2_ticksUntilMayGo_47 : decode cX2_ticksUntilMayGo 47 = .ok (.invokevirtual 90, 3) := by decide +kernel
theorem dX2_ticksUntilMayGo_50 : decode cX2_ticksUntilMayGo 50 = .ok (.iload_n 1, 1) := by decide +kernel
theorem dX2_ticksUntilMayGo_51 : decode cX2_ticksUntilMayGo 51 = .ok (.isub, 1) := by decide +kernel
theorem dX2_ticksUntilMayGo_52 : decode cX2_ticksUntilMayGo 52 = .ok (.i2l, 1) := by decide +kernel
theorem dX2_ticksUntilMayGo_53 : decode cX2_ticksUntilMayGo 53 = .ok (.lload_n 2, 1) := by decide +kernel
theorem dX2_ticksUntilMayGo_54 : decode cX2_ticksUntilMayGo 54 = .ok (.invokestatic 110, 3) := by decide +kernel
theorem dX2_ticksUntilMayGo_57 : decode cX2_ticksUntilMayGo 57 = .ok (.lreturn, 1) := by decide +kernel
set_option maxRecDepth 20000 in
theorem ggX2_sendDue_X2_deadline : GoodIn wsX2_sendDue wsX2_deadline := goodIn_r _ [10, 11, 12, 13, 5, 14, 15, 16, 9, 17, 3, 18, 19, 20, 21, 22, 52, 53, 54, 55, 56, 57, 58, 59, 60, 61, 62, 63, 64, 65, 66, 67, 68, 69, 43, 44, 45, 46, 47, 48, 49, 50, 51] (by decide +kernel) (by decide +kernel)
set_option maxRecDepth 20000 in
theorem gX2_sendDue_X2_deadline : GoodIn wsX2_sendDue (wsV RX2 113 RX2 yX2_deadline wsX2_deadline) := goodIn_app (goodIn_of _ (by decide +kernel)) ggX2_sendDue_X2_deadline
set_option maxRecDepth 20000 in
theorem ggX2_sendDue_X2_removeFirst : GoodIn wsX2_sendDue wsX2_removeFirst := goodIn_r _ [26, 11, 27, 28, 29, 30, 31, 5, 32, 33, 34, 35, 36, 37, 38, 39, 40, 41, 42, 52, 53, 54, 55, 56, 57, 58, 59, 60, 61, 62, 63, 64, 65, 66, 67, 68, 69, 43, 44, 45, 46, 47, 48, 49, 50, 51, 70, 71, 72, 73, 74, 75, 76, 77, 78] (by decide +kernel) (by decide +kernel)
set_option maxRecDepth 20000 in
theorem gX2_sendDue_X2_removeFirst : GoodIn wsX2_sendDue (wsV RX2 116 RX2 yX2_removeFirst wsX2_removeFirst) := goodIn_app (goodIn_of _ (by decide +kernel)) ggX2_sendDue_X2_removeFirst
theorem dX2_sendDue_0 : decode cX2_sendDue 0 = .ok (.aload_n 0, 1) := by decide +kernel
theorem dX2_sendDue_1 : decode cX2_sendDue 1 = .ok (.invokevirtual 113, 3) := by decide +kernel
theorem dX2_sendDue_4 : decode cX2_sendDue 4 = .ok (.istore_n 2, 1) := by decide +kernel
theorem dX2_sendDue_5 : decode cX2_sendDue 5 = .ok (.aload_n 0, 1) := by decide +kernel
theorem dX2_sendDue_6 : decode cX2_sendDue 6 = .ok (.iload_n 1, 1) := by decide +kernel
theorem dX2_sendDue_7 : decode cX2_sendDue 7 = .ok (.invokevirtual 116, 3) := by decide +kernel
theorem dX2_sendDue_10 : decode cX2_sendDue 10 = .ok (.astore_n 3, 1) := by decide +kernel
theorem dX2_sendDue_11 : decode cX2_sendDue 11 = .ok (.aload_n 3, 1) := by decide +kernel
theorem dX2_sendDue_12 : decode cX2_sendDue 12 = .ok (.ifnull 31, 3) := by decide +kernel
theorem dX2_sendDue_15 : decode cX2_sendDue 15 = .ok (.aload_n 3, 1) := by decide +kernel
theorem dX2_sendDue_16 : decode cX2_sendDue 16 = .ok (.iconst 1, 1) := by decide +kernel
theorem dX2_sendDue_17 : decode cX2_sendDue 17 = .ok (.putfield 120, 3) := by decide +kernel
theorem dX2_sendDue_20 : decode cX2_sendDue 20 = .ok (.aload_n 3, 1) := by decide +kernel
theorem dX2_sendDue_21 : decode cX2_sendDue 21 = .ok (.iload_n 2, 1) := by decide +kernel
theorem dX2_sendDue_22 : decode cX2_sendDue 22 = .ok (.putfield 123, 3) := by decide +kernel
theorem dX2_sendDue_25 : decode cX2_sendDue 25 = .ok (.aload_n 0, 1) := by decide +kernel
theorem dX2_sendDue_26 : decode cX2_sendDue 26 = .ok (.iload_n 2, 1) := by decide +kernel
theorem dX2_sendDue_27 : decode cX2_sendDue 27 = .ok (.putfield 81, 3) := by decide +kernel
theorem dX2_sendDue_30 : decode cX2_sendDue 30 = .ok (.aload_n 0, 1) := by decide +kernel
theorem dX2_sendDue_31 : decode cX2_sendDue 31 = .ok (.dup, 1) := by decide +kernel
theorem dX2_sendDue_32 : decode cX2_sendDue 32 = .ok (.getfield 125, 3) := by decide +kernel
theorem dX2_sendDue_35 : decode cX2_sendDue 35 = .ok (.aload_n 3, 1) := by decide +kernel
theorem dX2_sendDue_36 : decode cX2_sendDue 36 = .ok (.getfield 77, 3) := by decide +kernel
theorem dX2_sendDue_39 : decode cX2_sendDue 39 = .ok (.iadd, 1) := by decide +kernel
theorem dX2_sendDue_40 : decode cX2_sendDue 40 = .ok (.putfield 125, 3) := by decide +kernel
theorem dX2_sendDue_43 : decode cX2_sendDue 43 = .ok (.aload_n 3, 1) := by decide +kernel
theorem dX2_sendDue_44 : decode cX2_sendDue 44 = .ok (.areturn, 1) := by decide +kernel
set_option maxRecDepth 20000 in
theorem ggX2_sendExcess_X2_tagInLeaf : GoodIn wsX2_sendExcess wsX2_tagInLeaf := goodIn_r _ [16, 17, 18, 2, 19, 11, 60, 61, 62, 63, 64, 65, 66, 67, 68, 69, 70, 71, 72, 73, 74, 75, 76, 77, 51, 52, 53, 54, 55, 56, 57, 58, 59] (by decide +kernel) (by decide +kernel)
set_option maxRecDepth 20000 in
theorem gX2_sendExcess_X2_tagInLeaf : GoodIn wsX2_sendExcess (wsV RX2 128 RX2 yX2_tagInLeaf wsX2_tagInLeaf) := goodIn_app (goodIn_of _ (by decide +kernel)) ggX2_sendExcess_X2_tagInLeaf
set_option maxRecDepth 20000 in
theorem ggX2_sendExcess_X2_tagInGroup : GoodIn wsX2_sendExcess wsX2_tagInGroup := goodIn_r _ [23, 17, 3, 9, 11, 24, 25, 26, 27, 28, 29, 30, 31, 60, 61, 62, 63, 64, 65, 66, 67, 68, 69, 70, 71, 72, 73, 74, 75, 76, 77, 78, 79, 80, 81, 82, 83, 51, 52, 53, 54, 55, 56, 57, 58, 59] (by decide +kernel) (by decide +kernel)
set_option maxRecDepth 20000 in
theorem gX2_sendExcess_X2_tagInGroup : GoodIn wsX2_sendExcess (wsV RX2 132 RX2 yX2_tagInGroup wsX2_tagInGroup) := goodIn_app (goodIn_of _ (by decide +kernel)) ggX2_sendExcess_X2_tagInGroup
set_option maxRecDepth 20000 in
theorem ggX2_sendExcess_X2_removeFirst : GoodIn wsX2_sendExcess wsX2_removeFirst := goodIn_r _ [35, 17, 36, 37, 38, 39, 40, 11, 3, 41, 42, 43, 44, 45, 46, 47, 48, 49, 50, 60, 61, 62, 63, 64, 65, 66, 67, 68, 69, 70, 71, 72, 73, 74, 75, 76, 77, 51, 52, 53, 54, 55, 56, 57, 58, 59, 78, 79, 80, 81, 82, 83, 84, 85, 86] (by decide +kernel) (by decide +kernel)
set_option maxRecDepth 20000 in
theorem gX2_sendExcess_X2_removeFirst : GoodIn wsX2_sendExcess (wsV RX2 116 RX2 yX2_removeFirst wsX2_removeFirst) := goodIn_app (goodIn_of _ (by decide +kernel)) ggX2_sendExcess_X2_removeFirst
theorem dX2_sendExcess_0 : decode cX2_sendExcess 0 = .ok (.aload_n 0, 1) := by decide +kernel
theorem dX2_sendExcess_1 : decode cX2_sendExcess 1 = .ok (.invokevirtual 128, 3) := by decide +kernel
theorem dX2_sendExcess_4 : decode cX2_sendExcess 4 = .ok (.lstore_n 2, 1) := by decide +kernel
theorem dX2_sendExcess_5 : decode cX2_sendExcess 5 = .ok (.aload_n 0, 1) := by decide +kernel
theorem dX2_sendExcess_6 : decode cX2_sendExcess 6 = .ok (.invokevirtual 132, 3) := by decide +kernel
theorem dX2_sendExcess_9 : decode cX2_sendExcess 9 = .ok (.lstore 4, 2) := by decide +kernel
theorem dX2_sendExcess_11 : decode cX2_sendExcess 11 = .ok (.aload_n 0, 1) := by decide +kernel
theorem dX2_sendExcess_12 : decode cX2_sendExcess 12 = .ok (.iload_n 1, 1) := by decide +kernel
theorem dX2_sendExcess_13 : decode cX2_sendExcess 13 = .ok (.invokevirtual 116, 3) := by decide +kernel
theorem dX2_sendExcess_16 : decode cX2_sendExcess 16 = .ok (.astore 6, 2) := by decide +kernel
theorem dX2_sendExcess_18 : decode cX2_sendExcess 18 = .ok (.aload 6, 2) := by decide +kernel
theorem dX2_sendExcess_20 : decode cX2_sendExcess 20 = .ok (.ifnull 55, 3) := by decide +kernel
theorem dX2_sendExcess_23 : decode cX2_sendExcess 23 = .ok (.aload 6, 2) := by decide +kernel
theorem dX2_sendExcess_25 : decode cX2_sendExcess 25 = .ok (.iconst 2, 1) := by decide +kernel
theorem dX2_sendExcess_26 : decode cX2_sendExcess 26 = .ok (.putfield 120, 3) := by decide +kernel
theorem dX2_sendExcess_29 : decode cX2_sendExcess 29 = .ok (.aload_n 0, 1) := by decide +kernel
theorem dX2_sendExcess_30 : decode cX2_sendExcess 30 = .ok (.lload_n 2, 1) := by decide +kernel
theorem dX2_sendExcess_31 : decode cX2_sendExcess 31 = .ok (.putfield 46, 3) := by decide +kernel
theorem dX2_sendExcess_34 : decode cX2_sendExcess 34 = .ok (.aload_n 0, 1) := by decide +kernel
theorem dX2_sendExcess_35 : decode cX2_sendExcess 35 = .ok (.getfield 9, 3) := by decide +kernel
theorem dX2_sendExcess_38 : decode cX2_sendExcess 38 = .ok (.aload_n 0, 1) := by decide +kernel
theorem dX2_sendExcess_39 : decode cX2_sendExcess 39 = .ok (.getfield 9, 3) := by decide +kernel
theorem dX2_sendExcess_42 : decode cX2_sendExcess 42 = .ok (.getfield 50, 3) := by decide +kernel
theorem dX2_sendExcess_45 : decode cX2_sendExcess 45 = .ok (.lload_n 2, 1) := by decide +kernel
theorem dX2_sendExcess_46 : decode cX2_sendExcess 46 = .ok (.invokestatic 55, 3) := by decide +kernel
theorem dX2_sendExcess_49 : decode cX2_sendExcess 49 = .ok (.putfield 50, 3) := by decide +kernel
theorem dX2_sendExcess_52 : decode cX2_sendExcess 52 = .ok (.aload_n 0, 1) := by decide +kernel
theorem dX2_sendExcess_53 : decode cX2_sendExcess 53 = .ok (.getfield 9, 3) := by decide +kernel
theorem dX2_sendExcess_56 : decode cX2_sendExcess 56 = .ok (.lload 4, 2) := by decide +kernel
theorem dX2_sendExcess_58 : decode cX2_sendExcess 58 = .ok (.putfield 64, 3) := by decide +kernel
theorem dX2_sendExcess_61 : decode cX2_sendExcess 61 = .ok (.aload_n 0, 1) := by decide +kernel
theorem dX2_sendExcess_62 : decode cX2_sendExcess 62 = .ok (.dup, 1) := by decide +kernel
theorem dX2_sendExcess_63 : decode cX2_sendExcess 63 = .ok (.getfield 135, 3) := by decide +kernel
theorem dX2_sendExcess_66 : decode cX2_sendExcess 66 = .ok (.aload 6, 2) := by decide +kernel
theorem dX2_sendExcess_68 : decode cX2_sendExcess 68 = .ok (.getfield 77, 3) := by decide +kernel
theorem dX2_sendExcess_71 : decode cX2_sendExcess 71 = .ok (.iadd, 1) := by decide +kernel
theorem dX2_sendExcess_72 : decode cX2_sendExcess 72 = .ok (.putfield 135, 3) := by decide +kernel
theorem dX2_sendExcess_75 : decode cX2_sendExcess 75 = .ok (.aload 6, 2) := by decide +kernel
theorem dX2_sendExcess_77 : decode cX2_sendExcess 77 = .ok (.areturn, 1) := by decide +kernel
set_option maxRecDepth 20000 in
theorem ggX2_removeFirst_X0_take : GoodIn wsX2_removeFirst wsX0_take := goodIn_r _ [16, 17, 18, 52, 53, 54] (by decide +kernel) (by decide +kernel)
set_option maxRecDepth 20000 in
theorem gX2_removeFirst_X0_take : GoodIn wsX2_removeFirst (wsV RX2 38 RX0 yX0_take wsX0_take) := goodIn_app (goodIn_of _ (by decide +kernel)) ggX2_removeFirst_X0_take
theorem dX2_removeFirst_0 : decode cX2_removeFirst 0 = .ok (.aload_n 0, 1) := by decide +kernel
theorem dX2_removeFirst_1 : decode cX2_removeFirst 1 = .ok (.getfield 42, 3) := by decide +kernel
theorem dX2_removeFirst_4 : decode cX2_removeFirst 4 = .ok (.astore_n 2, 1) := by decide +kernel
theorem dX2_removeFirst_5 : decode cX2_removeFirst 5 = .ok (.aload_n 2, 1) := by decide +kernel
theorem dX2_removeFirst_6 : decode cX2_removeFirst 6 = .ok (.ifnonnull 5, 3) := by decide +kernel
theorem dX2_removeFirst_9 : decode cX2_removeFirst 9 = .ok (.aconst_null, 1) := by decide +kernel
theorem dX2_removeFirst_10 : decode cX2_removeFirst 10 = .ok (.areturn, 1) := by decide +kernel
theorem dX2_removeFirst_11 : decode cX2_removeFirst 11 = .ok (.aload_n 0, 1) := by decide +kernel
theorem dX2_removeFirst_12 : decode cX2_removeFirst 12 = .ok (.aload_n 2, 1) := by decide +kernel
theorem dX2_removeFirst_13 : decode cX2_removeFirst 13 = .ok (.getfield 68, 3) := by decide +kernel
theorem dX2_removeFirst_16 : decode cX2_removeFirst 16 = .ok (.putfield 42, 3) := by decide +kernel
theorem dX2_removeFirst_19 : decode cX2_removeFirst 19 = .ok (.aload_n 0, 1) := by decide +kernel
theorem dX2_removeFirst_20 : decode cX2_removeFirst 20 = .ok (.getfield 42, 3) := by decide +kernel
theorem dX2_removeFirst_23 : decode cX2_removeFirst 23 = .ok (.ifnonnull 8, 3) := by decide +kernel
theorem dX2_removeFirst_26 : decode cX2_removeFirst 26 = .ok (.aload_n 0, 1) := by decide +kernel
theorem dX2_removeFirst_27 : decode cX2_removeFirst 27 = .ok (.aconst_null, 1) := by decide +kernel
theorem dX2_removeFirst_28 : decode cX2_removeFirst 28 = .ok (.putfield 65, 3) := by decide +kernel
theorem dX2_removeFirst_31 : decode cX2_removeFirst 31 = .ok (.aload_n 2, 1) := by decide +kernel
theorem dX2_removeFirst_32 : decode cX2_removeFirst 32 = .ok (.aconst_null, 1) := by decide +kernel
theorem dX2_removeFirst_33 : decode cX2_removeFirst 33 = .ok (.putfield 68, 3) := by decide +kernel
theorem dX2_removeFirst_36 : decode cX2_removeFirst 36 = .ok (.aload_n 2, 1) := by decide +kernel
theorem dX2_removeFirst_37 : decode cX2_removeFirst 37 = .ok (.iload_n 1, 1) := by decide +kernel
theorem dX2_removeFirst_38 : decode cX2_removeFirst 38 = .ok (.putfield 138, 3) := by decide +kernel
theorem dX2_removeFirst_41 : decode cX2_removeFirst 41 = .ok (.aload_n 0, 1) := by decide +kernel
theorem dX2_removeFirst_42 : decode cX2_removeFirst 42 = .ok (.dup, 1) := by decide +kernel
theorem dX2_removeFirst_43 : decode cX2_removeFirst 43 = .ok (.getfield 73, 3) := by decide +kernel
theorem dX2_removeFirst_46 : decode cX2_removeFirst 46 = .ok (.iconst 1, 1) := by decide +kernel
theorem dX2_removeFirst_47 : decode cX2_removeFirst 47 = .ok (.isub, 1) := by decide +kernel
theorem dX2_removeFirst_48 : decode cX2_removeFirst 48 = .ok (.putfield 73, 3) := by decide +kernel
theorem dX2_removeFirst_51 : decode cX2_removeFirst 51 = .ok (.aload_n 0, 1) := by decide +kernel
theorem dX2_removeFirst_52 : decode cX2_removeFirst 52 = .ok (.dup, 1) := by decide +kernel
theorem dX2_removeFirst_53 : decode cX2_removeFirst 53 = .ok (.getfield 74, 3) := by decide +kernel
theorem dX2_removeFirst_56 : decode cX2_removeFirst 56 = .ok (.aload_n 2, 1) := by decide +kernel
theorem dX2_removeFirst_57 : decode cX2_removeFirst 57 = .ok (.getfield 77, 3) := by decide +kernel
theorem dX2_removeFirst_60 : decode cX2_removeFirst 60 = .ok (.isub, 1) := by decide +kernel
theorem dX2_removeFirst_61 : decode cX2_removeFirst 61 = .ok (.putfield 74, 3) := by decide +kernel
theorem dX2_removeFirst_64 : decode cX2_removeFirst 64 = .ok (.aload_n 0, 1) := by decide +kernel
theorem dX2_removeFirst_65 : decode cX2_removeFirst 65 = .ok (.getfield 9, 3) := by decide +kernel
theorem dX2_removeFirst_68 : decode cX2_removeFirst 68 = .ok (.dup, 1) := by decide +kernel
theorem dX2_removeFirst_69 : decode cX2_removeFirst 69 = .ok (.getfield 61, 3) := by decide +kernel
theorem dX2_removeFirst_72 : decode cX2_removeFirst 72 = .ok (.iconst 1, 1) := by decide +kernel
theorem dX2_removeFirst_73 : decode cX2_removeFirst 73 = .ok (.isub, 1) := by decide +kernel
theorem dX2_removeFirst_74 : decode cX2_removeFirst 74 = .ok (.putfield 61, 3) := by decide +kernel
theorem dX2_removeFirst_77 : decode cX2_removeFirst 77 = .ok (.aload_n 0, 1) := by decide +kernel
theorem dX2_removeFirst_78 : decode cX2_removeFirst 78 = .ok (.getfield 22, 3) := by decide +kernel
theorem dX2_removeFirst_81 : decode cX2_removeFirst 81 = .ok (.aload_n 2, 1) := by decide +kernel
theorem dX2_removeFirst_82 : decode cX2_removeFirst 82 = .ok (.getfield 77, 3) := by decide +kernel
theorem dX2_removeFirst_85 : decode cX2_removeFirst 85 = .ok (.invokevirtual 38, 3) := by decide +kernel
theorem dX2_removeFirst_88 : decode cX2_removeFirst 88 = .ok (.aload_n 0, 1) := by decide +kernel
theorem dX2_removeFirst_89 : decode cX2_removeFirst 89 = .ok (.getfield 9, 3) := by decide +kernel
theorem dX2_removeFirst_92 : decode cX2_removeFirst 92 = .ok (.getfield 94, 3) := by decide +kernel
theorem dX2_removeFirst_95 : decode cX2_removeFirst 95 = .ok (.aload_n 2, 1) := by decide +kernel
theorem dX2_removeFirst_96 : decode cX2_removeFirst 96 = .ok (.getfield 77, 3) := by decide +kernel
theorem dX2_removeFirst_99 : decode cX2_removeFirst 99 = .ok (.invokevirtual 38, 3) := by decide +kernel
theorem dX2_removeFirst_102 : decode cX2_removeFirst 102 = .ok (.aload_n 2, 1) := by decide +kernel
theorem dX2_removeFirst_103 : decode cX2_removeFirst 103 = .ok (.areturn, 1) := by decide +kernel
theorem dX2_figure_0 : decode cX2_figure 0 = .ok (.iload_n 1, 1) := by decide +kernel
theorem dX2_figure_1 : decode cX2_figure 1 = .ok (.tableswitch 87 0 7 #[47, 52, 57, 62, 67, 72, 77, 82], 47) := by decide +kernel
theorem dX2_figure_48 : decode cX2_figure 48 = .ok (.aload_n 0, 1) := by decide +kernel
theorem dX2_figure_49 : decode cX2_figure 49 = .ok (.getfield 73, 3) := by decide +kernel
theorem dX2_figure_52 : decode cX2_figure 52 = .ok (.ireturn, 1) := by decide +kernel
theorem dX2_figure_53 : decode cX2_figure 53 = .ok (.aload_n 0, 1) := by decide +kernel
theorem dX2_figure_54 : decode cX2_figure 54 = .ok (.getfield 74, 3) := by decide +kernel
theorem dX2_figure_57 : decode cX2_figure 57 = .ok (.ireturn, 1) := by decide +kernel
theorem dX2_figure_58 : decode cX2_figure 58 = .ok (.aload_n 0, 1) := by decide +kernel
theorem dX2_figure_59 : decode cX2_figure 59 = .ok (.getfield 125, 3) := by decide +kernel
theorem dX2_figure_62 : decode cX2_figure 62 = .ok (.ireturn, 1) := by decide +kernel
theorem dX2_figure_63 : decode cX2_figure 63 = .ok (.aload_n 0, 1) := by decide +kernel
theorem dX2_figure_64 : decode cX2_figure 64 = .ok (.getfield 135, 3) := by decide +kernel
theorem dX2_figure_67 : decode cX2_figure 67 = .ok (.ireturn, 1) := by decide +kernel
theorem dX2_figure_68 : decode cX2_figure 68 = .ok (.aload_n 0, 1) := by decide +kernel
theorem dX2_figure_69 : decode cX2_figure 69 = .ok (.getfield 141, 3) := by decide +kernel
theorem dX2_figure_72 : decode cX2_figure 72 = .ok (.ireturn, 1) := by decide +kernel
theorem dX2_figure_73 : decode cX2_figure 73 = .ok (.aload_n 0, 1) := by decide +kernel
theorem dX2_figure_74 : decode cX2_figure 74 = .ok (.getfield 144, 3) := by decide +kernel
theorem dX2_figure_77 : decode cX2_figure 77 = .ok (.ireturn, 1) := by decide +kernel
theorem dX2_figure_78 : decode cX2_figure 78 = .ok (.aload_n 0, 1) := by decide +kernel
theorem dX2_figure_79 : decode cX2_figure 79 = .ok (.getfield 81, 3) := by decide +kernel
theorem dX2_figure_82 : decode cX2_figure 82 = .ok (.ireturn, 1) := by decide +kernel
theorem dX2_figure_83 : decode cX2_figure 83 = .ok (.aload_n 0, 1) := by decide +kernel
theorem dX2_figure_84 : decode cX2_figure 84 = .ok (.getfield 147, 3) := by decide +kernel
theorem dX2_figure_87 : decode cX2_figure 87 = .ok (.ireturn, 1) := by decide +kernel
theorem dX2_figure_88 : decode cX2_figure 88 = .ok (.iconst (-1), 1) := by decide +kernel
theorem dX2_figure_89 : decode cX2_figure 89 = .ok (.ireturn, 1) := by decide +kernel
theorem dX3_init_0 : decode cX3_init 0 = .ok (.aload_n 0, 1) := by decide +kernel
theorem dX3_init_1 : decode cX3_init 1 = .ok (.invokespecial 3, 3) := by decide +kernel
theorem dX3_init_4 : decode cX3_init 4 = .ok (.aload_n 0, 1) := by decide +kernel
theorem dX3_init_5 : decode cX3_init 5 = .ok (.iload_n 1, 1) := by decide +kernel
theorem dX3_init_6 : decode cX3_init 6 = .ok (.putfield 9, 3) := by decide +kernel
theorem dX3_init_9 : decode cX3_init 9 = .ok (.aload_n 0, 1) := by decide +kernel
theorem dX3_init_10 : decode cX3_init 10 = .ok (.iload_n 2, 1) := by decide +kernel
theorem dX3_init_11 : decode cX3_init 11 = .ok (.putfield 15, 3) := by decide +kernel
theorem dX3_init_14 : decode cX3_init 14 = .ok (.aload_n 0, 1) := by decide +kernel
theorem dX3_init_15 : decode cX3_init 15 = .ok (.iload_n 3, 1) := by decide +kernel
theorem dX3_init_16 : decode cX3_init 16 = .ok (.putfield 18, 3) := by decide +kernel
theorem dX3_init_19 : decode cX3_init 19 = .ok (.aload_n 0, 1) := by decide +kernel
theorem dX3_init_20 : decode cX3_init 20 = .ok (.iload 4, 2) := by decide +kernel
theorem dX3_init_22 : decode cX3_init 22 = .ok (.putfield 21, 3) := by decide +kernel
theorem dX3_init_25 : decode cX3_init 25 = .ok (.aload_n 0, 1) := by decide +kernel
theorem dX3_init_26 : decode cX3_init 26 = .ok (.iload 5, 2) := by decide +kernel
theorem dX3_init_28 : decode cX3_init 28 = .ok (.putfield 24, 3) := by decide +kernel
theorem dX3_init_31 : decode cX3_init 31 = .ok (.aload_n 0, 1) := by decide +kernel
theorem dX3_init_32 : decode cX3_init 32 = .ok (.iconst (-1), 1) := by decide +kernel
theorem dX3_init_33 : decode cX3_init 33 = .ok (.putfield 28, 3) := by decide +kernel
theorem dX3_init_36 : decode cX3_init 36 = .ok (.aload_n 0, 1) := by decide +kernel
theorem dX3_init_37 : decode cX3_init 37 = .ok (.iconst 0, 1) := by decide +kernel
theorem dX3_init_38 : decode cX3_init 38 = .ok (.putfield 31, 3) := by decide +kernel
theorem dX3_init_41 : decode cX3_init 41 = .ok (.aload_n 0, 1) := by decide +kernel
theorem dX3_init_42 : decode cX3_init 42 = .ok (.iconst (-1), 1) := by decide +kernel
theorem dX3_init_43 : decode cX3_init 43 = .ok (.putfield 34, 3) := by decide +kernel
theorem dX3_init_46 : decode cX3_init 46 = .ok (.return_, 1) := by decide +kernel
theorem dX3_figure_0 : decode cX3_figure 0 = .ok (.iload_n 1, 1) := by decide +kernel
theorem dX3_figure_1 : decode cX3_figure 1 = .ok (.tableswitch 86 0 6 #[43, 48, 53, 58, 63, 68, 73], 43) := by decide +kernel
theorem dX3_figure_44 : decode cX3_figure 44 = .ok (.aload_n 0, 1) := by decide +kernel
theorem dX3_figure_45 : decode cX3_figure 45 = .ok (.getfield 15, 3) := by decide +kernel
theorem dX3_figure_48 : decode cX3_figure 48 = .ok (.ireturn, 1) := by decide +kernel
theorem dX3_figure_49 : decode cX3_figure 49 = .ok (.aload_n 0, 1) := by decide +kernel
theorem dX3_figure_50 : decode cX3_figure 50 = .ok (.getfield 18, 3) := by decide +kernel
theorem dX3_figure_53 : decode cX3_figure 53 = .ok (.ireturn, 1) := by decide +kernel
theorem dX3_figure_54 : decode cX3_figure 54 = .ok (.aload_n 0, 1) := by decide +kernel
theorem dX3_figure_55 : decode cX3_figure 55 = .ok (.getfield 21, 3) := by decide +kernel
theorem dX3_figure_58 : decode cX3_figure 58 = .ok (.ireturn, 1) := by decide +kernel
theorem dX3_figure_59 : decode cX3_figure 59 = .ok (.aload_n 0, 1) := by decide +kernel
theorem dX3_figure_60 : decode cX3_figure 60 = .ok (.getfield 28, 3) := by decide +kernel
theorem dX3_figure_63 : decode cX3_figure 63 = .ok (.ireturn, 1) := by decide +kernel
theorem dX3_figure_64 : decode cX3_figure 64 = .ok (.aload_n 0, 1) := by decide +kernel
theorem dX3_figure_65 : decode cX3_figure 65 = .ok (.getfield 31, 3) := by decide +kernel
theorem dX3_figure_68 : decode cX3_figure 68 = .ok (.ireturn, 1) := by decide +kernel
theorem dX3_figure_69 : decode cX3_figure 69 = .ok (.aload_n 0, 1) := by decide +kernel
theorem dX3_figure_70 : decode cX3_figure 70 = .ok (.getfield 34, 3) := by decide +kernel
theorem dX3_figure_73 : decode cX3_figure 73 = .ok (.ireturn, 1) := by decide +kernel
theorem dX3_figure_74 : decode cX3_figure 74 = .ok (.aload_n 0, 1) := by decide +kernel
theorem dX3_figure_75 : decode cX3_figure 75 = .ok (.getfield 24, 3) := by decide +kernel
theorem dX3_figure_78 : decode cX3_figure 78 = .ok (.ifCond .eq 7, 3) := by decide +kernel
theorem dX3_figure_81 : decode cX3_figure 81 = .ok (.iconst 1, 1) := by decide +kernel
theorem dX3_figure_82 : decode cX3_figure 82 = .ok (.goto 4, 3) := by decide +kernel
theorem dX3_figure_85 : decode cX3_figure 85 = .ok (.iconst 0, 1) := by decide +kernel
theorem dX3_figure_86 : decode cX3_figure 86 = .ok (.ireturn, 1) := by decide +kernel
theorem dX3_figure_87 : decode cX3_figure 87 = .ok (.iconst (-1), 1) := by decide +kernel
theorem dX3_figure_88 : decode cX3_figure 88 = .ok (.ireturn, 1) := by decide +kernel
set_option maxRecDepth 20000 in
theorem ggX4_init_Jx4a65c_init_da8c8 : GoodIn wsX4_init wsJx4a65c_init_da8c8 := goodIn_r _ [18, 19, 20, 21, 22, 23, 24, 25, 26, 27, 28, 29, 30, 2, 3, 31, 32, 33] (by decide +kernel) (by decide +kernel)
set_option maxRecDepth 20000 in
theorem gX4_init_Jx4a65c_init_da8c8 : GoodIn wsX4_init (wsJx4a65c_init_da8c8) := ggX4_init_Jx4a65c_init_da8c8
theorem dX4_init_0 : decode cX4_init 0 = .ok (.aload_n 0, 1) := by decide +kernel
theorem dX4_init_1 : decode cX4_init 1 = .ok (.invokespecial 1, 3) := by decide +kernel
theorem dX4_init_4 : decode cX4_init 4 = .ok (.aload_n 0, 1) := by decide +kernel
theorem dX4_init_5 : decode cX4_init 5 = .ok (.new 7, 3) := by decide +kernel
theorem dX4_init_8 : decode cX4_init 8 = .ok (.dup, 1) := by decide +kernel
theorem dX4_init_9 : decode cX4_init 9 = .ok (.invokespecial 9, 3) := by decide +kernel
theorem dX4_init_12 : decode cX4_init 12 = .ok (.putfield 10, 3) := by decide +kernel
theorem dX4_init_15 : decode cX4_init 15 = .ok (.aload_n 0, 1) := by decide +kernel
theorem dX4_init_16 : decode cX4_init 16 = .ok (.new 7, 3) := by decide +kernel
theorem dX4_init_19 : decode cX4_init 19 = .ok (.dup, 1) := by decide +kernel
theorem dX4_init_20 : decode cX4_init 20 = .ok (.invokespecial 9, 3) := by decide +kernel
theorem dX4_init_23 : decode cX4_init 23 = .ok (.putfield 16, 3) := by decide +kernel
theorem dX4_init_26 : decode cX4_init 26 = .ok (.aload_n 0, 1) := by decide +kernel
theorem dX4_init_27 : decode cX4_init 27 = .ok (.new 7, 3) := by decide +kernel
theorem dX4_init_30 : decode cX4_init 30 = .ok (.dup, 1) := by decide +kernel
theorem dX4_init_31 : decode cX4_init 31 = .ok (.invokespecial 9, 3) := by decide +kernel
theorem dX4_init_34 : decode cX4_init 34 = .ok (.putfield 19, 3) := by decide +kernel
theorem dX4_init_37 : decode cX4_init 37 = .ok (.aload_n 0, 1) := by decide +kernel
theorem dX4_init_38 : decode cX4_init 38 = .ok (.new 7, 3) := by decide +kernel
theorem dX4_init_41 : decode cX4_init 41 = .ok (.dup, 1) := by decide +kernel
theorem dX4_init_42 : decode cX4_init 42 = .ok (.invokespecial 9, 3) := by decide +kernel
theorem dX4_init_45 : decode cX4_init 45 = .ok (.putfield 22, 3) := by decide +kernel
theorem dX4_init_48 : decode cX4_init 48 = .ok (.aload_n 0, 1) := by decide +kernel
theorem dX4_init_49 : decode cX4_init 49 = .ok (.iconst 0, 1) := by decide +kernel
theorem dX4_init_50 : decode cX4_init 50 = .ok (.putfield 25, 3) := by decide +kernel
theorem dX4_init_53 : decode cX4_init 53 = .ok (.aload_n 0, 1) := by decide +kernel
theorem dX4_init_54 : decode cX4_init 54 = .ok (.iconst 0, 1) := by decide +kernel
theorem dX4_init_55 : decode cX4_init 55 = .ok (.putfield 29, 3) := by decide +kernel
theorem dX4_init_58 : decode cX4_init 58 = .ok (.aload_n 0, 1) := by decide +kernel
theorem dX4_init_59 : decode cX4_init 59 = .ok (.iconst 0, 1) := by decide +kernel
theorem dX4_init_60 : decode cX4_init 60 = .ok (.putfield 32, 3) := by decide +kernel
theorem dX4_init_63 : decode cX4_init 63 = .ok (.aload_n 0, 1) := by decide +kernel
theorem dX4_init_64 : decode cX4_init 64 = .ok (.iconst 0, 1) := by decide +kernel
theorem dX4_init_65 : decode cX4_init 65 = .ok (.putfield 35, 3) := by decide +kernel
theorem dX4_init_68 : decode cX4_init 68 = .ok (.aload_n 0, 1) := by decide +kernel
theorem dX4_init_69 : decode cX4_init 69 = .ok (.lconst 0, 1) := by decide +kernel
theorem dX4_init_70 : decode cX4_init 70 = .ok (.putfield 38, 3) := by decide +kernel
theorem dX4_init_73 : decode cX4_init 73 = .ok (.return_, 1) := by decide +kernel
set_option maxRecDepth 20000 in
theorem ggX4_group_Jx4a65c_size_8abf5 : GoodIn wsX4_group wsJx4a65c_size_8abf5 := goodIn_r _ [12, 13, 112, 113, 114] (by decide +kernel) (by decide +kernel)
set_option maxRecDepth 20000 in
theorem gX4_group_Jx4a65c_size_8abf5 : GoodIn wsX4_group (wsV RX4 42 RJx4a65c yJx4a65c_size_8abf5 wsJx4a65c_size_8abf5) := goodIn_app (goodIn_of _ (by decide +kernel)) ggX4_group_Jx4a65c_size_8abf5
set_option maxRecDepth 20000 in
theorem ggX4_group_X4_isWeight : GoodIn wsX4_group wsX4_isWeight := goodIn_r _ [17, 18, 19, 16, 20] (by decide +kernel) (by decide +kernel)
set_option maxRecDepth 20000 in
theorem gX4_group_X4_isWeight : GoodIn wsX4_group (va_wsS RX4 46 yX4_isWeight wsX4_isWeight) := goodIn_app (goodIn_of _ (by decide +kernel)) ggX4_group_X4_isWeight
set_option maxRecDepth 20000 in
theorem ggX4_group_X4_isCeiling : GoodIn wsX4_group wsX4_isCeiling := goodIn_r _ [23, 18, 19, 16, 20] (by decide +kernel) (by decide +kernel)
set_option maxRecDepth 20000 in
theorem gX4_group_X4_isCeiling : GoodIn wsX4_group (va_wsS RX4 50 yX4_isCeiling wsX4_isCeiling) := goodIn_app (goodIn_of _ (by decide +kernel)) ggX4_group_X4_isCeiling
set_option maxRecDepth 20000 in
theorem ggX4_group_X0_init : GoodIn wsX4_group wsX0_init := goodIn_r _ [26, 27, 28, 29, 30, 31, 32, 33, 109, 110, 111] (by decide +kernel) (by decide +kernel)
set_option maxRecDepth 20000 in
theorem gX4_group_X0_init : GoodIn wsX4_group (wsX0_init) := ggX4_group_X0_init
set_option maxRecDepth 20000 in
theorem ggX4_group_X1_init : GoodIn wsX4_group wsX1_init := goodIn_r _ [36, 37, 28, 29, 38, 39, 103, 104, 105, 106, 107, 108] (by decide +kernel) (by decide +kernel)
set_option maxRecDepth 20000 in
theorem gX4_group_X1_init : GoodIn wsX4_group (wsX1_init) := ggX4_group_X1_init
set_option maxRecDepth 20000 in
theorem ggX4_group_Jx4a65c_add_9ea2d : GoodIn wsX4_group wsJx4a65c_add_9ea2d := goodIn_r _ [43, 44, 45, 46, 13, 47, 48, 49, 11, 50, 51, 52, 53, 54, 55, 56, 57, 58, 59, 60, 61, 62, 63, 64, 65, 66, 67, 68, 69, 70, 71, 72, 73, 74, 75, 76, 77, 78, 79, 80, 81, 82, 83, 84, 85, 86, 87, 88, 89, 90, 91, 92, 93, 112, 113, 114] (by decide +kernel) (by decide +kernel)
set_option maxRecDepth 20000 in
theorem gX4_group_Jx4a65c_add_9ea2d : GoodIn wsX4_group (wsV RX4 64 RJx4a65c yJx4a65c_add_9ea2d wsJx4a65c_add_9ea2d) := goodIn_app (goodIn_of _ (by decide +kernel)) ggX4_group_Jx4a65c_add_9ea2d
theorem dX4_group_0 : decode cX4_group 0 = .ok (.aload_n 0, 1) := by decide +kernel
theorem dX4_group_1 : decode cX4_group 1 = .ok (.getfield 10, 3) := by decide +kernel
theorem dX4_group_4 : decode cX4_group 4 = .ok (.invokevirtual 42, 3) := by decide +kernel
theorem dX4_group_7 : decode cX4_group 7 = .ok (.iconst 4, 1) := by decide +kernel
theorem dX4_group_8 : decode cX4_group 8 = .ok (.if_icmp .ge 18, 3) := by decide +kernel
theorem dX4_group_11 : decode cX4_group 11 = .ok (.iload_n 1, 1) := by decide +kernel
theorem dX4_group_12 : decode cX4_group 12 = .ok (.invokestatic 46, 3) := by decide +kernel
theorem dX4_group_15 : decode cX4_group 15 = .ok (.ifCond .eq 11, 3) := by decide +kernel
theorem dX4_group_18 : decode cX4_group 18 = .ok (.iload_n 2, 1) := by decide +kernel
theorem dX4_group_19 : decode cX4_group 19 = .ok (.iload_n 3, 1) := by decide +kernel
theorem dX4_group_20 : decode cX4_group 20 = .ok (.invokestatic 50, 3) := by decide +kernel
theorem dX4_group_23 : decode cX4_group 23 = .ok (.ifCond .ne 5, 3) := by decide +kernel
theorem dX4_group_26 : decode cX4_group 26 = .ok (.iconst (-1), 1) := by decide +kernel
theorem dX4_group_27 : decode cX4_group 27 = .ok (.ireturn, 1) := by decide +kernel
theorem dX4_group_28 : decode cX4_group 28 = .ok (.aload_n 0, 1) := by decide +kernel
theorem dX4_group_29 : decode cX4_group 29 = .ok (.getfield 10, 3) := by decide +kernel
theorem dX4_group_32 : decode cX4_group 32 = .ok (.new 54, 3) := by decide +kernel
theorem dX4_group_35 : decode cX4_group 35 = .ok (.dup, 1) := by decide +kernel
theorem dX4_group_36 : decode cX4_group 36 = .ok (.iload_n 1, 1) := by decide +kernel
theorem dX4_group_37 : decode cX4_group 37 = .ok (.new 56, 3) := by decide +kernel
theorem dX4_group_40 : decode cX4_group 40 = .ok (.dup, 1) := by decide +kernel
theorem dX4_group_41 : decode cX4_group 41 = .ok (.iload_n 2, 1) := by decide +kernel
theorem dX4_group_42 : decode cX4_group 42 = .ok (.iload_n 3, 1) := by decide +kernel
theorem dX4_group_43 : decode cX4_group 43 = .ok (.invokespecial 58, 3) := by decide +kernel
theorem dX4_group_46 : decode cX4_group 46 = .ok (.invokespecial 61, 3) := by decide +kernel
theorem dX4_group_49 : decode cX4_group 49 = .ok (.invokevirtual 64, 3) := by decide +kernel
theorem dX4_group_52 : decode cX4_group 52 = .ok (.pop, 1) := by decide +kernel
theorem dX4_group_53 : decode cX4_group 53 = .ok (.aload_n 0, 1) := by decide +kernel
theorem dX4_group_54 : decode cX4_group 54 = .ok (.getfield 10, 3) := by decide +kernel
theorem dX4_group_57 : decode cX4_group 57 = .ok (.invokevirtual 42, 3) := by decide +kernel
theorem dX4_group_60 : decode cX4_group 60 = .ok (.iconst 1, 1) := by decide +kernel
theorem dX4_group_61 : decode cX4_group 61 = .ok (.isub, 1) := by decide +kernel
theorem dX4_group_62 : decode cX4_group 62 = .ok (.ireturn, 1) := by decide +kernel
set_option maxRecDepth 20000 in
theorem ggX4_leaf_X4_groupAt : GoodIn wsX4_leaf wsX4_groupAt := goodIn_r _ [15, 16, 17, 18, 19, 20, 21, 22, 23, 24, 25, 26, 27, 28, 29, 30, 31, 32, 33, 34, 35, 36, 37, 38, 39, 40, 131, 132, 133, 134, 135, 136, 137, 138, 139, 167, 168, 169] (by decide +kernel) (by decide +kernel)
set_option maxRecDepth 20000 in
theorem gX4_leaf_X4_groupAt : GoodIn wsX4_leaf (wsV RX4 68 RX4 yX4_groupAt wsX4_groupAt) := goodIn_app (goodIn_of _ (by decide +kernel)) ggX4_leaf_X4_groupAt
set_option maxRecDepth 20000 in
theorem ggX4_leaf_Jx4a65c_size_8abf5 : GoodIn wsX4_leaf wsJx4a65c_size_8abf5 := goodIn_r _ [22, 23, 167, 168, 169] (by decide +kernel) (by decide +kernel)
set_option maxRecDepth 20000 in
theorem gX4_leaf_Jx4a65c_size_8abf5 : GoodIn wsX4_leaf (wsV RX4 42 RJx4a65c yJx4a65c_size_8abf5 wsJx4a65c_size_8abf5) := goodIn_app (goodIn_of _ (by decide +kernel)) ggX4_leaf_Jx4a65c_size_8abf5
set_option maxRecDepth 20000 in
theorem ggX4_leaf_X4_isWeight : GoodIn wsX4_leaf wsX4_isWeight := goodIn_r _ [43, 44, 45, 14, 46] (by decide +kernel) (by decide +kernel)
set_option maxRecDepth 20000 in
theorem gX4_leaf_X4_isWeight : GoodIn wsX4_leaf (va_wsS RX4 46 yX4_isWeight wsX4_isWeight) := goodIn_app (goodIn_of _ (by decide +kernel)) ggX4_leaf_X4_isWeight
set_option maxRecDepth 20000 in
theorem ggX4_leaf_X4_isCeiling : GoodIn wsX4_leaf wsX4_isCeiling := goodIn_r _ [49, 44, 45, 14, 46] (by decide +kernel) (by decide +kernel)
set_option maxRecDepth 20000 in
theorem gX4_leaf_X4_isCeiling : GoodIn wsX4_leaf (va_wsS RX4 50 yX4_isCeiling wsX4_isCeiling) := goodIn_app (goodIn_of _ (by decide +kernel)) ggX4_leaf_X4_isCeiling
set_option maxRecDepth 20000 in
theorem ggX4_leaf_X4_isWithin : GoodIn wsX4_leaf wsX4_isWithin := goodIn_r _ [46] (by decide +kernel) (by decide +kernel)
set_option maxRecDepth 20000 in
theorem gX4_leaf_X4_isWithin : GoodIn wsX4_leaf (va_wsS RX4 73 yX4_isWithin wsX4_isWithin) := goodIn_app (goodIn_of _ (by decide +kernel)) ggX4_leaf_X4_isWithin
set_option maxRecDepth 20000 in
theorem ggX4_leaf_X4_isGuarantee : GoodIn wsX4_leaf wsX4_isGuarantee := goodIn_r _ [52, 44, 45, 14, 46] (by decide +kernel) (by decide +kernel)
set_option maxRecDepth 20000 in
theorem gX4_leaf_X4_isGuarantee : GoodIn wsX4_leaf (va_wsS RX4 77 yX4_isGuarantee wsX4_isGuarantee) := goodIn_app (goodIn_of _ (by decide +kernel)) ggX4_leaf_X4_isGuarantee
set_option maxRecDepth 20000 in
theorem ggX4_leaf_X4_hasRoomFor : GoodIn wsX4_leaf wsX4_hasRoomFor := goodIn_r _ [56, 10, 57, 58, 9, 131, 132, 133, 134, 135, 136, 137, 138, 139, 161, 162, 163, 164, 165, 166, 158, 159, 160] (by decide +kernel) (by decide +kernel)
set_option maxRecDepth 20000 in
theorem gX4_leaf_X4_hasRoomFor : GoodIn wsX4_leaf (wsV RX4 80 RX4 yX4_hasRoomFor wsX4_hasRoomFor) := goodIn_app (goodIn_of _ (by decide +kernel)) ggX4_leaf_X4_hasRoomFor
set_option maxRecDepth 20000 in
theorem ggX4_leaf_X0_init : GoodIn wsX4_leaf wsX0_init := goodIn_r _ [61, 62, 63, 64, 65, 66, 67, 68, 158, 159, 160] (by decide +kernel) (by decide +kernel)
set_option maxRecDepth 20000 in
theorem gX4_leaf_X0_init : GoodIn wsX4_leaf (wsX0_init) := ggX4_leaf_X0_init
set_option maxRecDepth 20000 in
theorem ggX4_leaf_X2_init : GoodIn wsX4_leaf wsX2_init := goodIn_r _ [71, 72, 63, 64, 73, 74, 75, 76, 77, 140, 141, 142, 143, 144, 145, 146, 147, 148, 149, 150, 151, 152, 153, 154, 155, 156, 157] (by decide +kernel) (by decide +kernel)
set_option maxRecDepth 20000 in
theorem gX4_leaf_X2_init : GoodIn wsX4_leaf (wsX2_init) := ggX4_leaf_X2_init
set_option maxRecDepth 20000 in
theorem ggX4_leaf_Jx4a65c_add_9ea2d : GoodIn wsX4_leaf wsJx4a65c_add_9ea2d := goodIn_r _ [81, 82, 83, 40, 23, 84, 85, 86, 21, 87, 88, 89, 90, 91, 92, 93, 94, 95, 96, 97, 98, 99, 100, 101, 102, 103, 104, 105, 106, 107, 108, 109, 110, 111, 112, 113, 114, 115, 116, 117, 118, 119, 120, 121, 122, 123, 124, 125, 126, 127, 128, 129, 130, 167, 168, 169] (by decide +kernel) (by decide +kernel)
set_option maxRecDepth 20000 in
theorem gX4_leaf_Jx4a65c_add_9ea2d : GoodIn wsX4_leaf (wsV RX4 64 RJx4a65c yJx4a65c_add_9ea2d wsJx4a65c_add_9ea2d) := goodIn_app (goodIn_of _ (by decide +kernel)) ggX4_leaf_Jx4a65c_add_9ea2d
theorem dX4_leaf_0 : decode cX4_leaf 0 = .ok (.aload_n 0, 1) := by decide +kernel
theorem dX4_leaf_1 : decode cX4_leaf 1 = .ok (.iload_n 1, 1) := by decide +kernel
theorem dX4_leaf_2 : decode cX4_leaf 2 = .ok (.invokevirtual 68, 3) := by decide +kernel
theorem dX4_leaf_5 : decode cX4_leaf 5 = .ok (.astore 7, 2) := by decide +kernel
theorem dX4_leaf_7 : decode cX4_leaf 7 = .ok (.aload 7, 2) := by decide +kernel
theorem dX4_leaf_9 : decode cX4_leaf 9 = .ok (.ifnull 15, 3) := by decide +kernel
theorem dX4_leaf_12 : decode cX4_leaf 12 = .ok (.aload_n 0, 1) := by decide +kernel
theorem dX4_leaf_13 : decode cX4_leaf 13 = .ok (.getfield 16, 3) := by decide +kernel
theorem dX4_leaf_16 : decode cX4_leaf 16 = .ok (.invokevirtual 42, 3) := by decide +kernel
theorem dX4_leaf_19 : decode cX4_leaf 19 = .ok (.bipush 8, 2) := by decide +kernel
theorem dX4_leaf_21 : decode cX4_leaf 21 = .ok (.if_icmp .lt 5, 3) := by decide +kernel
theorem dX4_leaf_24 : decode cX4_leaf 24 = .ok (.iconst (-1), 1) := by decide +kernel
theorem dX4_leaf_25 : decode cX4_leaf 25 = .ok (.ireturn, 1) := by decide +kernel
theorem dX4_leaf_26 : decode cX4_leaf 26 = .ok (.iload_n 2, 1) := by decide +kernel
theorem dX4_leaf_27 : decode cX4_leaf 27 = .ok (.invokestatic 46, 3) := by decide +kernel
theorem dX4_leaf_30 : decode cX4_leaf 30 = .ok (.ifCond .eq 26, 3) := by decide +kernel
theorem dX4_leaf_33 : decode cX4_leaf 33 = .ok (.iload 4, 2) := by decide +kernel
theorem dX4_leaf_35 : decode cX4_leaf 35 = .ok (.iload 5, 2) := by decide +kernel
theorem dX4_leaf_37 : decode cX4_leaf 37 = .ok (.invokestatic 50, 3) := by decide +kernel
theorem dX4_leaf_40 : decode cX4_leaf 40 = .ok (.ifCond .eq 16, 3) := by decide +kernel
theorem dX4_leaf_43 : decode cX4_leaf 43 = .ok (.iload 6, 2) := by decide +kernel
theorem dX4_leaf_45 : decode cX4_leaf 45 = .ok (.sipush 1500, 3) := by decide +kernel
theorem dX4_leaf_48 : decode cX4_leaf 48 = .ok (.ldc 72, 2) := by decide +kernel
theorem dX4_leaf_50 : decode cX4_leaf 50 = .ok (.invokestatic 73, 3) := by decide +kernel
theorem dX4_leaf_53 : decode cX4_leaf 53 = .ok (.ifCond .ne 5, 3) := by decide +kernel
theorem dX4_leaf_56 : decode cX4_leaf 56 = .ok (.iconst (-1), 1) := by decide +kernel
theorem dX4_leaf_57 : decode cX4_leaf 57 = .ok (.ireturn, 1) := by decide +kernel
theorem dX4_leaf_58 : decode cX4_leaf 58 = .ok (.iload_n 3, 1) := by decide +kernel
theorem dX4_leaf_59 : decode cX4_leaf 59 = .ok (.invokestatic 77, 3) := by decide +kernel
theorem dX4_leaf_62 : decode cX4_leaf 62 = .ok (.ifCond .eq 19, 3) := by decide +kernel
theorem dX4_leaf_65 : decode cX4_leaf 65 = .ok (.iload_n 3, 1) := by decide +kernel
theorem dX4_leaf_66 : decode cX4_leaf 66 = .ok (.iload 4, 2) := by decide +kernel
theorem dX4_leaf_68 : decode cX4_leaf 68 = .ok (.if_icmp .gt 13, 3) := by decide +kernel
theorem dX4_leaf_71 : decode cX4_leaf 71 = .ok (.aload_n 0, 1) := by decide +kernel
theorem dX4_leaf_72 : decode cX4_leaf 72 = .ok (.iload_n 3, 1) := by decide +kernel
theorem dX4_leaf_73 : decode cX4_leaf 73 = .ok (.aload 7, 2) := by decide +kernel
theorem dX4_leaf_75 : decode cX4_leaf 75 = .ok (.invokevirtual 80, 3) := by decide +kernel
theorem dX4_leaf_78 : decode cX4_leaf 78 = .ok (.ifCond .ne 5, 3) := by decide +kernel
theorem dX4_leaf_81 : decode cX4_leaf 81 = .ok (.iconst (-1), 1) := by decide +kernel
theorem dX4_leaf_82 : decode cX4_leaf 82 = .ok (.ireturn, 1) := by decide +kernel
theorem dX4_leaf_83 : decode cX4_leaf 83 = .ok (.aload_n 0, 1) := by decide +kernel
theorem dX4_leaf_84 : decode cX4_leaf 84 = .ok (.getfield 16, 3) := by decide +kernel
theorem dX4_leaf_87 : decode cX4_leaf 87 = .ok (.new 84, 3) := by decide +kernel
theorem dX4_leaf_90 : decode cX4_leaf 90 = .ok (.dup, 1) := by decide +kernel
theorem dX4_leaf_91 : decode cX4_leaf 91 = .ok (.aload 7, 2) := by decide +kernel
theorem dX4_leaf_93 : decode cX4_leaf 93 = .ok (.iload_n 2, 1) := by decide +kernel
theorem dX4_leaf_94 : decode cX4_leaf 94 = .ok (.iload_n 3, 1) := by decide +kernel
theorem dX4_leaf_95 : decode cX4_leaf 95 = .ok (.new 56, 3) := by decide +kernel
theorem dX4_leaf_98 : decode cX4_leaf 98 = .ok (.dup, 1) := by decide +kernel
theorem dX4_leaf_99 : decode cX4_leaf 99 = .ok (.iload 4, 2) := by decide +kernel
theorem dX4_leaf_101 : decode cX4_leaf 101 = .ok (.iload 5, 2) := by decide +kernel
theorem dX4_leaf_103 : decode cX4_leaf 103 = .ok (.invokespecial 58, 3) := by decide +kernel
theorem dX4_leaf_106 : decode cX4_leaf 106 = .ok (.iload 6, 2) := by decide +kernel
theorem dX4_leaf_108 : decode cX4_leaf 108 = .ok (.invokespecial 86, 3) := by decide +kernel
theorem dX4_leaf_111 : decode cX4_leaf 111 = .ok (.invokevirtual 64, 3) := by decide +kernel
theorem dX4_leaf_114 : decode cX4_leaf 114 = .ok (.pop, 1) := by decide +kernel
theorem dX4_leaf_115 : decode cX4_leaf 115 = .ok (.aload 7, 2) := by decide +kernel
theorem dX4_leaf_117 : decode cX4_leaf 117 = .ok (.dup, 1) := by decide +kernel
theorem dX4_leaf_118 : decode cX4_leaf 118 = .ok (.getfield 89, 3) := by decide +kernel
theorem dX4_leaf_121 : decode cX4_leaf 121 = .ok (.iload_n 3, 1) := by decide +kernel
theorem dX4_leaf_122 : decode cX4_leaf 122 = .ok (.iadd, 1) := by decide +kernel
theorem dX4_leaf_123 : decode cX4_leaf 123 = .ok (.putfield 89, 3) := by decide +kernel
theorem dX4_leaf_126 : decode cX4_leaf 126 = .ok (.aload_n 0, 1) := by decide +kernel
theorem dX4_leaf_127 : decode cX4_leaf 127 = .ok (.dup, 1) := by decide +kernel
theorem dX4_leaf_128 : decode cX4_leaf 128 = .ok (.getfield 35, 3) := by decide +kernel
theorem dX4_leaf_131 : decode cX4_leaf 131 = .ok (.iload_n 3, 1) := by decide +kernel
theorem dX4_leaf_132 : decode cX4_leaf 132 = .ok (.iadd, 1) := by decide +kernel
theorem dX4_leaf_133 : decode cX4_leaf 133 = .ok (.putfield 35, 3) := by decide +kernel
theorem dX4_leaf_136 : decode cX4_leaf 136 = .ok (.aload_n 0, 1) := by decide +kernel
theorem dX4_leaf_137 : decode cX4_leaf 137 = .ok (.getfield 16, 3) := by decide +kernel
theorem dX4_leaf_140 : decode cX4_leaf 140 = .ok (.invokevirtual 42, 3) := by decide +kernel
theorem dX4_leaf_143 : decode cX4_leaf 143 = .ok (.iconst 1, 1) := by decide +kernel
theorem dX4_leaf_144 : decode cX4_leaf 144 = .ok (.isub, 1) := by decide +kernel
theorem dX4_leaf_145 : decode cX4_leaf 145 = .ok (.ireturn, 1) := by decide +kernel
set_option maxRecDepth 20000 in
theorem ggX4_police_X4_leafAt : GoodIn wsX4_police wsX4_leafAt := goodIn_r _ [10, 11, 12, 13, 14, 15, 16, 17, 18, 19, 20, 21, 22, 23, 24, 25, 26, 27, 28, 29, 30, 31, 32, 33, 34, 35, 70, 71, 72, 73, 74, 75, 76, 77, 78, 79, 80, 81] (by decide +kernel) (by decide +kernel)
set_option maxRecDepth 20000 in
theorem gX4_police_X4_leafAt : GoodIn wsX4_police (wsV RX4 90 RX4 yX4_leafAt wsX4_leafAt) := goodIn_app (goodIn_of _ (by decide +kernel)) ggX4_police_X4_leafAt
set_option maxRecDepth 20000 in
theorem ggX4_police_X4_isWithin : GoodIn wsX4_police wsX4_isWithin := goodIn_r _ [38] (by decide +kernel) (by decide +kernel)
set_option maxRecDepth 20000 in
theorem gX4_police_X4_isWithin : GoodIn wsX4_police (va_wsS RX4 73 yX4_isWithin wsX4_isWithin) := goodIn_app (goodIn_of _ (by decide +kernel)) ggX4_police_X4_isWithin
set_option maxRecDepth 20000 in
theorem ggX4_police_X0_init : GoodIn wsX4_police wsX0_init := goodIn_r _ [41, 42, 43, 44, 45, 46, 47, 48, 49, 50, 51] (by decide +kernel) (by decide +kernel)
set_option maxRecDepth 20000 in
theorem gX4_police_X0_init : GoodIn wsX4_police (wsX0_init) := ggX4_police_X0_init
theorem dX4_police_0 : decode cX4_police 0 = .ok (.aload_n 0, 1) := by decide +kernel
theorem dX4_police_1 : decode cX4_police 1 = .ok (.iload_n 1, 1) := by decide +kernel
theorem dX4_police_2 : decode cX4_police 2 = .ok (.invokevirtual 90, 3) := by decide +kernel
theorem dX4_police_5 : decode cX4_police 5 = .ok (.astore 5, 2) := by decide +kernel
theorem dX4_police_7 : decode cX4_police 7 = .ok (.aload 5, 2) := by decide +kernel
theorem dX4_police_9 : decode cX4_police 9 = .ok (.ifnull 25, 3) := by decide +kernel
theorem dX4_police_12 : decode cX4_police 12 = .ok (.iload_n 2, 1) := by decide +kernel
theorem dX4_police_13 : decode cX4_police 13 = .ok (.iconst 0, 1) := by decide +kernel
theorem dX4_police_14 : decode cX4_police 14 = .ok (.sipush 1000, 3) := by decide +kernel
theorem dX4_police_17 : decode cX4_police 17 = .ok (.invokestatic 73, 3) := by decide +kernel
theorem dX4_police_20 : decode cX4_police 20 = .ok (.ifCond .eq 14, 3) := by decide +kernel
theorem dX4_police_23 : decode cX4_police 23 = .ok (.iload_n 3, 1) := by decide +kernel
theorem dX4_police_24 : decode cX4_police 24 = .ok (.iconst 0, 1) := by decide +kernel
theorem dX4_police_25 : decode cX4_police 25 = .ok (.sipush 20000, 3) := by decide +kernel
theorem dX4_police_28 : decode cX4_police 28 = .ok (.invokestatic 73, 3) := by decide +kernel
theorem dX4_police_31 : decode cX4_police 31 = .ok (.ifCond .ne 5, 3) := by decide +kernel
theorem dX4_police_34 : decode cX4_police 34 = .ok (.iconst 0, 1) := by decide +kernel
theorem dX4_police_35 : decode cX4_police 35 = .ok (.ireturn, 1) := by decide +kernel
theorem dX4_police_36 : decode cX4_police 36 = .ok (.aload 5, 2) := by decide +kernel
theorem dX4_police_38 : decode cX4_police 38 = .ok (.new 56, 3) := by decide +kernel
theorem dX4_police_41 : decode cX4_police 41 = .ok (.dup, 1) := by decide +kernel
theorem dX4_police_42 : decode cX4_police 42 = .ok (.iload_n 2, 1) := by decide +kernel
theorem dX4_police_43 : decode cX4_police 43 = .ok (.iload_n 3, 1) := by decide +kernel
theorem dX4_police_44 : decode cX4_police 44 = .ok (.invokespecial 58, 3) := by decide +kernel
theorem dX4_police_47 : decode cX4_police 47 = .ok (.putfield 94, 3) := by decide +kernel
theorem dX4_police_50 : decode cX4_police 50 = .ok (.aload 5, 2) := by decide +kernel
theorem dX4_police_52 : decode cX4_police 52 = .ok (.iload 4, 2) := by decide +kernel
theorem dX4_police_54 : decode cX4_police 54 = .ok (.putfield 98, 3) := by decide +kernel
theorem dX4_police_57 : decode cX4_police 57 = .ok (.iconst 1, 1) := by decide +kernel
theorem dX4_police_58 : decode cX4_police 58 = .ok (.ireturn, 1) := by decide +kernel
set_option maxRecDepth 20000 in
theorem ggX4_arrive_X4_leafAt : GoodIn wsX4_arrive wsX4_leafAt := goodIn_r _ [17, 18, 19, 20, 21, 22, 23, 24, 25, 26, 27, 28, 29, 30, 31, 32, 33, 34, 35, 36, 37, 38, 39, 40, 41, 42, 152, 153, 154, 155, 156, 157, 158, 159, 160, 188, 189, 190] (by decide +kernel) (by decide +kernel)
set_option maxRecDepth 20000 in
theorem gX4_arrive_X4_leafAt : GoodIn wsX4_arrive (wsV RX4 90 RX4 yX4_leafAt wsX4_leafAt) := goodIn_app (goodIn_of _ (by decide +kernel)) ggX4_arrive_X4_leafAt
set_option maxRecDepth 20000 in
theorem ggX4_arrive_X4_isWithin : GoodIn wsX4_arrive wsX4_isWithin := goodIn_r _ [45] (by decide +kernel) (by decide +kernel)
set_option maxRecDepth 20000 in
theorem gX4_arrive_X4_isWithin : GoodIn wsX4_arrive (va_wsS RX4 73 yX4_isWithin wsX4_isWithin) := goodIn_app (goodIn_of _ (by decide +kernel)) ggX4_arrive_X4_isWithin
set_option maxRecDepth 20000 in
theorem ggX4_arrive_Jx4a65c_size_8abf5 : GoodIn wsX4_arrive wsJx4a65c_size_8abf5 := goodIn_r _ [24, 25, 188, 189, 190] (by decide +kernel) (by decide +kernel)
set_option maxRecDepth 20000 in
theorem gX4_arrive_Jx4a65c_size_8abf5 : GoodIn wsX4_arrive (wsV RX4 42 RJx4a65c yJx4a65c_size_8abf5 wsJx4a65c_size_8abf5) := goodIn_app (goodIn_of _ (by decide +kernel)) ggX4_arrive_Jx4a65c_size_8abf5
set_option maxRecDepth 20000 in
theorem ggX4_arrive_X2_paysPolicer : GoodIn wsX4_arrive wsX2_paysPolicer := goodIn_r _ [50, 51, 52, 53, 54, 55, 56, 57, 58, 59, 60, 61, 62, 161, 162, 163, 164, 165, 166, 167, 168, 169, 170, 171, 172, 173, 174, 175, 176, 177, 178, 191, 192, 193] (by decide +kernel) (by decide +kernel)
set_option maxRecDepth 20000 in
theorem gX4_arrive_X2_paysPolicer : GoodIn wsX4_arrive (wsV RX4 102 RX2 yX2_paysPolicer wsX2_paysPolicer) := goodIn_app (goodIn_of _ (by decide +kernel)) ggX4_arrive_X2_paysPolicer
set_option maxRecDepth 20000 in
theorem ggX4_arrive_X3_init : GoodIn wsX4_arrive wsX3_init := goodIn_r _ [65, 66, 67, 68, 69, 70, 71, 72, 73, 74, 75, 76, 179, 180, 181, 182, 183, 184, 185, 186, 187] (by decide +kernel) (by decide +kernel)
set_option maxRecDepth 20000 in
theorem gX4_arrive_X3_init : GoodIn wsX4_arrive (wsX3_init) := ggX4_arrive_X3_init
set_option maxRecDepth 20000 in
theorem ggX4_arrive_X2_catchUp : GoodIn wsX4_arrive wsX2_catchUp := goodIn_r _ [80, 81, 82, 83, 84, 85, 86, 87, 88, 89, 90, 161, 162, 163, 164, 165, 166, 167, 168, 169, 170, 171, 172, 173, 174, 175, 176, 177, 178, 194, 195, 196, 197, 198, 199] (by decide +kernel) (by decide +kernel)
set_option maxRecDepth 20000 in
theorem gX4_arrive_X2_catchUp : GoodIn wsX4_arrive (wsV RX4 122 RX2 yX2_catchUp wsX2_catchUp) := goodIn_app (goodIn_of _ (by decide +kernel)) ggX4_arrive_X2_catchUp
set_option maxRecDepth 20000 in
theorem ggX4_arrive_X2_append : GoodIn wsX4_arrive wsX2_append := goodIn_r _ [94, 95, 81, 96, 97, 98, 99, 83, 89, 161, 162, 163, 164, 165, 166, 167, 168, 169, 170, 171, 172, 173, 174, 175, 176, 177, 178, 179, 180, 181, 182, 183, 184, 185, 186, 187, 194, 195, 196, 197, 198, 199] (by decide +kernel) (by decide +kernel)
set_option maxRecDepth 20000 in
theorem gX4_arrive_X2_append : GoodIn wsX4_arrive (wsV RX4 126 RX2 yX2_append wsX2_append) := goodIn_app (goodIn_of _ (by decide +kernel)) ggX4_arrive_X2_append
set_option maxRecDepth 20000 in
theorem ggX4_arrive_Jx4a65c_add_9ea2d : GoodIn wsX4_arrive wsJx4a65c_add_9ea2d := goodIn_r _ [103, 104, 105, 42, 25, 106, 107, 108, 23, 109, 110, 111, 112, 113, 114, 115, 116, 117, 118, 119, 120, 87, 121, 122, 123, 124, 125, 126, 127, 128, 129, 130, 131, 132, 133, 134, 135, 136, 137, 138, 139, 140, 141, 142, 143, 144, 145, 146, 147, 148, 149, 150, 151, 188, 189, 190] (by decide +kernel) (by decide +kernel)
set_option maxRecDepth 20000 in
theorem gX4_arrive_Jx4a65c_add_9ea2d : GoodIn wsX4_arrive (wsV RX4 64 RJx4a65c yJx4a65c_add_9ea2d wsJx4a65c_add_9ea2d) := goodIn_app (goodIn_of _ (by decide +kernel)) ggX4_arrive_Jx4a65c_add_9ea2d
theorem dX4_arrive_0 : decode cX4_arrive 0 = .ok (.aload_n 0, 1) := by decide +kernel
theorem dX4_arrive_1 : decode cX4_arrive 1 = .ok (.iload_n 1, 1) := by decide +kernel
theorem dX4_arrive_2 : decode cX4_arrive 2 = .ok (.invokevirtual 90, 3) := by decide +kernel
theorem dX4_arrive_5 : decode cX4_arrive 5 = .ok (.astore_n 3, 1) := by decide +kernel
theorem dX4_arrive_6 : decode cX4_arrive 6 = .ok (.aload_n 3, 1) := by decide +kernel
theorem dX4_arrive_7 : decode cX4_arrive 7 = .ok (.ifnull 28, 3) := by decide +kernel
theorem dX4_arrive_10 : decode cX4_arrive 10 = .ok (.iload_n 2, 1) := by decide +kernel
theorem dX4_arrive_11 : decode cX4_arrive 11 = .ok (.bipush 64, 2) := by decide +kernel
theorem dX4_arrive_13 : decode cX4_arrive 13 = .ok (.sipush 1500, 3) := by decide +kernel
theorem dX4_arrive_16 : decode cX4_arrive 16 = .ok (.invokestatic 73, 3) := by decide +kernel
theorem dX4_arrive_19 : decode cX4_arrive 19 = .ok (.ifCond .eq 16, 3) := by decide +kernel
theorem dX4_arrive_22 : decode cX4_arrive 22 = .ok (.aload_n 0, 1) := by decide +kernel
theorem dX4_arrive_23 : decode cX4_arrive 23 = .ok (.getfield 19, 3) := by decide +kernel
theorem dX4_arrive_26 : decode cX4_arrive 26 = .ok (.invokevirtual 42, 3) := by decide +kernel
theorem dX4_arrive_29 : decode cX4_arrive 29 = .ok (.sipush 1000, 3) := by decide +kernel
theorem dX4_arrive_32 : decode cX4_arrive 32 = .ok (.if_icmp .lt 5, 3) := by decide +kernel
theorem dX4_arrive_35 : decode cX4_arrive 35 = .ok (.iconst (-1), 1) := by decide +kernel
theorem dX4_arrive_36 : decode cX4_arrive 36 = .ok (.ireturn, 1) := by decide +kernel
theorem dX4_arrive_37 : decode cX4_arrive 37 = .ok (.aload_n 3, 1) := by decide +kernel
theorem dX4_arrive_38 : decode cX4_arrive 38 = .ok (.iload_n 2, 1) := by decide +kernel
theorem dX4_arrive_39 : decode cX4_arrive 39 = .ok (.invokevirtual 102, 3) := by decide +kernel
theorem dX4_arrive_42 : decode cX4_arrive 42 = .ok (.istore 4, 2) := by decide +kernel
theorem dX4_arrive_44 : decode cX4_arrive 44 = .ok (.iload 4, 2) := by decide +kernel
theorem dX4_arrive_46 : decode cX4_arrive 46 = .ok (.ifCond .ne 23, 3) := by decide +kernel
theorem dX4_arrive_49 : decode cX4_arrive 49 = .ok (.aload_n 3, 1) := by decide +kernel
theorem dX4_arrive_50 : decode cX4_arrive 50 = .ok (.getfield 98, 3) := by decide +kernel
theorem dX4_arrive_53 : decode cX4_arrive 53 = .ok (.ifCond .ne 16, 3) := by decide +kernel
theorem dX4_arrive_56 : decode cX4_arrive 56 = .ok (.aload_n 3, 1) := by decide +kernel
theorem dX4_arrive_57 : decode cX4_arrive 57 = .ok (.dup, 1) := by decide +kernel
theorem dX4_arrive_58 : decode cX4_arrive 58 = .ok (.getfield 105, 3) := by decide +kernel
theorem dX4_arrive_61 : decode cX4_arrive 61 = .ok (.iconst 1, 1) := by decide +kernel
theorem dX4_arrive_62 : decode cX4_arrive 62 = .ok (.iadd, 1) := by decide +kernel
theorem dX4_arrive_63 : decode cX4_arrive 63 = .ok (.putfield 105, 3) := by decide +kernel
theorem dX4_arrive_66 : decode cX4_arrive 66 = .ok (.bipush (-2), 2) := by decide +kernel
theorem dX4_arrive_68 : decode cX4_arrive 68 = .ok (.ireturn, 1) := by decide +kernel
theorem dX4_arrive_69 : decode cX4_arrive 69 = .ok (.iload_n 2, 1) := by decide +kernel
theorem dX4_arrive_70 : decode cX4_arrive 70 = .ok (.aload_n 3, 1) := by decide +kernel
theorem dX4_arrive_71 : decode cX4_arrive 71 = .ok (.getfield 108, 3) := by decide +kernel
theorem dX4_arrive_74 : decode cX4_arrive 74 = .ok (.aload_n 3, 1) := by decide +kernel
theorem dX4_arrive_75 : decode cX4_arrive 75 = .ok (.getfield 111, 3) := by decide +kernel
theorem dX4_arrive_78 : decode cX4_arrive 78 = .ok (.isub, 1) := by decide +kernel
theorem dX4_arrive_79 : decode cX4_arrive 79 = .ok (.if_icmp .le 16, 3) := by decide +kernel
theorem dX4_arrive_82 : decode cX4_arrive 82 = .ok (.aload_n 3, 1) := by decide +kernel
theorem dX4_arrive_83 : decode cX4_arrive 83 = .ok (.dup, 1) := by decide +kernel
theorem dX4_arrive_84 : decode cX4_arrive 84 = .ok (.getfield 114, 3) := by decide +kernel
theorem dX4_arrive_87 : decode cX4_arrive 87 = .ok (.iconst 1, 1) := by decide +kernel
theorem dX4_arrive_88 : decode cX4_arrive 88 = .ok (.iadd, 1) := by decide +kernel
theorem dX4_arrive_89 : decode cX4_arrive 89 = .ok (.putfield 114, 3) := by decide +kernel
theorem dX4_arrive_92 : decode cX4_arrive 92 = .ok (.bipush (-3), 2) := by decide +kernel
theorem dX4_arrive_94 : decode cX4_arrive 94 = .ok (.ireturn, 1) := by decide +kernel
theorem dX4_arrive_95 : decode cX4_arrive 95 = .ok (.new 117, 3) := by decide +kernel
theorem dX4_arrive_98 : decode cX4_arrive 98 = .ok (.dup, 1) := by decide +kernel
theorem dX4_arrive_99 : decode cX4_arrive 99 = .ok (.aload_n 0, 1) := by decide +kernel
theorem dX4_arrive_100 : decode cX4_arrive 100 = .ok (.getfield 19, 3) := by decide +kernel
theorem dX4_arrive_103 : decode cX4_arrive 103 = .ok (.invokevirtual 42, 3) := by decide +kernel
theorem dX4_arrive_106 : decode cX4_arrive 106 = .ok (.iload_n 1, 1) := by decide +kernel
theorem dX4_arrive_107 : decode cX4_arrive 107 = .ok (.iload_n 2, 1) := by decide +kernel
theorem dX4_arrive_108 : decode cX4_arrive 108 = .ok (.aload_n 0, 1) := by decide +kernel
theorem dX4_arrive_109 : decode cX4_arrive 109 = .ok (.getfield 25, 3) := by decide +kernel
theorem dX4_arrive_112 : decode cX4_arrive 112 = .ok (.iload 4, 2) := by decide +kernel
theorem dX4_arrive_114 : decode cX4_arrive 114 = .ok (.ifCond .ne 7, 3) := by decide +kernel
theorem dX4_arrive_117 : decode cX4_arrive 117 = .ok (.iconst 1, 1) := by decide +kernel
theorem dX4_arrive_118 : decode cX4_arrive 118 = .ok (.goto 4, 3) := by decide +kernel
theorem dX4_arrive_121 : decode cX4_arrive 121 = .ok (.iconst 0, 1) := by decide +kernel
theorem dX4_arrive_122 : decode cX4_arrive 122 = .ok (.invokespecial 119, 3) := by decide +kernel
theorem dX4_arrive_125 : decode cX4_arrive 125 = .ok (.astore 5, 2) := by decide +kernel
theorem dX4_arrive_127 : decode cX4_arrive 127 = .ok (.aload_n 3, 1) := by decide +kernel
theorem dX4_arrive_128 : decode cX4_arrive 128 = .ok (.aload_n 0, 1) := by decide +kernel
theorem dX4_arrive_129 : decode cX4_arrive 129 = .ok (.getfield 38, 3) := by decide +kernel
theorem dX4_arrive_132 : decode cX4_arrive 132 = .ok (.invokevirtual 122, 3) := by decide +kernel
theorem dX4_arrive_135 : decode cX4_arrive 135 = .ok (.aload_n 3, 1) := by decide +kernel
theorem dX4_arrive_136 : decode cX4_arrive 136 = .ok (.aload 5, 2) := by decide +kernel
theorem dX4_arrive_138 : decode cX4_arrive 138 = .ok (.invokevirtual 126, 3) := by decide +kernel
theorem dX4_arrive_141 : decode cX4_arrive 141 = .ok (.aload_n 0, 1) := by decide +kernel
theorem dX4_arrive_142 : decode cX4_arrive 142 = .ok (.getfield 19, 3) := by decide +kernel
theorem dX4_arrive_145 : decode cX4_arrive 145 = .ok (.aload 5, 2) := by decide +kernel
theorem dX4_arrive_147 : decode cX4_arrive 147 = .ok (.invokevirtual 64, 3) := by decide +kernel
theorem dX4_arrive_150 : decode cX4_arrive 150 = .ok (.pop, 1) := by decide +kernel
theorem dX4_arrive_151 : decode cX4_arrive 151 = .ok (.aload 5, 2) := by decide +kernel
theorem dX4_arrive_153 : decode cX4_arrive 153 = .ok (.getfield 130, 3) := by decide +kernel
theorem dX4_arrive_156 : decode cX4_arrive 156 = .ok (.ireturn, 1) := by decide +kernel
set_option maxRecDepth 20000 in
theorem ggX4_run_X4_isWithin : GoodIn wsX4_run wsX4_isWithin := goodIn_r _ [13] (by decide +kernel) (by decide +kernel)
set_option maxRecDepth 20000 in
theorem gX4_run_X4_isWithin : GoodIn wsX4_run (va_wsS RX4 73 yX4_isWithin wsX4_isWithin) := goodIn_app (goodIn_of _ (by decide +kernel)) ggX4_run_X4_isWithin
set_option maxRecDepth 20000 in
theorem ggX4_run_Jx4a65c_size_8abf5 : GoodIn wsX4_run wsJx4a65c_size_8abf5 := goodIn_r _ [18, 19, 260, 261, 262] (by decide +kernel) (by decide +kernel)
set_option maxRecDepth 20000 in
theorem gX4_run_Jx4a65c_size_8abf5 : GoodIn wsX4_run (wsV RX4 42 RJx4a65c yJx4a65c_size_8abf5 wsJx4a65c_size_8abf5) := goodIn_app (goodIn_of _ (by decide +kernel)) ggX4_run_Jx4a65c_size_8abf5
set_option maxRecDepth 20000 in
theorem ggX4_run_X4_beginOne : GoodIn wsX4_run wsX4_beginOne := goodIn_r _ [23, 2, 24, 25, 26, 8, 27, 28, 29, 30, 12, 31, 32, 33, 14, 15, 16, 17, 18, 19, 34, 35, 36, 37, 38, 39, 40, 41, 42, 43, 44, 45, 46, 47, 48, 49, 50, 51, 52, 53, 54, 55, 56, 57, 58, 59, 60, 61, 62, 63, 64, 65, 66, 67, 68, 69, 70, 71, 72, 73, 74, 75, 76, 77, 78, 79, 80, 81, 82, 83, 84, 85, 86, 87, 88, 89, 90, 91, 92, 93, 94, 95, 96, 97, 98, 99, 100, 101, 4, 102, 5, 103, 104, 105, 106, 107, 108, 109, 110, 111, 112, 113, 114, 115, 116, 117, 118, 119, 120, 121, 122, 123, 124, 125, 126, 127, 128, 129, 130, 131, 132, 133, 134, 135, 136, 137, 138, 139, 140, 141, 142, 143, 144, 145, 146, 7, 9, 147, 148, 149, 150, 151, 152, 153, 154, 155, 156, 157, 158, 159, 160, 161, 162, 163, 164, 165, 166, 167, 168, 169, 170, 171, 172, 173, 174, 175, 176, 177, 178, 179, 180, 181, 182, 183, 184, 185, 186, 187, 188, 189, 190, 191, 192, 193, 194, 195, 196, 197, 198, 199, 200, 201, 202, 203, 204, 205, 206, 207, 208, 251, 252, 253, 254, 255, 256, 257, 258, 259, 260, 261, 262, 263, 264, 265, 266, 267, 268, 269, 270, 271, 272, 273, 274, 275, 276, 277, 278, 279, 280, 281, 282, 283, 284, 285, 286, 287, 288, 289, 290, 291, 292, 293, 294, 295, 296, 297, 298] (by decide +kernel) (by decide +kernel)
set_option maxRecDepth 20000 in
theorem gX4_run_X4_beginOne : GoodIn wsX4_run (wsV RX4 135 RX4 yX4_beginOne wsX4_beginOne) := goodIn_app (goodIn_of _ (by decide +kernel)) ggX4_run_X4_beginOne
set_option maxRecDepth 20000 in
theorem ggX4_run_X4_passBusy : GoodIn wsX4_run wsX4_passBusy := goodIn_r _ [212, 213, 214, 215, 216, 12, 217, 155, 156, 218, 32, 33, 219, 220, 2, 14, 15, 16, 17, 18, 19, 34, 35, 36, 37, 38, 39, 40, 41, 42, 43, 44, 45, 46, 47, 48, 49, 50, 221, 222, 223, 94, 224, 225, 96, 226, 227, 228, 8, 229, 251, 252, 253, 254, 255, 256, 257, 258, 259, 290, 291, 292, 293, 294, 295, 263, 264, 265, 266, 267, 268, 269, 270, 271, 272, 273, 274, 275, 276, 277, 278, 279, 280, 260, 261, 262, 296, 297, 298] (by decide +kernel) (by decide +kernel)
set_option maxRecDepth 20000 in
theorem gX4_run_X4_passBusy : GoodIn wsX4_run (wsV RX4 144 RX4 yX4_passBusy wsX4_passBusy) := goodIn_app (goodIn_of _ (by decide +kernel)) ggX4_run_X4_passBusy
set_option maxRecDepth 20000 in
theorem ggX4_run_X4_ticksUntilOneMayGo : GoodIn wsX4_run wsX4_ticksUntilOneMayGo := goodIn_r _ [233, 234, 32, 33, 2, 235, 228, 8, 229, 14, 15, 16, 17, 18, 19, 34, 35, 36, 37, 38, 39, 40, 41, 42, 43, 44, 45, 46, 47, 48, 49, 50, 236, 237, 238, 54, 239, 56, 240, 89, 68, 87, 90, 205, 26, 27, 241, 242, 243, 244, 94, 245, 97, 96, 226, 246, 69, 52, 53, 55, 57, 58, 59, 60, 61, 62, 63, 251, 252, 253, 254, 255, 256, 257, 258, 259, 260, 261, 262, 263, 264, 265, 266, 267, 268, 269, 270, 271, 272, 273, 274, 275, 276, 277, 278, 279, 280, 281, 282, 283, 284, 285, 286, 287, 288, 289, 290, 291, 292, 293, 294, 295, 296, 297, 298] (by decide +kernel) (by decide +kernel)
set_option maxRecDepth 20000 in
theorem gX4_run_X4_ticksUntilOneMayGo : GoodIn wsX4_run (wsV RX4 148 RX4 yX4_ticksUntilOneMayGo wsX4_ticksUntilOneMayGo) := goodIn_app (goodIn_of _ (by decide +kernel)) ggX4_run_X4_ticksUntilOneMayGo
set_option maxRecDepth 20000 in
theorem ggX4_run_X4_passIdle : GoodIn wsX4_run wsX4_passIdle := goodIn_r _ [250, 190, 191, 192, 12, 193, 32, 33, 194, 14, 15, 16, 17, 18, 19, 34, 35, 36, 37, 38, 39, 40, 41, 42, 43, 44, 45, 46, 47, 48, 49, 50, 195, 196, 197, 54, 198, 56, 199, 163, 164, 165, 89, 68, 87, 90, 166, 167, 168, 94, 169, 96, 97, 214, 215, 216, 217, 155, 156, 218, 219, 220, 2, 221, 222, 223, 224, 225, 226, 227, 228, 8, 229, 251, 252, 253, 254, 255, 256, 257, 258, 259, 263, 264, 265, 266, 267, 268, 269, 270, 271, 272, 273, 274, 275, 276, 277, 278, 279, 280, 260, 261, 262, 281, 282, 283, 284, 285, 286, 287, 288, 289, 290, 291, 292, 293, 294, 295, 296, 297, 298] (by decide +kernel) (by decide +kernel)
set_option maxRecDepth 20000 in
theorem gX4_run_X4_passIdle : GoodIn wsX4_run (wsV RX4 151 RX4 yX4_passIdle wsX4_passIdle) := goodIn_app (goodIn_of _ (by decide +kernel)) ggX4_run_X4_passIdle
theorem dX4_run_0 : decode cX4_run 0 = .ok (.iload_n 1, 1) := by decide +kernel
theorem dX4_run_1 : decode cX4_run 1 = .ok (.iconst 1, 1) := by decide +kernel
theorem dX4_run_2 : decode cX4_run 2 = .ok (.ldc 133, 2) := by decide +kernel
theorem dX4_run_4 : decode cX4_run 4 = .ok (.invokestatic 73, 3) := by decide +kernel
theorem dX4_run_7 : decode cX4_run 7 = .ok (.ifCond .eq 14, 3) := by decide +kernel
theorem dX4_run_10 : decode cX4_run 10 = .ok (.aload_n 0, 1) := by decide +kernel
theorem dX4_run_11 : decode cX4_run 11 = .ok (.getfield 25, 3) := by decide +kernel
theorem dX4_run_14 : decode cX4_run 14 = .ok (.ldc 134, 2) := by decide +kernel
theorem dX4_run_16 : decode cX4_run 16 = .ok (.iload_n 1, 1) := by decide +kernel
theorem dX4_run_17 : decode cX4_run 17 = .ok (.isub, 1) := by decide +kernel
theorem dX4_run_18 : decode cX4_run 18 = .ok (.if_icmp .le 5, 3) := by decide +kernel
theorem dX4_run_21 : decode cX4_run 21 = .ok (.iconst (-1), 1) := by decide +kernel
theorem dX4_run_22 : decode cX4_run 22 = .ok (.ireturn, 1) := by decide +kernel
theorem dX4_run_23 : decode cX4_run 23 = .ok (.aload_n 0, 1) := by decide +kernel
theorem dX4_run_24 : decode cX4_run 24 = .ok (.getfield 22, 3) := by decide +kernel
theorem dX4_run_27 : decode cX4_run 27 = .ok (.invokevirtual 42, 3) := by decide +kernel
theorem dX4_run_30 : decode cX4_run 30 = .ok (.istore_n 2, 1) := by decide +kernel
theorem dX4_run_31 : decode cX4_run 31 = .ok (.aload_n 0, 1) := by decide +kernel
theorem dX4_run_32 : decode cX4_run 32 = .ok (.getfield 25, 3) := by decide +kernel
theorem dX4_run_35 : decode cX4_run 35 = .ok (.iload_n 1, 1) := by decide +kernel
theorem dX4_run_36 : decode cX4_run 36 = .ok (.iadd, 1) := by decide +kernel
theorem dX4_run_37 : decode cX4_run 37 = .ok (.istore_n 3, 1) := by decide +kernel
theorem dX4_run_38 : decode cX4_run 38 = .ok (.iconst 0, 1) := by decide +kernel
theorem dX4_run_39 : decode cX4_run 39 = .ok (.istore 4, 2) := by decide +kernel
theorem dX4_run_41 : decode cX4_run 41 = .ok (.iload 4, 2) := by decide +kernel
theorem dX4_run_43 : decode cX4_run 43 = .ok (.iload_n 1, 1) := by decide +kernel
theorem dX4_run_44 : decode cX4_run 44 = .ok (.if_icmp .ge 80, 3) := by decide +kernel
theorem dX4_run_47 : decode cX4_run 47 = .ok (.aload_n 0, 1) := by decide +kernel
theorem dX4_run_48 : decode cX4_run 48 = .ok (.getfield 25, 3) := by decide +kernel
theorem dX4_run_51 : decode cX4_run 51 = .ok (.iload_n 3, 1) := by decide +kernel
theorem dX4_run_52 : decode cX4_run 52 = .ok (.if_icmp .ge 72, 3) := by decide +kernel
theorem dX4_run_55 : decode cX4_run 55 = .ok (.aload_n 0, 1) := by decide +kernel
theorem dX4_run_56 : decode cX4_run 56 = .ok (.getfield 25, 3) := by decide +kernel
theorem dX4_run_59 : decode cX4_run 59 = .ok (.aload_n 0, 1) := by decide +kernel
theorem dX4_run_60 : decode cX4_run 60 = .ok (.getfield 29, 3) := by decide +kernel
theorem dX4_run_63 : decode cX4_run 63 = .ok (.if_icmp .lt 7, 3) := by decide +kernel
theorem dX4_run_66 : decode cX4_run 66 = .ok (.aload_n 0, 1) := by decide +kernel
theorem dX4_run_67 : decode cX4_run 67 = .ok (.invokevirtual 135, 3) := by decide +kernel
theorem dX4_run_70 : decode cX4_run 70 = .ok (.aload_n 0, 1) := by decide +kernel
theorem dX4_run_71 : decode cX4_run 71 = .ok (.getfield 25, 3) := by decide +kernel
theorem dX4_run_74 : decode cX4_run 74 = .ok (.aload_n 0, 1) := by decide +kernel
theorem dX4_run_75 : decode cX4_run 75 = .ok (.getfield 29, 3) := by decide +kernel
theorem dX4_run_78 : decode cX4_run 78 = .ok (.if_icmp .ge 23, 3) := by decide +kernel
theorem dX4_run_81 : decode cX4_run 81 = .ok (.aload_n 0, 1) := by decide +kernel
theorem dX4_run_82 : decode cX4_run 82 = .ok (.aload_n 0, 1) := by decide +kernel
theorem dX4_run_83 : decode cX4_run 83 = .ok (.getfield 29, 3) := by decide +kernel
theorem dX4_run_86 : decode cX4_run 86 = .ok (.iload_n 3, 1) := by decide +kernel
theorem dX4_run_87 : decode cX4_run 87 = .ok (.invokestatic 138, 3) := by decide +kernel
theorem dX4_run_90 : decode cX4_run 90 = .ok (.aload_n 0, 1) := by decide +kernel
theorem dX4_run_91 : decode cX4_run 91 = .ok (.getfield 25, 3) := by decide +kernel
theorem dX4_run_94 : decode cX4_run 94 = .ok (.isub, 1) := by decide +kernel
theorem dX4_run_95 : decode cX4_run 95 = .ok (.invokevirtual 144, 3) := by decide +kernel
theorem dX4_run_98 : decode cX4_run 98 = .ok (.goto 20, 3) := by decide +kernel
theorem dX4_run_101 : decode cX4_run 101 = .ok (.aload_n 0, 1) := by decide +kernel
theorem dX4_run_102 : decode cX4_run 102 = .ok (.aload_n 0, 1) := by decide +kernel
theorem dX4_run_103 : decode cX4_run 103 = .ok (.invokevirtual 148, 3) := by decide +kernel
theorem dX4_run_106 : decode cX4_run 106 = .ok (.iload_n 3, 1) := by decide +kernel
theorem dX4_run_107 : decode cX4_run 107 = .ok (.aload_n 0, 1) := by decide +kernel
theorem dX4_run_108 : decode cX4_run 108 = .ok (.getfield 25, 3) := by decide +kernel
theorem dX4_run_111 : decode cX4_run 111 = .ok (.isub, 1) := by decide +kernel
theorem dX4_run_112 : decode cX4_run 112 = .ok (.invokestatic 138, 3) := by decide +kernel
theorem dX4_run_115 : decode cX4_run 115 = .ok (.invokevirtual 151, 3) := by decide +kernel
theorem dX4_run_118 : decode cX4_run 118 = .ok (.iinc 4 1, 3) := by decide +kernel
theorem dX4_run_121 : decode cX4_run 121 = .ok (.goto (-80), 3) := by decide +kernel
theorem dX4_run_124 : decode cX4_run 124 = .ok (.aload_n 0, 1) := by decide +kernel
theorem dX4_run_125 : decode cX4_run 125 = .ok (.getfield 22, 3) := by decide +kernel
theorem dX4_run_128 : decode cX4_run 128 = .ok (.invokevirtual 42, 3) := by decide +kernel
theorem dX4_run_131 : decode cX4_run 131 = .ok (.iload_n 2, 1) := by decide +kernel
theorem dX4_run_132 : decode cX4_run 132 = .ok (.isub, 1) := by decide +kernel
theorem dX4_run_133 : decode cX4_run 133 = .ok (.ireturn, 1) := by decide +kernel
theorem dX4_now_0 : decode cX4_now 0 = .ok (.aload_n 0, 1) := by decide +kernel
theorem dX4_now_1 : decode cX4_now 1 = .ok (.getfield 25, 3) := by decide +kernel
theorem dX4_now_4 : decode cX4_now 4 = .ok (.ireturn, 1) := by decide +kernel
set_option maxRecDepth 20000 in
theorem ggX4_packet_Jx4a65c_size_8abf5 : GoodIn wsX4_packet wsJx4a65c_size_8abf5 := goodIn_r _ [7, 8, 47, 48, 49] (by decide +kernel) (by decide +kernel)
set_option maxRecDepth 20000 in
theorem gX4_packet_Jx4a65c_size_8abf5 : GoodIn wsX4_packet (wsV RX4 42 RJx4a65c yJx4a65c_size_8abf5 wsJx4a65c_size_8abf5) := goodIn_app (goodIn_of _ (by decide +kernel)) ggX4_packet_Jx4a65c_size_8abf5
set_option maxRecDepth 20000 in
theorem ggX4_packet_Jx4a65c_get_915e3 : GoodIn wsX4_packet wsJx4a65c_get_915e3 := goodIn_r _ [12, 8, 13, 14, 15, 16, 17, 18, 19, 20, 21, 22, 23, 6, 24, 25, 47, 48, 49] (by decide +kernel) (by decide +kernel)
set_option maxRecDepth 20000 in
theorem gX4_packet_Jx4a65c_get_915e3 : GoodIn wsX4_packet (wsV RX4 154 RJx4a65c yJx4a65c_get_915e3 wsJx4a65c_get_915e3) := goodIn_app (goodIn_of _ (by decide +kernel)) ggX4_packet_Jx4a65c_get_915e3
set_option maxRecDepth 20000 in
theorem ggX4_packet_X3_figure : GoodIn wsX4_packet wsX3_figure := goodIn_r _ [30, 31, 32, 33, 34, 35, 36, 37, 50, 51, 52, 53, 54, 55, 56, 57, 58] (by decide +kernel) (by decide +kernel)
set_option maxRecDepth 20000 in
theorem gX4_packet_X3_figure : GoodIn wsX4_packet (wsV RX4 158 RX3 yX3_figure wsX3_figure) := goodIn_app (goodIn_of _ (by decide +kernel)) ggX4_packet_X3_figure
theorem dX4_packet_0 : decode cX4_packet 0 = .ok (.iload_n 1, 1) := by decide +kernel
theorem dX4_packet_1 : decode cX4_packet 1 = .ok (.ifCond .lt 14, 3) := by decide +kernel
theorem dX4_packet_4 : decode cX4_packet 4 = .ok (.iload_n 1, 1) := by decide +kernel
theorem dX4_packet_5 : decode cX4_packet 5 = .ok (.aload_n 0, 1) := by decide +kernel
theorem dX4_packet_6 : decode cX4_packet 6 = .ok (.getfield 19, 3) := by decide +kernel
theorem dX4_packet_9 : decode cX4_packet 9 = .ok (.invokevirtual 42, 3) := by decide +kernel
theorem dX4_packet_12 : decode cX4_packet 12 = .ok (.if_icmp .lt 5, 3) := by decide +kernel
theorem dX4_packet_15 : decode cX4_packet 15 = .ok (.iconst (-1), 1) := by decide +kernel
theorem dX4_packet_16 : decode cX4_packet 16 = .ok (.ireturn, 1) := by decide +kernel
theorem dX4_packet_17 : decode cX4_packet 17 = .ok (.aload_n 0, 1) := by decide +kernel
theorem dX4_packet_18 : decode cX4_packet 18 = .ok (.getfield 19, 3) := by decide +kernel
theorem dX4_packet_21 : decode cX4_packet 21 = .ok (.iload_n 1, 1) := by decide +kernel
theorem dX4_packet_22 : decode cX4_packet 22 = .ok (.invokevirtual 154, 3) := by decide +kernel
theorem dX4_packet_25 : decode cX4_packet 25 = .ok (.checkcast 117, 3) := by decide +kernel
theorem dX4_packet_28 : decode cX4_packet 28 = .ok (.iload_n 2, 1) := by decide +kernel
theorem dX4_packet_29 : decode cX4_packet 29 = .ok (.invokevirtual 158, 3) := by decide +kernel
theorem dX4_packet_32 : decode cX4_packet 32 = .ok (.ireturn, 1) := by decide +kernel
set_option maxRecDepth 20000 in
theorem ggX4_sent_Jx4a65c_size_8abf5 : GoodIn wsX4_sent wsJx4a65c_size_8abf5 := goodIn_r _ [8, 9, 45, 46, 47] (by decide +kernel) (by decide +kernel)
set_option maxRecDepth 20000 in
theorem gX4_sent_Jx4a65c_size_8abf5 : GoodIn wsX4_sent (wsV RX4 42 RJx4a65c yJx4a65c_size_8abf5 wsJx4a65c_size_8abf5) := goodIn_app (goodIn_of _ (by decide +kernel)) ggX4_sent_Jx4a65c_size_8abf5
set_option maxRecDepth 20000 in
theorem ggX4_sent_Jx4a65c_get_915e3 : GoodIn wsX4_sent wsJx4a65c_get_915e3 := goodIn_r _ [13, 9, 14, 15, 16, 17, 18, 19, 20, 21, 22, 23, 24, 7, 25, 26, 45, 46, 47] (by decide +kernel) (by decide +kernel)
set_option maxRecDepth 20000 in
theorem gX4_sent_Jx4a65c_get_915e3 : GoodIn wsX4_sent (wsV RX4 154 RJx4a65c yJx4a65c_get_915e3 wsJx4a65c_get_915e3) := goodIn_app (goodIn_of _ (by decide +kernel)) ggX4_sent_Jx4a65c_get_915e3
theorem dX4_sent_0 : decode cX4_sent 0 = .ok (.iload_n 1, 1) := by decide +kernel
theorem dX4_sent_1 : decode cX4_sent 1 = .ok (.ifCond .lt 14, 3) := by decide +kernel
theorem dX4_sent_4 : decode cX4_sent 4 = .ok (.iload_n 1, 1) := by decide +kernel
theorem dX4_sent_5 : decode cX4_sent 5 = .ok (.aload_n 0, 1) := by decide +kernel
theorem dX4_sent_6 : decode cX4_sent 6 = .ok (.getfield 22, 3) := by decide +kernel
theorem dX4_sent_9 : decode cX4_sent 9 = .ok (.invokevirtual 42, 3) := by decide +kernel
theorem dX4_sent_12 : decode cX4_sent 12 = .ok (.if_icmp .lt 5, 3) := by decide +kernel
theorem dX4_sent_15 : decode cX4_sent 15 = .ok (.iconst (-1), 1) := by decide +kernel
theorem dX4_sent_16 : decode cX4_sent 16 = .ok (.ireturn, 1) := by decide +kernel
theorem dX4_sent_17 : decode cX4_sent 17 = .ok (.aload_n 0, 1) := by decide +kernel
theorem dX4_sent_18 : decode cX4_sent 18 = .ok (.getfield 22, 3) := by decide +kernel
theorem dX4_sent_21 : decode cX4_sent 21 = .ok (.iload_n 1, 1) := by decide +kernel
theorem dX4_sent_22 : decode cX4_sent 22 = .ok (.invokevirtual 154, 3) := by decide +kernel
theorem dX4_sent_25 : decode cX4_sent 25 = .ok (.checkcast 117, 3) := by decide +kernel
theorem dX4_sent_28 : decode cX4_sent 28 = .ok (.getfield 130, 3) := by decide +kernel
theorem dX4_sent_31 : decode cX4_sent 31 = .ok (.ireturn, 1) := by decide +kernel
set_option maxRecDepth 20000 in
theorem ggX4_about_X4_leafAt : GoodIn wsX4_about wsX4_leafAt := goodIn_r _ [5, 6, 7, 8, 9, 10, 11, 12, 13, 14, 15, 16, 17, 18, 19, 20, 21, 22, 23, 24, 25, 26, 27, 28, 29, 30, 44, 45, 46, 47, 48, 49, 50, 51, 52, 53, 54, 55] (by decide +kernel) (by decide +kernel)
set_option maxRecDepth 20000 in
theorem gX4_about_X4_leafAt : GoodIn wsX4_about (wsV RX4 90 RX4 yX4_leafAt wsX4_leafAt) := goodIn_app (goodIn_of _ (by decide +kernel)) ggX4_about_X4_leafAt
set_option maxRecDepth 20000 in
theorem ggX4_about_X2_figure : GoodIn wsX4_about wsX2_figure := goodIn_r _ [35, 36, 37, 38, 39, 40, 41, 42, 43, 56, 57, 58, 59, 60, 61, 62, 63, 64, 65, 66, 67, 68, 69, 70, 71, 72, 73] (by decide +kernel) (by decide +kernel)
set_option maxRecDepth 20000 in
theorem gX4_about_X2_figure : GoodIn wsX4_about (wsV RX4 162 RX2 yX2_figure wsX2_figure) := goodIn_app (goodIn_of _ (by decide +kernel)) ggX4_about_X2_figure
theorem dX4_about_0 : decode cX4_about 0 = .ok (.aload_n 0, 1) := by decide +kernel
theorem dX4_about_1 : decode cX4_about 1 = .ok (.iload_n 1, 1) := by decide +kernel
theorem dX4_about_2 : decode cX4_about 2 = .ok (.invokevirtual 90, 3) := by decide +kernel
theorem dX4_about_5 : decode cX4_about 5 = .ok (.astore_n 3, 1) := by decide +kernel
theorem dX4_about_6 : decode cX4_about 6 = .ok (.aload_n 3, 1) := by decide +kernel
theorem dX4_about_7 : decode cX4_about 7 = .ok (.ifnonnull 7, 3) := by decide +kernel
theorem dX4_about_10 : decode cX4_about 10 = .ok (.iconst (-1), 1) := by decide +kernel
theorem dX4_about_11 : decode cX4_about 11 = .ok (.goto 8, 3) := by decide +kernel
theorem dX4_about_14 : decode cX4_about 14 = .ok (.aload_n 3, 1) := by decide +kernel
theorem dX4_about_15 : decode cX4_about 15 = .ok (.iload_n 2, 1) := by decide +kernel
theorem dX4_about_16 : decode cX4_about 16 = .ok (.invokevirtual 162, 3) := by decide +kernel
theorem dX4_about_19 : decode cX4_about 19 = .ok (.ireturn, 1) := by decide +kernel
set_option maxRecDepth 20000 in
theorem ggX4_tokens_X4_leafAt : GoodIn wsX4_tokens wsX4_leafAt := goodIn_r _ [9, 10, 11, 12, 13, 14, 15, 16, 17, 18, 19, 20, 21, 22, 23, 24, 25, 26, 27, 28, 29, 30, 31, 32, 33, 34, 68, 69, 70, 71, 72, 73, 74, 75, 76, 77, 78, 79] (by decide +kernel) (by decide +kernel)
set_option maxRecDepth 20000 in
theorem gX4_tokens_X4_leafAt : GoodIn wsX4_tokens (wsV RX4 90 RX4 yX4_leafAt wsX4_leafAt) := goodIn_app (goodIn_of _ (by decide +kernel)) ggX4_tokens_X4_leafAt
set_option maxRecDepth 20000 in
theorem ggX4_tokens_X4_groupAt : GoodIn wsX4_tokens wsX4_groupAt := goodIn_r _ [38, 39, 40, 12, 13, 14, 15, 16, 17, 18, 19, 20, 21, 22, 23, 24, 25, 26, 27, 28, 29, 30, 31, 32, 33, 34, 68, 69, 70, 71, 72, 73, 74, 75, 76, 77, 78, 79] (by decide +kernel) (by decide +kernel)
set_option maxRecDepth 20000 in
theorem gX4_tokens_X4_groupAt : GoodIn wsX4_tokens (wsV RX4 68 RX4 yX4_groupAt wsX4_groupAt) := goodIn_app (goodIn_of _ (by decide +kernel)) ggX4_tokens_X4_groupAt
theorem dX4_tokens_0 : decode cX4_tokens 0 = .ok (.aload_n 0, 1) := by decide +kernel
theorem dX4_tokens_1 : decode cX4_tokens 1 = .ok (.iload_n 1, 1) := by decide +kernel
theorem dX4_tokens_2 : decode cX4_tokens 2 = .ok (.invokevirtual 90, 3) := by decide +kernel
theorem dX4_tokens_5 : decode cX4_tokens 5 = .ok (.astore_n 3, 1) := by decide +kernel
theorem dX4_tokens_6 : decode cX4_tokens 6 = .ok (.aload_n 0, 1) := by decide +kernel
theorem dX4_tokens_7 : decode cX4_tokens 7 = .ok (.iload_n 1, 1) := by decide +kernel
theorem dX4_tokens_8 : decode cX4_tokens 8 = .ok (.invokevirtual 68, 3) := by decide +kernel
theorem dX4_tokens_11 : decode cX4_tokens 11 = .ok (.astore 4, 2) := by decide +kernel
theorem dX4_tokens_13 : decode cX4_tokens 13 = .ok (.iload_n 2, 1) := by decide +kernel
theorem dX4_tokens_14 : decode cX4_tokens 14 = .ok (.tableswitch 83 0 2 #[26, 42, 60], 26) := by decide +kernel
theorem dX4_tokens_40 : decode cX4_tokens 40 = .ok (.aload_n 3, 1) := by decide +kernel
theorem dX4_tokens_41 : decode cX4_tokens 41 = .ok (.ifnonnull 7, 3) := by decide +kernel
theorem dX4_tokens_44 : decode cX4_tokens 44 = .ok (.lconst 0, 1) := by decide +kernel
theorem dX4_tokens_45 : decode cX4_tokens 45 = .ok (.goto 10, 3) := by decide +kernel
theorem dX4_tokens_48 : decode cX4_tokens 48 = .ok (.aload_n 3, 1) := by decide +kernel
theorem dX4_tokens_49 : decode cX4_tokens 49 = .ok (.getfield 163, 3) := by decide +kernel
theorem dX4_tokens_52 : decode cX4_tokens 52 = .ok (.getfield 166, 3) := by decide +kernel
theorem dX4_tokens_55 : decode cX4_tokens 55 = .ok (.lreturn, 1) := by decide +kernel
theorem dX4_tokens_56 : decode cX4_tokens 56 = .ok (.aload 4, 2) := by decide +kernel
theorem dX4_tokens_58 : decode cX4_tokens 58 = .ok (.ifnonnull 7, 3) := by decide +kernel
theorem dX4_tokens_61 : decode cX4_tokens 61 = .ok (.lconst 0, 1) := by decide +kernel
theorem dX4_tokens_62 : decode cX4_tokens 62 = .ok (.goto 11, 3) := by decide +kernel
theorem dX4_tokens_65 : decode cX4_tokens 65 = .ok (.aload 4, 2) := by decide +kernel
theorem dX4_tokens_67 : decode cX4_tokens 67 = .ok (.getfield 169, 3) := by decide +kernel
theorem dX4_tokens_70 : decode cX4_tokens 70 = .ok (.getfield 166, 3) := by decide +kernel
theorem dX4_tokens_73 : decode cX4_tokens 73 = .ok (.lreturn, 1) := by decide +kernel
theorem dX4_tokens_74 : decode cX4_tokens 74 = .ok (.aload_n 3, 1) := by decide +kernel
theorem dX4_tokens_75 : decode cX4_tokens 75 = .ok (.ifnull 10, 3) := by decide +kernel
theorem dX4_tokens_78 : decode cX4_tokens 78 = .ok (.aload_n 3, 1) := by decide +kernel
theorem dX4_tokens_79 : decode cX4_tokens 79 = .ok (.getfield 94, 3) := by decide +kernel
theorem dX4_tokens_82 : decode cX4_tokens 82 = .ok (.ifnonnull 7, 3) := by decide +kernel
theorem dX4_tokens_85 : decode cX4_tokens 85 = .ok (.lconst 0, 1) := by decide +kernel
theorem dX4_tokens_86 : decode cX4_tokens 86 = .ok (.goto 10, 3) := by decide +kernel
theorem dX4_tokens_89 : decode cX4_tokens 89 = .ok (.aload_n 3, 1) := by decide +kernel
theorem dX4_tokens_90 : decode cX4_tokens 90 = .ok (.getfield 94, 3) := by decide +kernel
theorem dX4_tokens_93 : decode cX4_tokens 93 = .ok (.getfield 166, 3) := by decide +kernel
theorem dX4_tokens_96 : decode cX4_tokens 96 = .ok (.lreturn, 1) := by decide +kernel
theorem dX4_tokens_97 : decode cX4_tokens 97 = .ok (.lconst 0, 1) := by decide +kernel
theorem dX4_tokens_98 : decode cX4_tokens 98 = .ok (.lreturn, 1) := by decide +kernel
set_option maxRecDepth 20000 in
theorem ggX4_tag_X4_leafAt : GoodIn wsX4_tag wsX4_leafAt := goodIn_r _ [9, 10, 11, 12, 13, 14, 15, 16, 17, 18, 19, 20, 21, 22, 23, 24, 25, 26, 27, 28, 29, 30, 31, 32, 33, 34, 65, 66, 67, 68, 69, 70, 71, 72, 73, 74, 75, 76] (by decide +kernel) (by decide +kernel)
set_option maxRecDepth 20000 in
theorem gX4_tag_X4_leafAt : GoodIn wsX4_tag (wsV RX4 90 RX4 yX4_leafAt wsX4_leafAt) := goodIn_app (goodIn_of _ (by decide +kernel)) ggX4_tag_X4_leafAt
set_option maxRecDepth 20000 in
theorem ggX4_tag_X4_groupAt : GoodIn wsX4_tag wsX4_groupAt := goodIn_r _ [38, 39, 40, 12, 13, 14, 15, 16, 17, 18, 19, 20, 21, 22, 23, 24, 25, 26, 27, 28, 29, 30, 31, 32, 33, 34, 65, 66, 67, 68, 69, 70, 71, 72, 73, 74, 75, 76] (by decide +kernel) (by decide +kernel)
set_option maxRecDepth 20000 in
theorem gX4_tag_X4_groupAt : GoodIn wsX4_tag (wsV RX4 68 RX4 yX4_groupAt wsX4_groupAt) := goodIn_app (goodIn_of _ (by decide +kernel)) ggX4_tag_X4_groupAt
theorem dX4_tag_0 : decode cX4_tag 0 = .ok (.aload_n 0, 1) := by decide +kernel
theorem dX4_tag_1 : decode cX4_tag 1 = .ok (.iload_n 1, 1) := by decide +kernel
theorem dX4_tag_2 : decode cX4_tag 2 = .ok (.invokevirtual 90, 3) := by decide +kernel
theorem dX4_tag_5 : decode cX4_tag 5 = .ok (.astore_n 3, 1) := by decide +kernel
theorem dX4_tag_6 : decode cX4_tag 6 = .ok (.aload_n 0, 1) := by decide +kernel
theorem dX4_tag_7 : decode cX4_tag 7 = .ok (.iload_n 1, 1) := by decide +kernel
theorem dX4_tag_8 : decode cX4_tag 8 = .ok (.invokevirtual 68, 3) := by decide +kernel
theorem dX4_tag_11 : decode cX4_tag 11 = .ok (.astore 4, 2) := by decide +kernel
theorem dX4_tag_13 : decode cX4_tag 13 = .ok (.iload_n 2, 1) := by decide +kernel
theorem dX4_tag_14 : decode cX4_tag 14 = .ok (.tableswitch 78 0 3 #[30, 43, 58, 73], 30) := by decide +kernel
theorem dX4_tag_44 : decode cX4_tag 44 = .ok (.aload_n 3, 1) := by decide +kernel
theorem dX4_tag_45 : decode cX4_tag 45 = .ok (.ifnonnull 7, 3) := by decide +kernel
theorem dX4_tag_48 : decode cX4_tag 48 = .ok (.lconst 0, 1) := by decide +kernel
theorem dX4_tag_49 : decode cX4_tag 49 = .ok (.goto 7, 3) := by decide +kernel
theorem dX4_tag_52 : decode cX4_tag 52 = .ok (.aload_n 3, 1) := by decide +kernel
theorem dX4_tag_53 : decode cX4_tag 53 = .ok (.getfield 170, 3) := by decide +kernel
theorem dX4_tag_56 : decode cX4_tag 56 = .ok (.lreturn, 1) := by decide +kernel
theorem dX4_tag_57 : decode cX4_tag 57 = .ok (.aload 4, 2) := by decide +kernel
theorem dX4_tag_59 : decode cX4_tag 59 = .ok (.ifnonnull 7, 3) := by decide +kernel
theorem dX4_tag_62 : decode cX4_tag 62 = .ok (.lconst 0, 1) := by decide +kernel
theorem dX4_tag_63 : decode cX4_tag 63 = .ok (.goto 8, 3) := by decide +kernel
theorem dX4_tag_66 : decode cX4_tag 66 = .ok (.aload 4, 2) := by decide +kernel
theorem dX4_tag_68 : decode cX4_tag 68 = .ok (.getfield 173, 3) := by decide +kernel
theorem dX4_tag_71 : decode cX4_tag 71 = .ok (.lreturn, 1) := by decide +kernel
theorem dX4_tag_72 : decode cX4_tag 72 = .ok (.aload 4, 2) := by decide +kernel
theorem dX4_tag_74 : decode cX4_tag 74 = .ok (.ifnonnull 7, 3) := by decide +kernel
theorem dX4_tag_77 : decode cX4_tag 77 = .ok (.lconst 0, 1) := by decide +kernel
theorem dX4_tag_78 : decode cX4_tag 78 = .ok (.goto 8, 3) := by decide +kernel
theorem dX4_tag_81 : decode cX4_tag 81 = .ok (.aload 4, 2) := by decide +kernel
theorem dX4_tag_83 : decode cX4_tag 83 = .ok (.getfield 174, 3) := by decide +kernel
theorem dX4_tag_86 : decode cX4_tag 86 = .ok (.lreturn, 1) := by decide +kernel
theorem dX4_tag_87 : decode cX4_tag 87 = .ok (.aload_n 0, 1) := by decide +kernel
theorem dX4_tag_88 : decode cX4_tag 88 = .ok (.getfield 38, 3) := by decide +kernel
theorem dX4_tag_91 : decode cX4_tag 91 = .ok (.lreturn, 1) := by decide +kernel
theorem dX4_tag_92 : decode cX4_tag 92 = .ok (.lconst 0, 1) := by decide +kernel
theorem dX4_tag_93 : decode cX4_tag 93 = .ok (.lreturn, 1) := by decide +kernel
set_option maxRecDepth 20000 in
theorem ggX4_count_Jx4a65c_size_8abf5 : GoodIn wsX4_count wsJx4a65c_size_8abf5 := goodIn_r _ [12, 13, 47, 48, 49] (by decide +kernel) (by decide +kernel)
set_option maxRecDepth 20000 in
theorem gX4_count_Jx4a65c_size_8abf5 : GoodIn wsX4_count (wsV RX4 42 RJx4a65c yJx4a65c_size_8abf5 wsJx4a65c_size_8abf5) := goodIn_app (goodIn_of _ (by decide +kernel)) ggX4_count_Jx4a65c_size_8abf5
set_option maxRecDepth 20000 in
theorem ggX4_count_X4_sent : GoodIn wsX4_count wsX4_sent := goodIn_r _ [18, 4, 19, 20, 8, 9, 10, 11, 12, 13, 21, 22, 23, 24, 25, 26, 27, 28, 29, 30, 31, 32, 33, 34, 35, 36, 37, 38, 39, 40, 41, 42, 43, 44, 45, 46, 50, 51, 52, 53, 54, 55, 56, 57, 58, 47, 48, 49] (by decide +kernel) (by decide +kernel)
set_option maxRecDepth 20000 in
theorem gX4_count_X4_sent : GoodIn wsX4_count (wsV RX4 175 RX4 yX4_sent wsX4_sent) := goodIn_app (goodIn_of _ (by decide +kernel)) ggX4_count_X4_sent
theorem dX4_count_0 : decode cX4_count 0 = .ok (.iload_n 1, 1) := by decide +kernel
theorem dX4_count_1 : decode cX4_count 1 = .ok (.tableswitch 105 0 5 #[39, 47, 55, 63, 71, 76], 39) := by decide +kernel
theorem dX4_count_40 : decode cX4_count 40 = .ok (.aload_n 0, 1) := by decide +kernel
theorem dX4_count_41 : decode cX4_count 41 = .ok (.getfield 10, 3) := by decide +kernel
theorem dX4_count_44 : decode cX4_count 44 = .ok (.invokevirtual 42, 3) := by decide +kernel
theorem dX4_count_47 : decode cX4_count 47 = .ok (.ireturn, 1) := by decide +kernel
theorem dX4_count_48 : decode cX4_count 48 = .ok (.aload_n 0, 1) := by decide +kernel
theorem dX4_count_49 : decode cX4_count 49 = .ok (.getfield 16, 3) := by decide +kernel
theorem dX4_count_52 : decode cX4_count 52 = .ok (.invokevirtual 42, 3) := by decide +kernel
theorem dX4_count_55 : decode cX4_count 55 = .ok (.ireturn, 1) := by decide +kernel
theorem dX4_count_56 : decode cX4_count 56 = .ok (.aload_n 0, 1) := by decide +kernel
theorem dX4_count_57 : decode cX4_count 57 = .ok (.getfield 19, 3) := by decide +kernel
theorem dX4_count_60 : decode cX4_count 60 = .ok (.invokevirtual 42, 3) := by decide +kernel
theorem dX4_count_63 : decode cX4_count 63 = .ok (.ireturn, 1) := by decide +kernel
theorem dX4_count_64 : decode cX4_count 64 = .ok (.aload_n 0, 1) := by decide +kernel
theorem dX4_count_65 : decode cX4_count 65 = .ok (.getfield 22, 3) := by decide +kernel
theorem dX4_count_68 : decode cX4_count 68 = .ok (.invokevirtual 42, 3) := by decide +kernel
theorem dX4_count_71 : decode cX4_count 71 = .ok (.ireturn, 1) := by decide +kernel
theorem dX4_count_72 : decode cX4_count 72 = .ok (.aload_n 0, 1) := by decide +kernel
theorem dX4_count_73 : decode cX4_count 73 = .ok (.getfield 32, 3) := by decide +kernel
theorem dX4_count_76 : decode cX4_count 76 = .ok (.ireturn, 1) := by decide +kernel
theorem dX4_count_77 : decode cX4_count 77 = .ok (.aload_n 0, 1) := by decide +kernel
theorem dX4_count_78 : decode cX4_count 78 = .ok (.getfield 25, 3) := by decide +kernel
theorem dX4_count_81 : decode cX4_count 81 = .ok (.aload_n 0, 1) := by decide +kernel
theorem dX4_count_82 : decode cX4_count 82 = .ok (.getfield 29, 3) := by decide +kernel
theorem dX4_count_85 : decode cX4_count 85 = .ok (.if_icmp .ge 19, 3) := by decide +kernel
theorem dX4_count_88 : decode cX4_count 88 = .ok (.aload_n 0, 1) := by decide +kernel
theorem dX4_count_89 : decode cX4_count 89 = .ok (.aload_n 0, 1) := by decide +kernel
theorem dX4_count_90 : decode cX4_count 90 = .ok (.getfield 22, 3) := by decide +kernel
theorem dX4_count_93 : decode cX4_count 93 = .ok (.invokevirtual 42, 3) := by decide +kernel
theorem dX4_count_96 : decode cX4_count 96 = .ok (.iconst 1, 1) := by decide +kernel
theorem dX4_count_97 : decode cX4_count 97 = .ok (.isub, 1) := by decide +kernel
theorem dX4_count_98 : decode cX4_count 98 = .ok (.invokevirtual 175, 3) := by decide +kernel
theorem dX4_count_101 : decode cX4_count 101 = .ok (.goto 4, 3) := by decide +kernel
theorem dX4_count_104 : decode cX4_count 104 = .ok (.iconst (-1), 1) := by decide +kernel
theorem dX4_count_105 : decode cX4_count 105 = .ok (.ireturn, 1) := by decide +kernel
theorem dX4_count_106 : decode cX4_count 106 = .ok (.iconst (-1), 1) := by decide +kernel
theorem dX4_count_107 : decode cX4_count 107 = .ok (.ireturn, 1) := by decide +kernel
theorem dX4_isWithin_0 : decode cX4_isWithin 0 = .ok (.iload_n 0, 1) := by decide +kernel
theorem dX4_isWithin_1 : decode cX4_isWithin 1 = .ok (.iload_n 1, 1) := by decide +kernel
theorem dX4_isWithin_2 : decode cX4_isWithin 2 = .ok (.if_icmp .lt 12, 3) := by decide +kernel
theorem dX4_isWithin_5 : decode cX4_isWithin 5 = .ok (.iload_n 0, 1) := by decide +kernel
theorem dX4_isWithin_6 : decode cX4_isWithin 6 = .ok (.iload_n 2, 1) := by decide +kernel
theorem dX4_isWithin_7 : decode cX4_isWithin 7 = .ok (.if_icmp .gt 7, 3) := by decide +kernel
theorem dX4_isWithin_10 : decode cX4_isWithin 10 = .ok (.iconst 1, 1) := by decide +kernel
theorem dX4_isWithin_11 : decode cX4_isWithin 11 = .ok (.goto 4, 3) := by decide +kernel
theorem dX4_isWithin_14 : decode cX4_isWithin 14 = .ok (.iconst 0, 1) := by decide +kernel
theorem dX4_isWithin_15 : decode cX4_isWithin 15 = .ok (.ireturn, 1) := by decide +kernel
set_option maxRecDepth 20000 in
theorem ggX4_isWeight_X4_isWithin : GoodIn wsX4_isWeight wsX4_isWithin := goodIn_r _ [4] (by decide +kernel) (by decide +kernel)
set_option maxRecDepth 20000 in
theorem gX4_isWeight_X4_isWithin : GoodIn wsX4_isWeight (va_wsS RX4 73 yX4_isWithin wsX4_isWithin) := goodIn_app (goodIn_of _ (by decide +kernel)) ggX4_isWeight_X4_isWithin
theorem dX4_isWeight_0 : decode cX4_isWeight 0 = .ok (.iload_n 0, 1) := by decide +kernel
theorem dX4_isWeight_1 : decode cX4_isWeight 1 = .ok (.iconst 1, 1) := by decide +kernel
theorem dX4_isWeight_2 : decode cX4_isWeight 2 = .ok (.bipush 12, 2) := by decide +kernel
theorem dX4_isWeight_4 : decode cX4_isWeight 4 = .ok (.invokestatic 73, 3) := by decide +kernel
theorem dX4_isWeight_7 : decode cX4_isWeight 7 = .ok (.ireturn, 1) := by decide +kernel
set_option maxRecDepth 20000 in
theorem ggX4_isCeiling_X4_isWithin : GoodIn wsX4_isCeiling wsX4_isWithin := goodIn_r _ [4] (by decide +kernel) (by decide +kernel)
set_option maxRecDepth 20000 in
theorem gX4_isCeiling_X4_isWithin : GoodIn wsX4_isCeiling (va_wsS RX4 73 yX4_isWithin wsX4_isWithin) := goodIn_app (goodIn_of _ (by decide +kernel)) ggX4_isCeiling_X4_isWithin
theorem dX4_isCeiling_0 : decode cX4_isCeiling 0 = .ok (.iload_n 0, 1) := by decide +kernel
theorem dX4_isCeiling_1 : decode cX4_isCeiling 1 = .ok (.iconst 0, 1) := by decide +kernel
theorem dX4_isCeiling_2 : decode cX4_isCeiling 2 = .ok (.sipush 1000, 3) := by decide +kernel
theorem dX4_isCeiling_5 : decode cX4_isCeiling 5 = .ok (.invokestatic 73, 3) := by decide +kernel
theorem dX4_isCeiling_8 : decode cX4_isCeiling 8 = .ok (.ifCond .eq 20, 3) := by decide +kernel
theorem dX4_isCeiling_11 : decode cX4_isCeiling 11 = .ok (.iload_n 1, 1) := by decide +kernel
theorem dX4_isCeiling_12 : decode cX4_isCeiling 12 = .ok (.sipush 1500, 3) := by decide +kernel
theorem dX4_isCeiling_15 : decode cX4_isCeiling 15 = .ok (.sipush 20000, 3) := by decide +kernel
theorem dX4_isCeiling_18 : decode cX4_isCeiling 18 = .ok (.invokestatic 73, 3) := by decide +kernel
theorem dX4_isCeiling_21 : decode cX4_isCeiling 21 = .ok (.ifCond .eq 7, 3) := by decide +kernel
theorem dX4_isCeiling_24 : decode cX4_isCeiling 24 = .ok (.iconst 1, 1) := by decide +kernel
theorem dX4_isCeiling_25 : decode cX4_isCeiling 25 = .ok (.goto 4, 3) := by decide +kernel
theorem dX4_isCeiling_28 : decode cX4_isCeiling 28 = .ok (.iconst 0, 1) := by decide +kernel
theorem dX4_isCeiling_29 : decode cX4_isCeiling 29 = .ok (.ireturn, 1) := by decide +kernel
set_option maxRecDepth 20000 in
theorem ggX4_isGuarantee_X4_isWithin : GoodIn wsX4_isGuarantee wsX4_isWithin := goodIn_r _ [4] (by decide +kernel) (by decide +kernel)
set_option maxRecDepth 20000 in
theorem gX4_isGuarantee_X4_isWithin : GoodIn wsX4_isGuarantee (va_wsS RX4 73 yX4_isWithin wsX4_isWithin) := goodIn_app (goodIn_of _ (by decide +kernel)) ggX4_isGuarantee_X4_isWithin
theorem dX4_isGuarantee_0 : decode cX4_isGuarantee 0 = .ok (.iload_n 0, 1) := by decide +kernel
theorem dX4_isGuarantee_1 : decode cX4_isGuarantee 1 = .ok (.ifCond .eq 15, 3) := by decide +kernel
theorem dX4_isGuarantee_4 : decode cX4_isGuarantee 4 = .ok (.iload_n 0, 1) := by decide +kernel
theorem dX4_isGuarantee_5 : decode cX4_isGuarantee 5 = .ok (.bipush 10, 2) := by decide +kernel
theorem dX4_isGuarantee_7 : decode cX4_isGuarantee 7 = .ok (.sipush 1000, 3) := by decide +kernel
theorem dX4_isGuarantee_10 : decode cX4_isGuarantee 10 = .ok (.invokestatic 73, 3) := by decide +kernel
theorem dX4_isGuarantee_13 : decode cX4_isGuarantee 13 = .ok (.ifCond .eq 7, 3) := by decide +kernel
theorem dX4_isGuarantee_16 : decode cX4_isGuarantee 16 = .ok (.iconst 1, 1) := by decide +kernel
theorem dX4_isGuarantee_17 : decode cX4_isGuarantee 17 = .ok (.goto 4, 3) := by decide +kernel
theorem dX4_isGuarantee_20 : decode cX4_isGuarantee 20 = .ok (.iconst 0, 1) := by decide +kernel
theorem dX4_isGuarantee_21 : decode cX4_isGuarantee 21 = .ok (.ireturn, 1) := by decide +kernel
theorem dX4_hasRoomFor_0 : decode cX4_hasRoomFor 0 = .ok (.iload_n 1, 1) := by decide +kernel
theorem dX4_hasRoomFor_1 : decode cX4_hasRoomFor 1 = .ok (.sipush 1000, 3) := by decide +kernel
theorem dX4_hasRoomFor_4 : decode cX4_hasRoomFor 4 = .ok (.aload_n 0, 1) := by decide +kernel
theorem dX4_hasRoomFor_5 : decode cX4_hasRoomFor 5 = .ok (.getfield 35, 3) := by decide +kernel
theorem dX4_hasRoomFor_8 : decode cX4_hasRoomFor 8 = .ok (.isub, 1) := by decide +kernel
theorem dX4_hasRoomFor_9 : decode cX4_hasRoomFor 9 = .ok (.if_icmp .gt 23, 3) := by decide +kernel
theorem dX4_hasRoomFor_12 : decode cX4_hasRoomFor 12 = .ok (.iload_n 1, 1) := by decide +kernel
theorem dX4_hasRoomFor_13 : decode cX4_hasRoomFor 13 = .ok (.aload_n 2, 1) := by decide +kernel
theorem dX4_hasRoomFor_14 : decode cX4_hasRoomFor 14 = .ok (.getfield 169, 3) := by decide +kernel
theorem dX4_hasRoomFor_17 : decode cX4_hasRoomFor 17 = .ok (.getfield 178, 3) := by decide +kernel
theorem dX4_hasRoomFor_20 : decode cX4_hasRoomFor 20 = .ok (.aload_n 2, 1) := by decide +kernel
theorem dX4_hasRoomFor_21 : decode cX4_hasRoomFor 21 = .ok (.getfield 89, 3) := by decide +kernel
theorem dX4_hasRoomFor_24 : decode cX4_hasRoomFor 24 = .ok (.isub, 1) := by decide +kernel
theorem dX4_hasRoomFor_25 : decode cX4_hasRoomFor 25 = .ok (.if_icmp .gt 7, 3) := by decide +kernel
theorem dX4_hasRoomFor_28 : decode cX4_hasRoomFor 28 = .ok (.iconst 1, 1) := by decide +kernel
theorem dX4_hasRoomFor_29 : decode cX4_hasRoomFor 29 = .ok (.goto 4, 3) := by decide +kernel
theorem dX4_hasRoomFor_32 : decode cX4_hasRoomFor 32 = .ok (.iconst 0, 1) := by decide +kernel
theorem dX4_hasRoomFor_33 : decode cX4_hasRoomFor 33 = .ok (.ireturn, 1) := by decide +kernel
set_option maxRecDepth 20000 in
theorem ggX4_groupAt_Jx4a65c_size_8abf5 : GoodIn wsX4_groupAt wsJx4a65c_size_8abf5 := goodIn_r _ [7, 8, 35, 36, 37] (by decide +kernel) (by decide +kernel)
set_option maxRecDepth 20000 in
theorem gX4_groupAt_Jx4a65c_size_8abf5 : GoodIn wsX4_groupAt (wsV RX4 42 RJx4a65c yJx4a65c_size_8abf5 wsJx4a65c_size_8abf5) := goodIn_app (goodIn_of _ (by decide +kernel)) ggX4_groupAt_Jx4a65c_size_8abf5
set_option maxRecDepth 20000 in
theorem ggX4_groupAt_Jx4a65c_get_915e3 : GoodIn wsX4_groupAt wsJx4a65c_get_915e3 := goodIn_r _ [12, 8, 13, 14, 15, 16, 17, 18, 19, 20, 21, 22, 23, 6, 24, 25, 35, 36, 37] (by decide +kernel) (by decide +kernel)
set_option maxRecDepth 20000 in
theorem gX4_groupAt_Jx4a65c_get_915e3 : GoodIn wsX4_groupAt (wsV RX4 154 RJx4a65c yJx4a65c_get_915e3 wsJx4a65c_get_915e3) := goodIn_app (goodIn_of _ (by decide +kernel)) ggX4_groupAt_Jx4a65c_get_915e3
theorem dX4_groupAt_0 : decode cX4_groupAt 0 = .ok (.iload_n 1, 1) := by decide +kernel
theorem dX4_groupAt_1 : decode cX4_groupAt 1 = .ok (.ifCond .lt 14, 3) := by decide +kernel
theorem dX4_groupAt_4 : decode cX4_groupAt 4 = .ok (.iload_n 1, 1) := by decide +kernel
theorem dX4_groupAt_5 : decode cX4_groupAt 5 = .ok (.aload_n 0, 1) := by decide +kernel
theorem dX4_groupAt_6 : decode cX4_groupAt 6 = .ok (.getfield 10, 3) := by decide +kernel
theorem dX4_groupAt_9 : decode cX4_groupAt 9 = .ok (.invokevirtual 42, 3) := by decide +kernel
theorem dX4_groupAt_12 : decode cX4_groupAt 12 = .ok (.if_icmp .lt 7, 3) := by decide +kernel
theorem dX4_groupAt_15 : decode cX4_groupAt 15 = .ok (.aconst_null, 1) := by decide +kernel
theorem dX4_groupAt_16 : decode cX4_groupAt 16 = .ok (.goto 14, 3) := by decide +kernel
theorem dX4_groupAt_19 : decode cX4_groupAt 19 = .ok (.aload_n 0, 1) := by decide +kernel
theorem dX4_groupAt_20 : decode cX4_groupAt 20 = .ok (.getfield 10, 3) := by decide +kernel
theorem dX4_groupAt_23 : decode cX4_groupAt 23 = .ok (.iload_n 1, 1) := by decide +kernel
theorem dX4_groupAt_24 : decode cX4_groupAt 24 = .ok (.invokevirtual 154, 3) := by decide +kernel
theorem dX4_groupAt_27 : decode cX4_groupAt 27 = .ok (.checkcast 54, 3) := by decide +kernel
theorem dX4_groupAt_30 : decode cX4_groupAt 30 = .ok (.areturn, 1) := by decide +kernel
set_option maxRecDepth 20000 in
theorem ggX4_leafAt_Jx4a65c_size_8abf5 : GoodIn wsX4_leafAt wsJx4a65c_size_8abf5 := goodIn_r _ [7, 8, 35, 36, 37] (by decide +kernel) (by decide +kernel)
set_option maxRecDepth 20000 in
theorem gX4_leafAt_Jx4a65c_size_8abf5 : GoodIn wsX4_leafAt (wsV RX4 42 RJx4a65c yJx4a65c_size_8abf5 wsJx4a65c_size_8abf5) := goodIn_app (goodIn_of _ (by decide +kernel)) ggX4_leafAt_Jx4a65c_size_8abf5
set_option maxRecDepth 20000 in
theorem ggX4_leafAt_Jx4a65c_get_915e3 : GoodIn wsX4_leafAt wsJx4a65c_get_915e3 := goodIn_r _ [12, 8, 13, 14, 15, 16, 17, 18, 19, 20, 21, 22, 23, 6, 24, 25, 35, 36, 37] (by decide +kernel) (by decide +kernel)
set_option maxRecDepth 20000 in
theorem gX4_leafAt_Jx4a65c_get_915e3 : GoodIn wsX4_leafAt (wsV RX4 154 RJx4a65c yJx4a65c_get_915e3 wsJx4a65c_get_915e3) := goodIn_app (goodIn_of _ (by decide +kernel)) ggX4_leafAt_Jx4a65c_get_915e3
theorem dX4_leafAt_0 : decode cX4_leafAt 0 = .ok (.iload_n 1, 1) := by decide +kernel
theorem dX4_leafAt_1 : decode cX4_leafAt 1 = .ok (.ifCond .lt 14, 3) := by decide +kernel
theorem dX4_leafAt_4 : decode cX4_leafAt 4 = .ok (.iload_n 1, 1) := by decide +kernel
theorem dX4_leafAt_5 : decode cX4_leafAt 5 = .ok (.aload_n 0, 1) := by decide +kernel
theorem dX4_leafAt_6 : decode cX4_leafAt 6 = .ok (.getfield 16, 3) := by decide +kernel
theorem dX4_leafAt_9 : decode cX4_leafAt 9 = .ok (.invokevirtual 42, 3) := by decide +kernel
theorem dX4_leafAt_12 : decode cX4_leafAt 12 = .ok (.if_icmp .lt 7, 3) := by decide +kernel
theorem dX4_leafAt_15 : decode cX4_leafAt 15 = .ok (.aconst_null, 1) := by decide +kernel
theorem dX4_leafAt_16 : decode cX4_leafAt 16 = .ok (.goto 14, 3) := by decide +kernel
theorem dX4_leafAt_19 : decode cX4_leafAt 19 = .ok (.aload_n 0, 1) := by decide +kernel
theorem dX4_leafAt_20 : decode cX4_leafAt 20 = .ok (.getfield 16, 3) := by decide +kernel
theorem dX4_leafAt_23 : decode cX4_leafAt 23 = .ok (.iload_n 1, 1) := by decide +kernel
theorem dX4_leafAt_24 : decode cX4_leafAt 24 = .ok (.invokevirtual 154, 3) := by decide +kernel
theorem dX4_leafAt_27 : decode cX4_leafAt 27 = .ok (.checkcast 84, 3) := by decide +kernel
theorem dX4_leafAt_30 : decode cX4_leafAt 30 = .ok (.areturn, 1) := by decide +kernel
set_option maxRecDepth 20000 in
theorem ggX4_beginOne_X4_pickDue : GoodIn wsX4_beginOne wsX4_pickDue := goodIn_r _ [11, 12, 13, 1, 14, 15, 16, 17, 18, 19, 20, 21, 22, 23, 24, 25, 26, 27, 28, 29, 30, 31, 32, 33, 34, 35, 36, 37, 38, 39, 40, 41, 42, 43, 44, 45, 46, 47, 48, 5, 49, 50, 51, 52, 53, 54, 55, 199, 200, 201, 202, 203, 204, 205, 206, 207, 208, 209, 210, 211, 212, 213, 214, 215, 216, 217, 218, 219, 220, 221, 222, 223, 224, 225, 226, 227, 228, 229, 230, 231, 232, 233, 234, 235, 236, 237] (by decide +kernel) (by decide +kernel)
set_option maxRecDepth 20000 in
theorem gX4_beginOne_X4_pickDue : GoodIn wsX4_beginOne (wsV RX4 181 RX4 yX4_pickDue wsX4_pickDue) := goodIn_app (goodIn_of _ (by decide +kernel)) ggX4_beginOne_X4_pickDue
set_option maxRecDepth 20000 in
theorem ggX4_beginOne_X2_sendDue : GoodIn wsX4_beginOne wsX2_sendDue := goodIn_r _ [59, 60, 61, 45, 62, 54, 63, 51, 52, 40, 53, 42, 43, 44, 55, 38, 39, 41, 46, 47, 48, 5, 49, 64, 65, 66, 67, 68, 69, 70, 71, 72, 73, 74, 75, 76, 77, 78, 79, 80, 81, 82, 83, 229, 230, 231, 232, 233, 234, 235, 236, 237, 211, 212, 213, 214, 215, 216, 217, 218, 219, 220, 221, 222, 223, 224, 225, 226, 227, 228, 238, 239, 240, 241, 242, 243, 244, 245, 246] (by decide +kernel) (by decide +kernel)
set_option maxRecDepth 20000 in
theorem gX4_beginOne_X2_sendDue : GoodIn wsX4_beginOne (wsV RX4 185 RX2 yX2_sendDue wsX2_sendDue) := goodIn_app (goodIn_of _ (by decide +kernel)) ggX4_beginOne_X2_sendDue
set_option maxRecDepth 20000 in
theorem ggX4_beginOne_X4_putOnLink : GoodIn wsX4_beginOne wsX4_putOnLink := goodIn_r _ [87, 88, 1, 89, 90, 91, 92, 93, 17, 94, 95, 96, 36, 19, 97, 98, 99, 100, 101, 102, 103, 104, 105, 106, 107, 108, 109, 110, 48, 5, 49, 111, 112, 113, 114, 115, 116, 117, 118, 119, 120, 121, 122, 123, 124, 125, 126, 127, 128, 129, 130, 131, 132, 133, 134, 135, 136, 137, 138, 139, 140, 199, 200, 201, 202, 203, 204, 205, 206, 207, 229, 230, 231, 232, 233, 234, 235, 236, 237, 208, 209, 210] (by decide +kernel) (by decide +kernel)
set_option maxRecDepth 20000 in
theorem gX4_beginOne_X4_putOnLink : GoodIn wsX4_beginOne (wsV RX4 189 RX4 yX4_putOnLink wsX4_putOnLink) := goodIn_app (goodIn_of _ (by decide +kernel)) ggX4_beginOne_X4_putOnLink
set_option maxRecDepth 20000 in
theorem ggX4_beginOne_X4_pickExcess : GoodIn wsX4_beginOne wsX4_pickExcess := goodIn_r _ [144, 145, 146, 14, 15, 16, 17, 18, 19, 20, 21, 22, 23, 24, 25, 26, 27, 28, 29, 30, 31, 32, 33, 34, 35, 36, 147, 148, 149, 10, 150, 12, 13, 151, 152, 153, 154, 40, 155, 42, 75, 54, 73, 76, 156, 157, 158, 80, 159, 82, 83, 160, 161, 162, 163, 164, 165, 166, 167, 168, 169, 170, 171, 172, 173, 174, 175, 176, 177, 178, 179, 199, 200, 201, 202, 203, 204, 205, 206, 207, 208, 209, 210, 211, 212, 213, 214, 215, 216, 217, 218, 219, 220, 221, 222, 223, 224, 225, 226, 227, 228, 229, 230, 231, 232, 233, 234, 235, 236, 237, 238, 239, 240, 241, 242, 243, 244, 245, 246] (by decide +kernel) (by decide +kernel)
set_option maxRecDepth 20000 in
theorem gX4_beginOne_X4_pickExcess : GoodIn wsX4_beginOne (wsV RX4 192 RX4 yX4_pickExcess wsX4_pickExcess) := goodIn_app (goodIn_of _ (by decide +kernel)) ggX4_beginOne_X4_pickExcess
set_option maxRecDepth 20000 in
theorem ggX4_beginOne_X4_countHeld : GoodIn wsX4_beginOne wsX4_countHeld := goodIn_r _ [183, 12, 13, 184, 14, 15, 16, 17, 18, 19, 20, 21, 22, 23, 24, 25, 26, 27, 28, 29, 30, 31, 32, 33, 34, 35, 36, 185, 186, 187, 40, 188, 42, 189, 153, 154, 155, 75, 54, 73, 76, 156, 157, 158, 80, 159, 82, 83, 199, 200, 201, 202, 203, 204, 205, 206, 207, 211, 212, 213, 214, 215, 216, 217, 218, 219, 220, 221, 222, 223, 224, 225, 226, 227, 228, 208, 209, 210, 229, 230, 231, 232, 233, 234, 235, 236, 237, 238, 239, 240, 241, 242, 243, 244, 245, 246] (by decide +kernel) (by decide +kernel)
set_option maxRecDepth 20000 in
theorem gX4_beginOne_X4_countHeld : GoodIn wsX4_beginOne (wsV RX4 195 RX4 yX4_countHeld wsX4_countHeld) := goodIn_app (goodIn_of _ (by decide +kernel)) ggX4_beginOne_X4_countHeld
set_option maxRecDepth 20000 in
theorem ggX4_beginOne_X2_tagInGroup : GoodIn wsX4_beginOne wsX2_tagInGroup := goodIn_r _ [170, 42, 73, 171, 54, 172, 173, 174, 175, 176, 177, 178, 179, 211, 212, 213, 214, 215, 216, 217, 218, 219, 220, 221, 222, 223, 224, 225, 226, 227, 228, 238, 239, 240, 241, 242, 243, 229, 230, 231, 232, 233, 234, 235, 236, 237] (by decide +kernel) (by decide +kernel)
set_option maxRecDepth 20000 in
theorem gX4_beginOne_X2_tagInGroup : GoodIn wsX4_beginOne (wsV RX4 198 RX2 yX2_tagInGroup wsX2_tagInGroup) := goodIn_app (goodIn_of _ (by decide +kernel)) ggX4_beginOne_X2_tagInGroup
set_option maxRecDepth 20000 in
theorem ggX4_beginOne_X2_sendExcess : GoodIn wsX4_beginOne wsX2_sendExcess := goodIn_r _ [193, 60, 165, 73, 194, 195, 4, 5, 6, 171, 196, 54, 197, 161, 162, 40, 163, 42, 164, 166, 198, 168, 169, 170, 172, 173, 174, 175, 176, 177, 178, 179, 64, 65, 66, 67, 68, 69, 70, 71, 72, 74, 75, 76, 77, 78, 79, 80, 81, 82, 83, 229, 230, 231, 232, 233, 234, 235, 236, 237, 211, 212, 213, 214, 215, 216, 217, 218, 219, 220, 221, 222, 223, 224, 225, 226, 227, 228, 238, 239, 240, 241, 242, 243, 244, 245, 246] (by decide +kernel) (by decide +kernel)
set_option maxRecDepth 20000 in
theorem gX4_beginOne_X2_sendExcess : GoodIn wsX4_beginOne (wsV RX4 206 RX2 yX2_sendExcess wsX2_sendExcess) := goodIn_app (goodIn_of _ (by decide +kernel)) ggX4_beginOne_X2_sendExcess
theorem dX4_beginOne_0 : decode cX4_beginOne 0 = .ok (.aload_n 0, 1) := by decide +kernel
theorem dX4_beginOne_1 : decode cX4_beginOne 1 = .ok (.invokevirtual 181, 3) := by decide +kernel
theorem dX4_beginOne_4 : decode cX4_beginOne 4 = .ok (.astore_n 1, 1) := by decide +kernel
theorem dX4_beginOne_5 : decode cX4_beginOne 5 = .ok (.aload_n 1, 1) := by decide +kernel
theorem dX4_beginOne_6 : decode cX4_beginOne 6 = .ok (.ifnull 16, 3) := by decide +kernel
theorem dX4_beginOne_9 : decode cX4_beginOne 9 = .ok (.aload_n 0, 1) := by decide +kernel
theorem dX4_beginOne_10 : decode cX4_beginOne 10 = .ok (.aload_n 1, 1) := by decide +kernel
theorem dX4_beginOne_11 : decode cX4_beginOne 11 = .ok (.aload_n 0, 1) := by decide +kernel
theorem dX4_beginOne_12 : decode cX4_beginOne 12 = .ok (.getfield 25, 3) := by decide +kernel
theorem dX4_beginOne_15 : decode cX4_beginOne 15 = .ok (.invokevirtual 185, 3) := by decide +kernel
theorem dX4_beginOne_18 : decode cX4_beginOne 18 = .ok (.invokevirtual 189, 3) := by decide +kernel
theorem dX4_beginOne_21 : decode cX4_beginOne 21 = .ok (.return_, 1) := by decide +kernel
theorem dX4_beginOne_22 : decode cX4_beginOne 22 = .ok (.aload_n 0, 1) := by decide +kernel
theorem dX4_beginOne_23 : decode cX4_beginOne 23 = .ok (.invokevirtual 192, 3) := by decide +kernel
theorem dX4_beginOne_26 : decode cX4_beginOne 26 = .ok (.astore_n 2, 1) := by decide +kernel
theorem dX4_beginOne_27 : decode cX4_beginOne 27 = .ok (.aload_n 2, 1) := by decide +kernel
theorem dX4_beginOne_28 : decode cX4_beginOne 28 = .ok (.ifnull 35, 3) := by decide +kernel
theorem dX4_beginOne_31 : decode cX4_beginOne 31 = .ok (.aload_n 0, 1) := by decide +kernel
theorem dX4_beginOne_32 : decode cX4_beginOne 32 = .ok (.iconst 1, 1) := by decide +kernel
theorem dX4_beginOne_33 : decode cX4_beginOne 33 = .ok (.invokevirtual 195, 3) := by decide +kernel
theorem dX4_beginOne_36 : decode cX4_beginOne 36 = .ok (.aload_n 0, 1) := by decide +kernel
theorem dX4_beginOne_37 : decode cX4_beginOne 37 = .ok (.aload_n 0, 1) := by decide +kernel
theorem dX4_beginOne_38 : decode cX4_beginOne 38 = .ok (.getfield 38, 3) := by decide +kernel
theorem dX4_beginOne_41 : decode cX4_beginOne 41 = .ok (.aload_n 2, 1) := by decide +kernel
theorem dX4_beginOne_42 : decode cX4_beginOne 42 = .ok (.invokevirtual 198, 3) := by decide +kernel
theorem dX4_beginOne_45 : decode cX4_beginOne 45 = .ok (.invokestatic 202, 3) := by decide +kernel
theorem dX4_beginOne_48 : decode cX4_beginOne 48 = .ok (.putfield 38, 3) := by decide +kernel
theorem dX4_beginOne_51 : decode cX4_beginOne 51 = .ok (.aload_n 0, 1) := by decide +kernel
theorem dX4_beginOne_52 : decode cX4_beginOne 52 = .ok (.aload_n 2, 1) := by decide +kernel
theorem dX4_beginOne_53 : decode cX4_beginOne 53 = .ok (.aload_n 0, 1) := by decide +kernel
theorem dX4_beginOne_54 : decode cX4_beginOne 54 = .ok (.getfield 25, 3) := by decide +kernel
theorem dX4_beginOne_57 : decode cX4_beginOne 57 = .ok (.invokevirtual 206, 3) := by decide +kernel
theorem dX4_beginOne_60 : decode cX4_beginOne 60 = .ok (.invokevirtual 189, 3) := by decide +kernel
theorem dX4_beginOne_63 : decode cX4_beginOne 63 = .ok (.return_, 1) := by decide +kernel
set_option maxRecDepth 20000 in
theorem ggX4_putOnLink_Jx4a65c_add_9ea2d : GoodIn wsX4_putOnLink wsJx4a65c_add_9ea2d := goodIn_r _ [9, 10, 11, 12, 13, 14, 15, 16, 8, 17, 18, 19, 20, 21, 22, 23, 24, 25, 26, 27, 28, 29, 30, 31, 32, 33, 34, 35, 36, 37, 38, 39, 40, 41, 42, 43, 44, 45, 46, 47, 48, 49, 50, 51, 52, 53, 54, 55, 56, 57, 58, 59, 60, 79, 80, 81] (by decide +kernel) (by decide +kernel)
set_option maxRecDepth 20000 in
theorem gX4_putOnLink_Jx4a65c_add_9ea2d : GoodIn wsX4_putOnLink (wsV RX4 64 RJx4a65c yJx4a65c_add_9ea2d wsJx4a65c_add_9ea2d) := goodIn_app (goodIn_of _ (by decide +kernel)) ggX4_putOnLink_Jx4a65c_add_9ea2d
theorem dX4_putOnLink_0 : decode cX4_putOnLink 0 = .ok (.aload_n 1, 1) := by decide +kernel
theorem dX4_putOnLink_1 : decode cX4_putOnLink 1 = .ok (.ifnull 25, 3) := by decide +kernel
theorem dX4_putOnLink_4 : decode cX4_putOnLink 4 = .ok (.aload_n 0, 1) := by decide +kernel
theorem dX4_putOnLink_5 : decode cX4_putOnLink 5 = .ok (.getfield 22, 3) := by decide +kernel
theorem dX4_putOnLink_8 : decode cX4_putOnLink 8 = .ok (.aload_n 1, 1) := by decide +kernel
theorem dX4_putOnLink_9 : decode cX4_putOnLink 9 = .ok (.invokevirtual 64, 3) := by decide +kernel
theorem dX4_putOnLink_12 : decode cX4_putOnLink 12 = .ok (.pop, 1) := by decide +kernel
theorem dX4_putOnLink_13 : decode cX4_putOnLink 13 = .ok (.aload_n 0, 1) := by decide +kernel
theorem dX4_putOnLink_14 : decode cX4_putOnLink 14 = .ok (.aload_n 0, 1) := by decide +kernel
theorem dX4_putOnLink_15 : decode cX4_putOnLink 15 = .ok (.getfield 25, 3) := by decide +kernel
theorem dX4_putOnLink_18 : decode cX4_putOnLink 18 = .ok (.aload_n 1, 1) := by decide +kernel
theorem dX4_putOnLink_19 : decode cX4_putOnLink 19 = .ok (.getfield 209, 3) := by decide +kernel
theorem dX4_putOnLink_22 : decode cX4_putOnLink 22 = .ok (.iadd, 1) := by decide +kernel
theorem dX4_putOnLink_23 : decode cX4_putOnLink 23 = .ok (.putfield 29, 3) := by decide +kernel
theorem dX4_putOnLink_26 : decode cX4_putOnLink 26 = .ok (.return_, 1) := by decide +kernel
