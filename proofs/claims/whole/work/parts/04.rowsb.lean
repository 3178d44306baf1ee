set_option maxRecDepth 20000 in
theorem ggX4_pickDue_Jx4a65c_size_8abf5 : GoodIn wsX4_pickDue wsJx4a65c_size_8abf5 := goodIn_r _ [8, 9, 56, 57, 58] (by decide +kernel) (by decide +kernel)
set_option maxRecDepth 20000 in
theorem gX4_pickDue_Jx4a65c_size_8abf5 : GoodIn wsX4_pickDue (wsV RX4 42 RJx4a65c yJx4a65c_size_8abf5 wsJx4a65c_size_8abf5) := goodIn_app (goodIn_of _ (by decide +kernel)) ggX4_pickDue_Jx4a65c_size_8abf5
set_option maxRecDepth 20000 in
theorem ggX4_pickDue_Jx4a65c_get_915e3 : GoodIn wsX4_pickDue wsJx4a65c_get_915e3 := goodIn_r _ [13, 9, 14, 15, 16, 17, 18, 19, 20, 21, 22, 23, 24, 7, 25, 26, 56, 57, 58] (by decide +kernel) (by decide +kernel)
set_option maxRecDepth 20000 in
theorem gX4_pickDue_Jx4a65c_get_915e3 : GoodIn wsX4_pickDue (wsV RX4 154 RJx4a65c yJx4a65c_get_915e3 wsJx4a65c_get_915e3) := goodIn_app (goodIn_of _ (by decide +kernel)) ggX4_pickDue_Jx4a65c_get_915e3
set_option maxRecDepth 20000 in
theorem ggX4_pickDue_X2_start : GoodIn wsX4_pickDue wsX2_start := goodIn_r _ [31, 32, 33, 34, 35, 36, 37, 38, 39, 40, 59, 60, 61, 62, 63, 64, 65, 66, 67, 68, 69, 70, 71, 72, 73, 74, 75, 76, 77, 78, 79, 80, 81, 82, 83, 84, 85] (by decide +kernel) (by decide +kernel)
set_option maxRecDepth 20000 in
theorem gX4_pickDue_X2_start : GoodIn wsX4_pickDue (wsV RX4 211 RX2 yX2_start wsX2_start) := goodIn_app (goodIn_of _ (by decide +kernel)) ggX4_pickDue_X2_start
set_option maxRecDepth 20000 in
theorem ggX4_pickDue_X2_deadline : GoodIn wsX4_pickDue wsX2_deadline := goodIn_r _ [44, 32, 33, 34, 45, 46, 28, 29, 30, 31, 35, 36, 37, 38, 39, 40, 59, 60, 61, 62, 63, 64, 65, 66, 67, 68, 69, 70, 71, 72, 73, 74, 75, 76, 77, 78, 79, 80, 81, 82, 83, 84, 85] (by decide +kernel) (by decide +kernel)
set_option maxRecDepth 20000 in
theorem gX4_pickDue_X2_deadline : GoodIn wsX4_pickDue (wsV RX4 214 RX2 yX2_deadline wsX2_deadline) := goodIn_app (goodIn_of _ (by decide +kernel)) ggX4_pickDue_X2_deadline
theorem dX4_pickDue_0 : decode cX4_pickDue 0 = .ok (.aconst_null, 1) := by decide +kernel
theorem dX4_pickDue_1 : decode cX4_pickDue 1 = .ok (.astore_n 1, 1) := by decide +kernel
theorem dX4_pickDue_2 : decode cX4_pickDue 2 = .ok (.iconst 0, 1) := by decide +kernel
theorem dX4_pickDue_3 : decode cX4_pickDue 3 = .ok (.istore_n 2, 1) := by decide +kernel
theorem dX4_pickDue_4 : decode cX4_pickDue 4 = .ok (.iload_n 2, 1) := by decide +kernel
theorem dX4_pickDue_5 : decode cX4_pickDue 5 = .ok (.aload_n 0, 1) := by decide +kernel
theorem dX4_pickDue_6 : decode cX4_pickDue 6 = .ok (.getfield 16, 3) := by decide +kernel
theorem dX4_pickDue_9 : decode cX4_pickDue 9 = .ok (.invokevirtual 42, 3) := by decide +kernel
theorem dX4_pickDue_12 : decode cX4_pickDue 12 = .ok (.if_icmp .ge 49, 3) := by decide +kernel
theorem dX4_pickDue_15 : decode cX4_pickDue 15 = .ok (.aload_n 0, 1) := by decide +kernel
theorem dX4_pickDue_16 : decode cX4_pickDue 16 = .ok (.getfield 16, 3) := by decide +kernel
theorem dX4_pickDue_19 : decode cX4_pickDue 19 = .ok (.iload_n 2, 1) := by decide +kernel
theorem dX4_pickDue_20 : decode cX4_pickDue 20 = .ok (.invokevirtual 154, 3) := by decide +kernel
theorem dX4_pickDue_23 : decode cX4_pickDue 23 = .ok (.checkcast 84, 3) := by decide +kernel
theorem dX4_pickDue_26 : decode cX4_pickDue 26 = .ok (.astore_n 3, 1) := by decide +kernel
theorem dX4_pickDue_27 : decode cX4_pickDue 27 = .ok (.aload_n 3, 1) := by decide +kernel
theorem dX4_pickDue_28 : decode cX4_pickDue 28 = .ok (.invokevirtual 211, 3) := by decide +kernel
theorem dX4_pickDue_31 : decode cX4_pickDue 31 = .ok (.aload_n 0, 1) := by decide +kernel
theorem dX4_pickDue_32 : decode cX4_pickDue 32 = .ok (.getfield 25, 3) := by decide +kernel
theorem dX4_pickDue_35 : decode cX4_pickDue 35 = .ok (.if_icmp .gt 20, 3) := by decide +kernel
theorem dX4_pickDue_38 : decode cX4_pickDue 38 = .ok (.aload_n 1, 1) := by decide +kernel
theorem dX4_pickDue_39 : decode cX4_pickDue 39 = .ok (.ifnull 14, 3) := by decide +kernel
theorem dX4_pickDue_42 : decode cX4_pickDue 42 = .ok (.aload_n 3, 1) := by decide +kernel
theorem dX4_pickDue_43 : decode cX4_pickDue 43 = .ok (.invokevirtual 214, 3) := by decide +kernel
theorem dX4_pickDue_46 : decode cX4_pickDue 46 = .ok (.aload_n 1, 1) := by decide +kernel
theorem dX4_pickDue_47 : decode cX4_pickDue 47 = .ok (.invokevirtual 214, 3) := by decide +kernel
theorem dX4_pickDue_50 : decode cX4_pickDue 50 = .ok (.if_icmp .ge 5, 3) := by decide +kernel
theorem dX4_pickDue_53 : decode cX4_pickDue 53 = .ok (.aload_n 3, 1) := by decide +kernel
theorem dX4_pickDue_54 : decode cX4_pickDue 54 = .ok (.astore_n 1, 1) := by decide +kernel
theorem dX4_pickDue_55 : decode cX4_pickDue 55 = .ok (.iinc 2 1, 3) := by decide +kernel
theorem dX4_pickDue_58 : decode cX4_pickDue 58 = .ok (.goto (-54), 3) := by decide +kernel
theorem dX4_pickDue_61 : decode cX4_pickDue 61 = .ok (.aload_n 1, 1) := by decide +kernel
theorem dX4_pickDue_62 : decode cX4_pickDue 62 = .ok (.areturn, 1) := by decide +kernel
set_option maxRecDepth 20000 in
theorem ggX4_pickExcess_Jx4a65c_size_8abf5 : GoodIn wsX4_pickExcess wsJx4a65c_size_8abf5 := goodIn_r _ [7, 8, 80, 81, 82] (by decide +kernel) (by decide +kernel)
set_option maxRecDepth 20000 in
theorem gX4_pickExcess_Jx4a65c_size_8abf5 : GoodIn wsX4_pickExcess (wsV RX4 42 RJx4a65c yJx4a65c_size_8abf5 wsJx4a65c_size_8abf5) := goodIn_app (goodIn_of _ (by decide +kernel)) ggX4_pickExcess_Jx4a65c_size_8abf5
set_option maxRecDepth 20000 in
theorem ggX4_pickExcess_Jx4a65c_get_915e3 : GoodIn wsX4_pickExcess wsJx4a65c_get_915e3 := goodIn_r _ [12, 8, 13, 14, 15, 16, 17, 18, 19, 20, 21, 22, 23, 6, 24, 25, 80, 81, 82] (by decide +kernel) (by decide +kernel)
set_option maxRecDepth 20000 in
theorem gX4_pickExcess_Jx4a65c_get_915e3 : GoodIn wsX4_pickExcess (wsV RX4 154 RJx4a65c yJx4a65c_get_915e3 wsJx4a65c_get_915e3) := goodIn_app (goodIn_of _ (by decide +kernel)) ggX4_pickExcess_Jx4a65c_get_915e3
set_option maxRecDepth 20000 in
theorem ggX4_pickExcess_X4_pickExcessOf : GoodIn wsX4_pickExcess wsX4_pickExcessOf := goodIn_r _ [30, 31, 32, 33, 3, 4, 5, 6, 7, 8, 9, 10, 11, 12, 13, 14, 15, 16, 17, 18, 19, 20, 21, 22, 23, 24, 25, 34, 35, 36, 37, 38, 39, 40, 41, 42, 43, 44, 45, 46, 47, 48, 49, 50, 51, 52, 53, 54, 55, 56, 57, 71, 72, 73, 74, 75, 76, 77, 78, 79, 83, 84, 85, 86, 87, 88, 89, 90, 91, 92, 93, 94, 95, 96, 97, 98, 99, 100, 80, 81, 82, 101, 102, 103, 104, 105, 106, 107, 108, 109, 110, 111, 112, 113, 114, 115, 116, 117, 118] (by decide +kernel) (by decide +kernel)
set_option maxRecDepth 20000 in
theorem gX4_pickExcess_X4_pickExcessOf : GoodIn wsX4_pickExcess (wsV RX4 217 RX4 yX4_pickExcessOf wsX4_pickExcessOf) := goodIn_app (goodIn_of _ (by decide +kernel)) ggX4_pickExcess_X4_pickExcessOf
set_option maxRecDepth 20000 in
theorem ggX4_pickExcess_X2_tagInGroup : GoodIn wsX4_pickExcess wsX2_tagInGroup := goodIn_r _ [61, 39, 42, 62, 41, 63, 64, 65, 66, 67, 68, 69, 70, 83, 84, 85, 86, 87, 88, 89, 90, 91, 92, 93, 94, 95, 96, 97, 98, 99, 100, 110, 111, 112, 113, 114, 115, 101, 102, 103, 104, 105, 106, 107, 108, 109] (by decide +kernel) (by decide +kernel)
set_option maxRecDepth 20000 in
theorem gX4_pickExcess_X2_tagInGroup : GoodIn wsX4_pickExcess (wsV RX4 198 RX2 yX2_tagInGroup wsX2_tagInGroup) := goodIn_app (goodIn_of _ (by decide +kernel)) ggX4_pickExcess_X2_tagInGroup
theorem dX4_pickExcess_0 : decode cX4_pickExcess 0 = .ok (.aconst_null, 1) := by decide +kernel
theorem dX4_pickExcess_1 : decode cX4_pickExcess 1 = .ok (.astore_n 1, 1) := by decide +kernel
theorem dX4_pickExcess_2 : decode cX4_pickExcess 2 = .ok (.iconst 0, 1) := by decide +kernel
theorem dX4_pickExcess_3 : decode cX4_pickExcess 3 = .ok (.istore_n 2, 1) := by decide +kernel
theorem dX4_pickExcess_4 : decode cX4_pickExcess 4 = .ok (.iload_n 2, 1) := by decide +kernel
theorem dX4_pickExcess_5 : decode cX4_pickExcess 5 = .ok (.aload_n 0, 1) := by decide +kernel
theorem dX4_pickExcess_6 : decode cX4_pickExcess 6 = .ok (.getfield 10, 3) := by decide +kernel
theorem dX4_pickExcess_9 : decode cX4_pickExcess 9 = .ok (.invokevirtual 42, 3) := by decide +kernel
theorem dX4_pickExcess_12 : decode cX4_pickExcess 12 = .ok (.if_icmp .ge 47, 3) := by decide +kernel
theorem dX4_pickExcess_15 : decode cX4_pickExcess 15 = .ok (.aload_n 0, 1) := by decide +kernel
theorem dX4_pickExcess_16 : decode cX4_pickExcess 16 = .ok (.aload_n 0, 1) := by decide +kernel
theorem dX4_pickExcess_17 : decode cX4_pickExcess 17 = .ok (.getfield 10, 3) := by decide +kernel
theorem dX4_pickExcess_20 : decode cX4_pickExcess 20 = .ok (.iload_n 2, 1) := by decide +kernel
theorem dX4_pickExcess_21 : decode cX4_pickExcess 21 = .ok (.invokevirtual 154, 3) := by decide +kernel
theorem dX4_pickExcess_24 : decode cX4_pickExcess 24 = .ok (.checkcast 54, 3) := by decide +kernel
theorem dX4_pickExcess_27 : decode cX4_pickExcess 27 = .ok (.invokevirtual 217, 3) := by decide +kernel
theorem dX4_pickExcess_30 : decode cX4_pickExcess 30 = .ok (.astore_n 3, 1) := by decide +kernel
theorem dX4_pickExcess_31 : decode cX4_pickExcess 31 = .ok (.aload_n 3, 1) := by decide +kernel
theorem dX4_pickExcess_32 : decode cX4_pickExcess 32 = .ok (.ifnull 21, 3) := by decide +kernel
theorem dX4_pickExcess_35 : decode cX4_pickExcess 35 = .ok (.aload_n 1, 1) := by decide +kernel
theorem dX4_pickExcess_36 : decode cX4_pickExcess 36 = .ok (.ifnull 15, 3) := by decide +kernel
theorem dX4_pickExcess_39 : decode cX4_pickExcess 39 = .ok (.aload_n 3, 1) := by decide +kernel
theorem dX4_pickExcess_40 : decode cX4_pickExcess 40 = .ok (.invokevirtual 198, 3) := by decide +kernel
theorem dX4_pickExcess_43 : decode cX4_pickExcess 43 = .ok (.aload_n 1, 1) := by decide +kernel
theorem dX4_pickExcess_44 : decode cX4_pickExcess 44 = .ok (.invokevirtual 198, 3) := by decide +kernel
theorem dX4_pickExcess_47 : decode cX4_pickExcess 47 = .ok (.lcmp, 1) := by decide +kernel
theorem dX4_pickExcess_48 : decode cX4_pickExcess 48 = .ok (.ifCond .ge 5, 3) := by decide +kernel
theorem dX4_pickExcess_51 : decode cX4_pickExcess 51 = .ok (.aload_n 3, 1) := by decide +kernel
theorem dX4_pickExcess_52 : decode cX4_pickExcess 52 = .ok (.astore_n 1, 1) := by decide +kernel
theorem dX4_pickExcess_53 : decode cX4_pickExcess 53 = .ok (.iinc 2 1, 3) := by decide +kernel
theorem dX4_pickExcess_56 : decode cX4_pickExcess 56 = .ok (.goto (-52), 3) := by decide +kernel
theorem dX4_pickExcess_59 : decode cX4_pickExcess 59 = .ok (.aload_n 1, 1) := by decide +kernel
theorem dX4_pickExcess_60 : decode cX4_pickExcess 60 = .ok (.areturn, 1) := by decide +kernel
set_option maxRecDepth 20000 in
theorem ggX4_pickExcessOf_Jx4a65c_size_8abf5 : GoodIn wsX4_pickExcessOf wsJx4a65c_size_8abf5 := goodIn_r _ [8, 9, 78, 79, 80] (by decide +kernel) (by decide +kernel)
set_option maxRecDepth 20000 in
theorem gX4_pickExcessOf_Jx4a65c_size_8abf5 : GoodIn wsX4_pickExcessOf (wsV RX4 42 RJx4a65c yJx4a65c_size_8abf5 wsJx4a65c_size_8abf5) := goodIn_app (goodIn_of _ (by decide +kernel)) ggX4_pickExcessOf_Jx4a65c_size_8abf5
set_option maxRecDepth 20000 in
theorem ggX4_pickExcessOf_Jx4a65c_get_915e3 : GoodIn wsX4_pickExcessOf wsJx4a65c_get_915e3 := goodIn_r _ [13, 9, 14, 15, 16, 17, 18, 19, 20, 21, 22, 23, 24, 7, 25, 26, 78, 79, 80] (by decide +kernel) (by decide +kernel)
set_option maxRecDepth 20000 in
theorem gX4_pickExcessOf_Jx4a65c_get_915e3 : GoodIn wsX4_pickExcessOf (wsV RX4 154 RJx4a65c yJx4a65c_get_915e3 wsJx4a65c_get_915e3) := goodIn_app (goodIn_of _ (by decide +kernel)) ggX4_pickExcessOf_Jx4a65c_get_915e3
set_option maxRecDepth 20000 in
theorem ggX4_pickExcessOf_X2_isReady : GoodIn wsX4_pickExcessOf wsX2_isReady := goodIn_r _ [31, 32, 33, 34, 35, 36, 37, 38, 39, 40, 41, 42, 43, 60, 61, 62, 63, 64, 65, 66, 67, 68, 69, 70, 71, 72, 73, 74, 75, 76, 77, 81, 82, 83, 84, 85, 86, 87, 88, 89, 90, 91, 92, 93, 94, 95, 96, 97, 98] (by decide +kernel) (by decide +kernel)
set_option maxRecDepth 20000 in
theorem gX4_pickExcessOf_X2_isReady : GoodIn wsX4_pickExcessOf (wsV RX4 225 RX2 yX2_isReady wsX2_isReady) := goodIn_app (goodIn_of _ (by decide +kernel)) ggX4_pickExcessOf_X2_isReady
set_option maxRecDepth 20000 in
theorem ggX4_pickExcessOf_X2_tagInLeaf : GoodIn wsX4_pickExcessOf wsX2_tagInLeaf := goodIn_r _ [47, 32, 48, 49, 50, 34, 60, 61, 62, 63, 64, 65, 66, 67, 68, 69, 70, 71, 72, 73, 74, 75, 76, 77, 81, 82, 83, 84, 85, 86, 87, 88, 89] (by decide +kernel) (by decide +kernel)
set_option maxRecDepth 20000 in
theorem gX4_pickExcessOf_X2_tagInLeaf : GoodIn wsX4_pickExcessOf (wsV RX4 229 RX2 yX2_tagInLeaf wsX2_tagInLeaf) := goodIn_app (goodIn_of _ (by decide +kernel)) ggX4_pickExcessOf_X2_tagInLeaf
theorem dX4_pickExcessOf_0 : decode cX4_pickExcessOf 0 = .ok (.aconst_null, 1) := by decide +kernel
theorem dX4_pickExcessOf_1 : decode cX4_pickExcessOf 1 = .ok (.astore_n 2, 1) := by decide +kernel
theorem dX4_pickExcessOf_2 : decode cX4_pickExcessOf 2 = .ok (.iconst 0, 1) := by decide +kernel
theorem dX4_pickExcessOf_3 : decode cX4_pickExcessOf 3 = .ok (.istore_n 3, 1) := by decide +kernel
theorem dX4_pickExcessOf_4 : decode cX4_pickExcessOf 4 = .ok (.iload_n 3, 1) := by decide +kernel
theorem dX4_pickExcessOf_5 : decode cX4_pickExcessOf 5 = .ok (.aload_n 0, 1) := by decide +kernel
theorem dX4_pickExcessOf_6 : decode cX4_pickExcessOf 6 = .ok (.getfield 16, 3) := by decide +kernel
theorem dX4_pickExcessOf_9 : decode cX4_pickExcessOf 9 = .ok (.invokevirtual 42, 3) := by decide +kernel
theorem dX4_pickExcessOf_12 : decode cX4_pickExcessOf 12 = .ok (.if_icmp .ge 59, 3) := by decide +kernel
theorem dX4_pickExcessOf_15 : decode cX4_pickExcessOf 15 = .ok (.aload_n 0, 1) := by decide +kernel
theorem dX4_pickExcessOf_16 : decode cX4_pickExcessOf 16 = .ok (.getfield 16, 3) := by decide +kernel
theorem dX4_pickExcessOf_19 : decode cX4_pickExcessOf 19 = .ok (.iload_n 3, 1) := by decide +kernel
theorem dX4_pickExcessOf_20 : decode cX4_pickExcessOf 20 = .ok (.invokevirtual 154, 3) := by decide +kernel
theorem dX4_pickExcessOf_23 : decode cX4_pickExcessOf 23 = .ok (.checkcast 84, 3) := by decide +kernel
theorem dX4_pickExcessOf_26 : decode cX4_pickExcessOf 26 = .ok (.astore 4, 2) := by decide +kernel
theorem dX4_pickExcessOf_28 : decode cX4_pickExcessOf 28 = .ok (.aload 4, 2) := by decide +kernel
theorem dX4_pickExcessOf_30 : decode cX4_pickExcessOf 30 = .ok (.getfield 221, 3) := by decide +kernel
theorem dX4_pickExcessOf_33 : decode cX4_pickExcessOf 33 = .ok (.aload_n 1, 1) := by decide +kernel
theorem dX4_pickExcessOf_34 : decode cX4_pickExcessOf 34 = .ok (.if_acmp .ne 31, 3) := by decide +kernel
theorem dX4_pickExcessOf_37 : decode cX4_pickExcessOf 37 = .ok (.aload 4, 2) := by decide +kernel
theorem dX4_pickExcessOf_39 : decode cX4_pickExcessOf 39 = .ok (.invokevirtual 225, 3) := by decide +kernel
theorem dX4_pickExcessOf_42 : decode cX4_pickExcessOf 42 = .ok (.ifCond .eq 23, 3) := by decide +kernel
theorem dX4_pickExcessOf_45 : decode cX4_pickExcessOf 45 = .ok (.aload_n 2, 1) := by decide +kernel
theorem dX4_pickExcessOf_46 : decode cX4_pickExcessOf 46 = .ok (.ifnull 16, 3) := by decide +kernel
theorem dX4_pickExcessOf_49 : decode cX4_pickExcessOf 49 = .ok (.aload 4, 2) := by decide +kernel
theorem dX4_pickExcessOf_51 : decode cX4_pickExcessOf 51 = .ok (.invokevirtual 229, 3) := by decide +kernel
theorem dX4_pickExcessOf_54 : decode cX4_pickExcessOf 54 = .ok (.aload_n 2, 1) := by decide +kernel
theorem dX4_pickExcessOf_55 : decode cX4_pickExcessOf 55 = .ok (.invokevirtual 229, 3) := by decide +kernel
theorem dX4_pickExcessOf_58 : decode cX4_pickExcessOf 58 = .ok (.lcmp, 1) := by decide +kernel
theorem dX4_pickExcessOf_59 : decode cX4_pickExcessOf 59 = .ok (.ifCond .ge 6, 3) := by decide +kernel
theorem dX4_pickExcessOf_62 : decode cX4_pickExcessOf 62 = .ok (.aload 4, 2) := by decide +kernel
theorem dX4_pickExcessOf_64 : decode cX4_pickExcessOf 64 = .ok (.astore_n 2, 1) := by decide +kernel
theorem dX4_pickExcessOf_65 : decode cX4_pickExcessOf 65 = .ok (.iinc 3 1, 3) := by decide +kernel
theorem dX4_pickExcessOf_68 : decode cX4_pickExcessOf 68 = .ok (.goto (-64), 3) := by decide +kernel
theorem dX4_pickExcessOf_71 : decode cX4_pickExcessOf 71 = .ok (.aload_n 2, 1) := by decide +kernel
theorem dX4_pickExcessOf_72 : decode cX4_pickExcessOf 72 = .ok (.areturn, 1) := by decide +kernel
set_option maxRecDepth 20000 in
theorem ggX4_ticksUntilOneMayGo_Jx4a65c_size_8abf5 : GoodIn wsX4_ticksUntilOneMayGo wsJx4a65c_size_8abf5 := goodIn_r _ [13, 14, 76, 77, 78] (by decide +kernel) (by decide +kernel)
set_option maxRecDepth 20000 in
theorem gX4_ticksUntilOneMayGo_Jx4a65c_size_8abf5 : GoodIn wsX4_ticksUntilOneMayGo (wsV RX4 42 RJx4a65c yJx4a65c_size_8abf5 wsJx4a65c_size_8abf5) := goodIn_app (goodIn_of _ (by decide +kernel)) ggX4_ticksUntilOneMayGo_Jx4a65c_size_8abf5
set_option maxRecDepth 20000 in
theorem ggX4_ticksUntilOneMayGo_Jx4a65c_get_915e3 : GoodIn wsX4_ticksUntilOneMayGo wsJx4a65c_get_915e3 := goodIn_r _ [18, 14, 19, 20, 21, 22, 23, 24, 25, 26, 27, 28, 29, 12, 30, 31, 76, 77, 78] (by decide +kernel) (by decide +kernel)
set_option maxRecDepth 20000 in
theorem gX4_ticksUntilOneMayGo_Jx4a65c_get_915e3 : GoodIn wsX4_ticksUntilOneMayGo (wsV RX4 154 RJx4a65c yJx4a65c_get_915e3 wsJx4a65c_get_915e3) := goodIn_app (goodIn_of _ (by decide +kernel)) ggX4_ticksUntilOneMayGo_Jx4a65c_get_915e3
set_option maxRecDepth 20000 in
theorem ggX4_ticksUntilOneMayGo_X2_ticksUntilMayGo : GoodIn wsX4_ticksUntilOneMayGo wsX2_ticksUntilMayGo := goodIn_r _ [36, 37, 38, 39, 40, 41, 42, 43, 44, 7, 45, 46, 6, 8, 47, 48, 49, 50, 51, 52, 53, 54, 55, 56, 57, 58, 35, 59, 60, 61, 62, 63, 64, 65, 66, 79, 80, 81, 82, 83, 84, 85, 86, 87, 88, 89, 90, 91, 92, 93, 94, 95, 96, 97, 98, 99, 100, 101, 102, 103, 104, 105, 106, 107, 108, 109, 110, 111, 112, 113, 114] (by decide +kernel) (by decide +kernel)
set_option maxRecDepth 20000 in
theorem gX4_ticksUntilOneMayGo_X2_ticksUntilMayGo : GoodIn wsX4_ticksUntilOneMayGo (wsV RX4 234 RX2 yX2_ticksUntilMayGo wsX2_ticksUntilMayGo) := goodIn_app (goodIn_of _ (by decide +kernel)) ggX4_ticksUntilOneMayGo_X2_ticksUntilMayGo
theorem dX4_ticksUntilOneMayGo_0 : decode cX4_ticksUntilOneMayGo 0 = .ok (.ldc2_w 232, 3) := by decide +kernel
theorem dX4_ticksUntilOneMayGo_3 : decode cX4_ticksUntilOneMayGo 3 = .ok (.lstore_n 1, 1) := by decide +kernel
theorem dX4_ticksUntilOneMayGo_4 : decode cX4_ticksUntilOneMayGo 4 = .ok (.iconst 0, 1) := by decide +kernel
theorem dX4_ticksUntilOneMayGo_5 : decode cX4_ticksUntilOneMayGo 5 = .ok (.istore_n 3, 1) := by decide +kernel
theorem dX4_ticksUntilOneMayGo_6 : decode cX4_ticksUntilOneMayGo 6 = .ok (.iload_n 3, 1) := by decide +kernel
theorem dX4_ticksUntilOneMayGo_7 : decode cX4_ticksUntilOneMayGo 7 = .ok (.aload_n 0, 1) := by decide +kernel
theorem dX4_ticksUntilOneMayGo_8 : decode cX4_ticksUntilOneMayGo 8 = .ok (.getfield 16, 3) := by decide +kernel
theorem dX4_ticksUntilOneMayGo_11 : decode cX4_ticksUntilOneMayGo 11 = .ok (.invokevirtual 42, 3) := by decide +kernel
theorem dX4_ticksUntilOneMayGo_14 : decode cX4_ticksUntilOneMayGo 14 = .ok (.if_icmp .ge 32, 3) := by decide +kernel
theorem dX4_ticksUntilOneMayGo_17 : decode cX4_ticksUntilOneMayGo 17 = .ok (.lload_n 1, 1) := by decide +kernel
theorem dX4_ticksUntilOneMayGo_18 : decode cX4_ticksUntilOneMayGo 18 = .ok (.aload_n 0, 1) := by decide +kernel
theorem dX4_ticksUntilOneMayGo_19 : decode cX4_ticksUntilOneMayGo 19 = .ok (.getfield 16, 3) := by decide +kernel
theorem dX4_ticksUntilOneMayGo_22 : decode cX4_ticksUntilOneMayGo 22 = .ok (.iload_n 3, 1) := by decide +kernel
theorem dX4_ticksUntilOneMayGo_23 : decode cX4_ticksUntilOneMayGo 23 = .ok (.invokevirtual 154, 3) := by decide +kernel
theorem dX4_ticksUntilOneMayGo_26 : decode cX4_ticksUntilOneMayGo 26 = .ok (.checkcast 84, 3) := by decide +kernel
theorem dX4_ticksUntilOneMayGo_29 : decode cX4_ticksUntilOneMayGo 29 = .ok (.aload_n 0, 1) := by decide +kernel
theorem dX4_ticksUntilOneMayGo_30 : decode cX4_ticksUntilOneMayGo 30 = .ok (.getfield 25, 3) := by decide +kernel
theorem dX4_ticksUntilOneMayGo_33 : decode cX4_ticksUntilOneMayGo 33 = .ok (.invokevirtual 234, 3) := by decide +kernel
theorem dX4_ticksUntilOneMayGo_36 : decode cX4_ticksUntilOneMayGo 36 = .ok (.invokestatic 238, 3) := by decide +kernel
theorem dX4_ticksUntilOneMayGo_39 : decode cX4_ticksUntilOneMayGo 39 = .ok (.lstore_n 1, 1) := by decide +kernel
theorem dX4_ticksUntilOneMayGo_40 : decode cX4_ticksUntilOneMayGo 40 = .ok (.iinc 3 1, 3) := by decide +kernel
theorem dX4_ticksUntilOneMayGo_43 : decode cX4_ticksUntilOneMayGo 43 = .ok (.goto (-37), 3) := by decide +kernel
theorem dX4_ticksUntilOneMayGo_46 : decode cX4_ticksUntilOneMayGo 46 = .ok (.lload_n 1, 1) := by decide +kernel
theorem dX4_ticksUntilOneMayGo_47 : decode cX4_ticksUntilOneMayGo 47 = .ok (.l2i, 1) := by decide +kernel
theorem dX4_ticksUntilOneMayGo_48 : decode cX4_ticksUntilOneMayGo 48 = .ok (.ireturn, 1) := by decide +kernel
set_option maxRecDepth 20000 in
theorem ggX4_passBusy_X4_pass : GoodIn wsX4_passBusy wsX4_pass := goodIn_r _ [6, 7, 8, 9, 10, 11, 12, 13, 14, 15, 16, 17, 18, 19, 20, 21, 22, 23, 24, 25, 26, 27, 28, 29, 30, 31, 32, 33, 34, 35, 36, 37, 38, 39, 40, 41, 42, 43, 44, 45, 46, 47, 48, 49, 50, 51, 52, 53, 54, 55, 56, 57, 58, 59, 60, 61, 62, 63, 64, 65, 66, 67, 68, 69, 70, 71, 72, 73, 74, 75, 76, 77, 78, 79, 80, 81, 82, 83, 84, 85, 86, 87, 88] (by decide +kernel) (by decide +kernel)
set_option maxRecDepth 20000 in
theorem gX4_passBusy_X4_pass : GoodIn wsX4_passBusy (wsV RX4 240 RX4 yX4_pass wsX4_pass) := goodIn_app (goodIn_of _ (by decide +kernel)) ggX4_passBusy_X4_pass
theorem dX4_passBusy_0 : decode cX4_passBusy 0 = .ok (.aload_n 0, 1) := by decide +kernel
theorem dX4_passBusy_1 : decode cX4_passBusy 1 = .ok (.dup, 1) := by decide +kernel
theorem dX4_passBusy_2 : decode cX4_passBusy 2 = .ok (.getfield 32, 3) := by decide +kernel
theorem dX4_passBusy_5 : decode cX4_passBusy 5 = .ok (.iload_n 1, 1) := by decide +kernel
theorem dX4_passBusy_6 : decode cX4_passBusy 6 = .ok (.iadd, 1) := by decide +kernel
theorem dX4_passBusy_7 : decode cX4_passBusy 7 = .ok (.putfield 32, 3) := by decide +kernel
theorem dX4_passBusy_10 : decode cX4_passBusy 10 = .ok (.aload_n 0, 1) := by decide +kernel
theorem dX4_passBusy_11 : decode cX4_passBusy 11 = .ok (.iload_n 1, 1) := by decide +kernel
theorem dX4_passBusy_12 : decode cX4_passBusy 12 = .ok (.invokevirtual 240, 3) := by decide +kernel
theorem dX4_passBusy_15 : decode cX4_passBusy 15 = .ok (.return_, 1) := by decide +kernel
set_option maxRecDepth 20000 in
theorem ggX4_passIdle_X4_countHeld : GoodIn wsX4_passIdle wsX4_countHeld := goodIn_r _ [5, 6, 7, 8, 9, 10, 11, 12, 13, 14, 15, 16, 17, 18, 19, 20, 21, 22, 23, 24, 25, 26, 27, 28, 29, 30, 31, 32, 33, 34, 35, 36, 37, 38, 39, 40, 41, 42, 43, 44, 45, 46, 47, 48, 49, 50, 51, 52, 73, 74, 75, 76, 77, 78, 79, 80, 81, 82, 83, 84, 85, 86, 87, 88, 89, 90, 91, 92, 93, 94, 95, 96, 97, 98, 99, 100, 101, 102, 103, 104, 105, 106, 107, 108, 109, 110, 111, 112, 113, 114, 115, 116, 117, 118, 119, 120] (by decide +kernel) (by decide +kernel)
set_option maxRecDepth 20000 in
theorem gX4_passIdle_X4_countHeld : GoodIn wsX4_passIdle (wsV RX4 195 RX4 yX4_countHeld wsX4_countHeld) := goodIn_app (goodIn_of _ (by decide +kernel)) ggX4_passIdle_X4_countHeld
set_option maxRecDepth 20000 in
theorem ggX4_passIdle_X4_pass : GoodIn wsX4_passIdle wsX4_pass := goodIn_r _ [56, 57, 58, 59, 6, 7, 60, 61, 62, 9, 10, 11, 12, 13, 14, 15, 16, 17, 18, 19, 20, 21, 22, 23, 24, 25, 26, 27, 28, 29, 30, 31, 63, 64, 65, 49, 66, 67, 51, 68, 69, 70, 71, 72, 73, 74, 75, 76, 77, 78, 79, 80, 81, 112, 113, 114, 115, 116, 117, 82, 83, 84, 85, 86, 87, 88, 89, 90, 91, 92, 93, 94, 95, 96, 97, 98, 99, 100, 101, 102, 118, 119, 120] (by decide +kernel) (by decide +kernel)
set_option maxRecDepth 20000 in
theorem gX4_passIdle_X4_pass : GoodIn wsX4_passIdle (wsV RX4 240 RX4 yX4_pass wsX4_pass) := goodIn_app (goodIn_of _ (by decide +kernel)) ggX4_passIdle_X4_pass
theorem dX4_passIdle_0 : decode cX4_passIdle 0 = .ok (.aload_n 0, 1) := by decide +kernel
theorem dX4_passIdle_1 : decode cX4_passIdle 1 = .ok (.iload_n 1, 1) := by decide +kernel
theorem dX4_passIdle_2 : decode cX4_passIdle 2 = .ok (.invokevirtual 195, 3) := by decide +kernel
theorem dX4_passIdle_5 : decode cX4_passIdle 5 = .ok (.aload_n 0, 1) := by decide +kernel
theorem dX4_passIdle_6 : decode cX4_passIdle 6 = .ok (.iload_n 1, 1) := by decide +kernel
theorem dX4_passIdle_7 : decode cX4_passIdle 7 = .ok (.invokevirtual 240, 3) := by decide +kernel
theorem dX4_passIdle_10 : decode cX4_passIdle 10 = .ok (.return_, 1) := by decide +kernel
set_option maxRecDepth 20000 in
theorem ggX4_countHeld_Jx4a65c_size_8abf5 : GoodIn wsX4_countHeld wsJx4a65c_size_8abf5 := goodIn_r _ [8, 9, 75, 76, 77] (by decide +kernel) (by decide +kernel)
set_option maxRecDepth 20000 in
theorem gX4_countHeld_Jx4a65c_size_8abf5 : GoodIn wsX4_countHeld (wsV RX4 42 RJx4a65c yJx4a65c_size_8abf5 wsJx4a65c_size_8abf5) := goodIn_app (goodIn_of _ (by decide +kernel)) ggX4_countHeld_Jx4a65c_size_8abf5
set_option maxRecDepth 20000 in
theorem ggX4_countHeld_Jx4a65c_get_915e3 : GoodIn wsX4_countHeld wsJx4a65c_get_915e3 := goodIn_r _ [13, 9, 14, 15, 16, 17, 18, 19, 20, 21, 22, 23, 24, 7, 25, 26, 75, 76, 77] (by decide +kernel) (by decide +kernel)
set_option maxRecDepth 20000 in
theorem gX4_countHeld_Jx4a65c_get_915e3 : GoodIn wsX4_countHeld (wsV RX4 154 RJx4a65c yJx4a65c_get_915e3 wsJx4a65c_get_915e3) := goodIn_app (goodIn_of _ (by decide +kernel)) ggX4_countHeld_Jx4a65c_get_915e3
set_option maxRecDepth 20000 in
theorem ggX4_countHeld_X2_isHeld : GoodIn wsX4_countHeld wsX2_isHeld := goodIn_r _ [31, 32, 33, 34, 35, 30, 36, 37, 38, 39, 40, 41, 42, 43, 44, 45, 46, 47, 57, 58, 59, 60, 61, 62, 63, 64, 65, 66, 67, 68, 69, 70, 71, 72, 73, 74, 78, 79, 80, 81, 82, 83, 84, 85, 86, 87, 88, 89, 90, 91, 92, 93, 94, 95] (by decide +kernel) (by decide +kernel)
set_option maxRecDepth 20000 in
theorem gX4_countHeld_X2_isHeld : GoodIn wsX4_countHeld (wsV RX4 243 RX2 yX2_isHeld wsX2_isHeld) := goodIn_app (goodIn_of _ (by decide +kernel)) ggX4_countHeld_X2_isHeld
theorem dX4_countHeld_0 : decode cX4_countHeld 0 = .ok (.iconst 0, 1) := by decide +kernel
theorem dX4_countHeld_1 : decode cX4_countHeld 1 = .ok (.istore_n 2, 1) := by decide +kernel
theorem dX4_countHeld_2 : decode cX4_countHeld 2 = .ok (.iload_n 2, 1) := by decide +kernel
theorem dX4_countHeld_3 : decode cX4_countHeld 3 = .ok (.aload_n 0, 1) := by decide +kernel
theorem dX4_countHeld_4 : decode cX4_countHeld 4 = .ok (.getfield 16, 3) := by decide +kernel
theorem dX4_countHeld_7 : decode cX4_countHeld 7 = .ok (.invokevirtual 42, 3) := by decide +kernel
theorem dX4_countHeld_10 : decode cX4_countHeld 10 = .ok (.if_icmp .ge 38, 3) := by decide +kernel
theorem dX4_countHeld_13 : decode cX4_countHeld 13 = .ok (.aload_n 0, 1) := by decide +kernel
theorem dX4_countHeld_14 : decode cX4_countHeld 14 = .ok (.getfield 16, 3) := by decide +kernel
theorem dX4_countHeld_17 : decode cX4_countHeld 17 = .ok (.iload_n 2, 1) := by decide +kernel
theorem dX4_countHeld_18 : decode cX4_countHeld 18 = .ok (.invokevirtual 154, 3) := by decide +kernel
theorem dX4_countHeld_21 : decode cX4_countHeld 21 = .ok (.checkcast 84, 3) := by decide +kernel
theorem dX4_countHeld_24 : decode cX4_countHeld 24 = .ok (.astore_n 3, 1) := by decide +kernel
theorem dX4_countHeld_25 : decode cX4_countHeld 25 = .ok (.aload_n 3, 1) := by decide +kernel
theorem dX4_countHeld_26 : decode cX4_countHeld 26 = .ok (.invokevirtual 243, 3) := by decide +kernel
theorem dX4_countHeld_29 : decode cX4_countHeld 29 = .ok (.ifCond .eq 13, 3) := by decide +kernel
theorem dX4_countHeld_32 : decode cX4_countHeld 32 = .ok (.aload_n 3, 1) := by decide +kernel
theorem dX4_countHeld_33 : decode cX4_countHeld 33 = .ok (.dup, 1) := by decide +kernel
theorem dX4_countHeld_34 : decode cX4_countHeld 34 = .ok (.getfield 246, 3) := by decide +kernel
theorem dX4_countHeld_37 : decode cX4_countHeld 37 = .ok (.iload_n 1, 1) := by decide +kernel
theorem dX4_countHeld_38 : decode cX4_countHeld 38 = .ok (.iadd, 1) := by decide +kernel
theorem dX4_countHeld_39 : decode cX4_countHeld 39 = .ok (.putfield 246, 3) := by decide +kernel
theorem dX4_countHeld_42 : decode cX4_countHeld 42 = .ok (.iinc 2 1, 3) := by decide +kernel
theorem dX4_countHeld_45 : decode cX4_countHeld 45 = .ok (.goto (-43), 3) := by decide +kernel
theorem dX4_countHeld_48 : decode cX4_countHeld 48 = .ok (.return_, 1) := by decide +kernel
set_option maxRecDepth 20000 in
theorem ggX4_pass_Jx4a65c_size_8abf5 : GoodIn wsX4_pass wsJx4a65c_size_8abf5 := goodIn_r _ [13, 14, 77, 78, 79] (by decide +kernel) (by decide +kernel)
set_option maxRecDepth 20000 in
theorem gX4_pass_Jx4a65c_size_8abf5 : GoodIn wsX4_pass (wsV RX4 42 RJx4a65c yJx4a65c_size_8abf5 wsJx4a65c_size_8abf5) := goodIn_app (goodIn_of _ (by decide +kernel)) ggX4_pass_Jx4a65c_size_8abf5
set_option maxRecDepth 20000 in
theorem ggX4_pass_Jx4a65c_get_915e3 : GoodIn wsX4_pass wsJx4a65c_get_915e3 := goodIn_r _ [18, 14, 19, 20, 21, 22, 23, 24, 25, 26, 27, 28, 29, 12, 30, 31, 77, 78, 79] (by decide +kernel) (by decide +kernel)
set_option maxRecDepth 20000 in
theorem gX4_pass_Jx4a65c_get_915e3 : GoodIn wsX4_pass (wsV RX4 154 RJx4a65c yJx4a65c_get_915e3 wsJx4a65c_get_915e3) := goodIn_app (goodIn_of _ (by decide +kernel)) ggX4_pass_Jx4a65c_get_915e3
set_option maxRecDepth 20000 in
theorem ggX4_pass_X0_fill : GoodIn wsX4_pass wsX0_fill := goodIn_r _ [36, 37, 38, 39, 40, 41, 42, 43, 80, 81, 82] (by decide +kernel) (by decide +kernel)
set_option maxRecDepth 20000 in
theorem gX4_pass_X0_fill : GoodIn wsX4_pass (wsV RX4 249 RX0 yX0_fill wsX0_fill) := goodIn_app (goodIn_of _ (by decide +kernel)) ggX4_pass_X0_fill
theorem dX4_pass_0 : decode cX4_pass 0 = .ok (.iconst 0, 1) := by decide +kernel
theorem dX4_pass_1 : decode cX4_pass 1 = .ok (.istore_n 2, 1) := by decide +kernel
theorem dX4_pass_2 : decode cX4_pass 2 = .ok (.iload_n 2, 1) := by decide +kernel
theorem dX4_pass_3 : decode cX4_pass 3 = .ok (.aload_n 0, 1) := by decide +kernel
theorem dX4_pass_4 : decode cX4_pass 4 = .ok (.getfield 10, 3) := by decide +kernel
theorem dX4_pass_7 : decode cX4_pass 7 = .ok (.invokevirtual 42, 3) := by decide +kernel
theorem dX4_pass_10 : decode cX4_pass 10 = .ok (.if_icmp .ge 27, 3) := by decide +kernel
theorem dX4_pass_13 : decode cX4_pass 13 = .ok (.aload_n 0, 1) := by decide +kernel
theorem dX4_pass_14 : decode cX4_pass 14 = .ok (.getfield 10, 3) := by decide +kernel
theorem dX4_pass_17 : decode cX4_pass 17 = .ok (.iload_n 2, 1) := by decide +kernel
theorem dX4_pass_18 : decode cX4_pass 18 = .ok (.invokevirtual 154, 3) := by decide +kernel
theorem dX4_pass_21 : decode cX4_pass 21 = .ok (.checkcast 54, 3) := by decide +kernel
theorem dX4_pass_24 : decode cX4_pass 24 = .ok (.getfield 169, 3) := by decide +kernel
theorem dX4_pass_27 : decode cX4_pass 27 = .ok (.iload_n 1, 1) := by decide +kernel
theorem dX4_pass_28 : decode cX4_pass 28 = .ok (.invokevirtual 249, 3) := by decide +kernel
theorem dX4_pass_31 : decode cX4_pass 31 = .ok (.iinc 2 1, 3) := by decide +kernel
theorem dX4_pass_34 : decode cX4_pass 34 = .ok (.goto (-32), 3) := by decide +kernel
theorem dX4_pass_37 : decode cX4_pass 37 = .ok (.iconst 0, 1) := by decide +kernel
theorem dX4_pass_38 : decode cX4_pass 38 = .ok (.istore_n 2, 1) := by decide +kernel
theorem dX4_pass_39 : decode cX4_pass 39 = .ok (.iload_n 2, 1) := by decide +kernel
theorem dX4_pass_40 : decode cX4_pass 40 = .ok (.aload_n 0, 1) := by decide +kernel
theorem dX4_pass_41 : decode cX4_pass 41 = .ok (.getfield 16, 3) := by decide +kernel
theorem dX4_pass_44 : decode cX4_pass 44 = .ok (.invokevirtual 42, 3) := by decide +kernel
theorem dX4_pass_47 : decode cX4_pass 47 = .ok (.if_icmp .ge 44, 3) := by decide +kernel
theorem dX4_pass_50 : decode cX4_pass 50 = .ok (.aload_n 0, 1) := by decide +kernel
theorem dX4_pass_51 : decode cX4_pass 51 = .ok (.getfield 16, 3) := by decide +kernel
theorem dX4_pass_54 : decode cX4_pass 54 = .ok (.iload_n 2, 1) := by decide +kernel
theorem dX4_pass_55 : decode cX4_pass 55 = .ok (.invokevirtual 154, 3) := by decide +kernel
theorem dX4_pass_58 : decode cX4_pass 58 = .ok (.checkcast 84, 3) := by decide +kernel
theorem dX4_pass_61 : decode cX4_pass 61 = .ok (.astore_n 3, 1) := by decide +kernel
theorem dX4_pass_62 : decode cX4_pass 62 = .ok (.aload_n 3, 1) := by decide +kernel
theorem dX4_pass_63 : decode cX4_pass 63 = .ok (.getfield 163, 3) := by decide +kernel
theorem dX4_pass_66 : decode cX4_pass 66 = .ok (.iload_n 1, 1) := by decide +kernel
theorem dX4_pass_67 : decode cX4_pass 67 = .ok (.invokevirtual 249, 3) := by decide +kernel
theorem dX4_pass_70 : decode cX4_pass 70 = .ok (.aload_n 3, 1) := by decide +kernel
theorem dX4_pass_71 : decode cX4_pass 71 = .ok (.getfield 94, 3) := by decide +kernel
theorem dX4_pass_74 : decode cX4_pass 74 = .ok (.ifnull 11, 3) := by decide +kernel
theorem dX4_pass_77 : decode cX4_pass 77 = .ok (.aload_n 3, 1) := by decide +kernel
theorem dX4_pass_78 : decode cX4_pass 78 = .ok (.getfield 94, 3) := by decide +kernel
theorem dX4_pass_81 : decode cX4_pass 81 = .ok (.iload_n 1, 1) := by decide +kernel
theorem dX4_pass_82 : decode cX4_pass 82 = .ok (.invokevirtual 249, 3) := by decide +kernel
theorem dX4_pass_85 : decode cX4_pass 85 = .ok (.iinc 2 1, 3) := by decide +kernel
theorem dX4_pass_88 : decode cX4_pass 88 = .ok (.goto (-49), 3) := by decide +kernel
theorem dX4_pass_91 : decode cX4_pass 91 = .ok (.aload_n 0, 1) := by decide +kernel
theorem dX4_pass_92 : decode cX4_pass 92 = .ok (.dup, 1) := by decide +kernel
theorem dX4_pass_93 : decode cX4_pass 93 = .ok (.getfield 25, 3) := by decide +kernel
theorem dX4_pass_96 : decode cX4_pass 96 = .ok (.iload_n 1, 1) := by decide +kernel
theorem dX4_pass_97 : decode cX4_pass 97 = .ok (.iadd, 1) := by decide +kernel
theorem dX4_pass_98 : decode cX4_pass 98 = .ok (.putfield 25, 3) := by decide +kernel
theorem dX4_pass_101 : decode cX4_pass 101 = .ok (.return_, 1) := by decide +kernel
theorem dX5_init_0 : decode cX5_init 0 = .ok (.aload_n 0, 1) := by decide +kernel
theorem dX5_init_1 : decode cX5_init 1 = .ok (.invokespecial 1, 3) := by decide +kernel
theorem dX5_init_4 : decode cX5_init 4 = .ok (.aload_n 0, 1) := by decide +kernel
theorem dX5_init_5 : decode cX5_init 5 = .ok (.iconst (-1), 1) := by decide +kernel
theorem dX5_init_6 : decode cX5_init 6 = .ok (.putfield 9, 3) := by decide +kernel
theorem dX5_init_9 : decode cX5_init 9 = .ok (.aload_n 0, 1) := by decide +kernel
theorem dX5_init_10 : decode cX5_init 10 = .ok (.iconst 4, 1) := by decide +kernel
theorem dX5_init_11 : decode cX5_init 11 = .ok (.newarray .int, 2) := by decide +kernel
theorem dX5_init_13 : decode cX5_init 13 = .ok (.putfield 13, 3) := by decide +kernel
theorem dX5_init_16 : decode cX5_init 16 = .ok (.aload_n 0, 1) := by decide +kernel
theorem dX5_init_17 : decode cX5_init 17 = .ok (.iconst 4, 1) := by decide +kernel
theorem dX5_init_18 : decode cX5_init 18 = .ok (.newarray .long, 2) := by decide +kernel
theorem dX5_init_20 : decode cX5_init 20 = .ok (.putfield 17, 3) := by decide +kernel
theorem dX5_init_23 : decode cX5_init 23 = .ok (.aload_n 0, 1) := by decide +kernel
theorem dX5_init_24 : decode cX5_init 24 = .ok (.iconst 4, 1) := by decide +kernel
theorem dX5_init_25 : decode cX5_init 25 = .ok (.newarray .long, 2) := by decide +kernel
theorem dX5_init_27 : decode cX5_init 27 = .ok (.putfield 21, 3) := by decide +kernel
theorem dX5_init_30 : decode cX5_init 30 = .ok (.aload_n 0, 1) := by decide +kernel
theorem dX5_init_31 : decode cX5_init 31 = .ok (.bipush 8, 2) := by decide +kernel
theorem dX5_init_33 : decode cX5_init 33 = .ok (.newarray .int, 2) := by decide +kernel
theorem dX5_init_35 : decode cX5_init 35 = .ok (.putfield 24, 3) := by decide +kernel
theorem dX5_init_38 : decode cX5_init 38 = .ok (.aload_n 0, 1) := by decide +kernel
theorem dX5_init_39 : decode cX5_init 39 = .ok (.bipush 8, 2) := by decide +kernel
theorem dX5_init_41 : decode cX5_init 41 = .ok (.newarray .int, 2) := by decide +kernel
theorem dX5_init_43 : decode cX5_init 43 = .ok (.putfield 27, 3) := by decide +kernel
theorem dX5_init_46 : decode cX5_init 46 = .ok (.aload_n 0, 1) := by decide +kernel
theorem dX5_init_47 : decode cX5_init 47 = .ok (.bipush 8, 2) := by decide +kernel
theorem dX5_init_49 : decode cX5_init 49 = .ok (.newarray .int, 2) := by decide +kernel
theorem dX5_init_51 : decode cX5_init 51 = .ok (.putfield 30, 3) := by decide +kernel
theorem dX5_init_54 : decode cX5_init 54 = .ok (.aload_n 0, 1) := by decide +kernel
theorem dX5_init_55 : decode cX5_init 55 = .ok (.bipush 8, 2) := by decide +kernel
theorem dX5_init_57 : decode cX5_init 57 = .ok (.newarray .int, 2) := by decide +kernel
theorem dX5_init_59 : decode cX5_init 59 = .ok (.putfield 33, 3) := by decide +kernel
theorem dX5_init_62 : decode cX5_init 62 = .ok (.aload_n 0, 1) := by decide +kernel
theorem dX5_init_63 : decode cX5_init 63 = .ok (.bipush 8, 2) := by decide +kernel
theorem dX5_init_65 : decode cX5_init 65 = .ok (.newarray .int, 2) := by decide +kernel
theorem dX5_init_67 : decode cX5_init 67 = .ok (.putfield 36, 3) := by decide +kernel
theorem dX5_init_70 : decode cX5_init 70 = .ok (.aload_n 0, 1) := by decide +kernel
theorem dX5_init_71 : decode cX5_init 71 = .ok (.bipush 8, 2) := by decide +kernel
theorem dX5_init_73 : decode cX5_init 73 = .ok (.newarray .int, 2) := by decide +kernel
theorem dX5_init_75 : decode cX5_init 75 = .ok (.putfield 39, 3) := by decide +kernel
theorem dX5_init_78 : decode cX5_init 78 = .ok (.aload_n 0, 1) := by decide +kernel
theorem dX5_init_79 : decode cX5_init 79 = .ok (.bipush 8, 2) := by decide +kernel
theorem dX5_init_81 : decode cX5_init 81 = .ok (.newarray .int, 2) := by decide +kernel
theorem dX5_init_83 : decode cX5_init 83 = .ok (.putfield 42, 3) := by decide +kernel
theorem dX5_init_86 : decode cX5_init 86 = .ok (.aload_n 0, 1) := by decide +kernel
theorem dX5_init_87 : decode cX5_init 87 = .ok (.bipush 8, 2) := by decide +kernel
theorem dX5_init_89 : decode cX5_init 89 = .ok (.newarray .int, 2) := by decide +kernel
theorem dX5_init_91 : decode cX5_init 91 = .ok (.putfield 45, 3) := by decide +kernel
theorem dX5_init_94 : decode cX5_init 94 = .ok (.aload_n 0, 1) := by decide +kernel
theorem dX5_init_95 : decode cX5_init 95 = .ok (.bipush 8, 2) := by decide +kernel
theorem dX5_init_97 : decode cX5_init 97 = .ok (.newarray .int, 2) := by decide +kernel
theorem dX5_init_99 : decode cX5_init 99 = .ok (.putfield 48, 3) := by decide +kernel
theorem dX5_init_102 : decode cX5_init 102 = .ok (.aload_n 0, 1) := by decide +kernel
theorem dX5_init_103 : decode cX5_init 103 = .ok (.bipush 8, 2) := by decide +kernel
theorem dX5_init_105 : decode cX5_init 105 = .ok (.newarray .int, 2) := by decide +kernel
theorem dX5_init_107 : decode cX5_init 107 = .ok (.putfield 51, 3) := by decide +kernel
theorem dX5_init_110 : decode cX5_init 110 = .ok (.aload_n 0, 1) := by decide +kernel
theorem dX5_init_111 : decode cX5_init 111 = .ok (.bipush 8, 2) := by decide +kernel
theorem dX5_init_113 : decode cX5_init 113 = .ok (.newarray .int, 2) := by decide +kernel
theorem dX5_init_115 : decode cX5_init 115 = .ok (.putfield 54, 3) := by decide +kernel
theorem dX5_init_118 : decode cX5_init 118 = .ok (.aload_n 0, 1) := by decide +kernel
theorem dX5_init_119 : decode cX5_init 119 = .ok (.bipush 8, 2) := by decide +kernel
theorem dX5_init_121 : decode cX5_init 121 = .ok (.newarray .int, 2) := by decide +kernel
theorem dX5_init_123 : decode cX5_init 123 = .ok (.putfield 57, 3) := by decide +kernel
theorem dX5_init_126 : decode cX5_init 126 = .ok (.aload_n 0, 1) := by decide +kernel
theorem dX5_init_127 : decode cX5_init 127 = .ok (.bipush 8, 2) := by decide +kernel
theorem dX5_init_129 : decode cX5_init 129 = .ok (.newarray .int, 2) := by decide +kernel
theorem dX5_init_131 : decode cX5_init 131 = .ok (.putfield 60, 3) := by decide +kernel
theorem dX5_init_134 : decode cX5_init 134 = .ok (.aload_n 0, 1) := by decide +kernel
theorem dX5_init_135 : decode cX5_init 135 = .ok (.bipush 8, 2) := by decide +kernel
theorem dX5_init_137 : decode cX5_init 137 = .ok (.newarray .int, 2) := by decide +kernel
theorem dX5_init_139 : decode cX5_init 139 = .ok (.putfield 63, 3) := by decide +kernel
theorem dX5_init_142 : decode cX5_init 142 = .ok (.aload_n 0, 1) := by decide +kernel
theorem dX5_init_143 : decode cX5_init 143 = .ok (.bipush 8, 2) := by decide +kernel
theorem dX5_init_145 : decode cX5_init 145 = .ok (.newarray .long, 2) := by decide +kernel
theorem dX5_init_147 : decode cX5_init 147 = .ok (.putfield 66, 3) := by decide +kernel
theorem dX5_init_150 : decode cX5_init 150 = .ok (.aload_n 0, 1) := by decide +kernel
theorem dX5_init_151 : decode cX5_init 151 = .ok (.bipush 8, 2) := by decide +kernel
theorem dX5_init_153 : decode cX5_init 153 = .ok (.newarray .boolean, 2) := by decide +kernel
theorem dX5_init_155 : decode cX5_init 155 = .ok (.putfield 69, 3) := by decide +kernel
theorem dX5_init_158 : decode cX5_init 158 = .ok (.aload_n 0, 1) := by decide +kernel
theorem dX5_init_159 : decode cX5_init 159 = .ok (.bipush 8, 2) := by decide +kernel
theorem dX5_init_161 : decode cX5_init 161 = .ok (.newarray .boolean, 2) := by decide +kernel
theorem dX5_init_163 : decode cX5_init 163 = .ok (.putfield 73, 3) := by decide +kernel
theorem dX5_init_166 : decode cX5_init 166 = .ok (.aload_n 0, 1) := by decide +kernel
theorem dX5_init_167 : decode cX5_init 167 = .ok (.bipush 20, 2) := by decide +kernel
theorem dX5_init_169 : decode cX5_init 169 = .ok (.newarray .int, 2) := by decide +kernel
theorem dX5_init_171 : decode cX5_init 171 = .ok (.putfield 76, 3) := by decide +kernel
theorem dX5_init_174 : decode cX5_init 174 = .ok (.aload_n 0, 1) := by decide +kernel
theorem dX5_init_175 : decode cX5_init 175 = .ok (.bipush 20, 2) := by decide +kernel
theorem dX5_init_177 : decode cX5_init 177 = .ok (.newarray .int, 2) := by decide +kernel
theorem dX5_init_179 : decode cX5_init 179 = .ok (.putfield 79, 3) := by decide +kernel
theorem dX5_init_182 : decode cX5_init 182 = .ok (.aload_n 0, 1) := by decide +kernel
theorem dX5_init_183 : decode cX5_init 183 = .ok (.bipush 20, 2) := by decide +kernel
theorem dX5_init_185 : decode cX5_init 185 = .ok (.newarray .long, 2) := by decide +kernel
theorem dX5_init_187 : decode cX5_init 187 = .ok (.putfield 82, 3) := by decide +kernel
theorem dX5_init_190 : decode cX5_init 190 = .ok (.aload_n 0, 1) := by decide +kernel
theorem dX5_init_191 : decode cX5_init 191 = .ok (.sipush 1000, 3) := by decide +kernel
theorem dX5_init_194 : decode cX5_init 194 = .ok (.newarray .int, 2) := by decide +kernel
theorem dX5_init_196 : decode cX5_init 196 = .ok (.putfield 85, 3) := by decide +kernel
theorem dX5_init_199 : decode cX5_init 199 = .ok (.aload_n 0, 1) := by decide +kernel
theorem dX5_init_200 : decode cX5_init 200 = .ok (.sipush 1000, 3) := by decide +kernel
theorem dX5_init_203 : decode cX5_init 203 = .ok (.newarray .int, 2) := by decide +kernel
theorem dX5_init_205 : decode cX5_init 205 = .ok (.putfield 88, 3) := by decide +kernel
theorem dX5_init_208 : decode cX5_init 208 = .ok (.aload_n 0, 1) := by decide +kernel
theorem dX5_init_209 : decode cX5_init 209 = .ok (.sipush 1000, 3) := by decide +kernel
theorem dX5_init_212 : decode cX5_init 212 = .ok (.newarray .int, 2) := by decide +kernel
theorem dX5_init_214 : decode cX5_init 214 = .ok (.putfield 91, 3) := by decide +kernel
theorem dX5_init_217 : decode cX5_init 217 = .ok (.aload_n 0, 1) := by decide +kernel
theorem dX5_init_218 : decode cX5_init 218 = .ok (.sipush 1000, 3) := by decide +kernel
theorem dX5_init_221 : decode cX5_init 221 = .ok (.newarray .int, 2) := by decide +kernel
theorem dX5_init_223 : decode cX5_init 223 = .ok (.putfield 94, 3) := by decide +kernel
theorem dX5_init_226 : decode cX5_init 226 = .ok (.aload_n 0, 1) := by decide +kernel
theorem dX5_init_227 : decode cX5_init 227 = .ok (.sipush 1000, 3) := by decide +kernel
theorem dX5_init_230 : decode cX5_init 230 = .ok (.newarray .int, 2) := by decide +kernel
theorem dX5_init_232 : decode cX5_init 232 = .ok (.putfield 97, 3) := by decide +kernel
theorem dX5_init_235 : decode cX5_init 235 = .ok (.aload_n 0, 1) := by decide +kernel
theorem dX5_init_236 : decode cX5_init 236 = .ok (.sipush 1000, 3) := by decide +kernel
theorem dX5_init_239 : decode cX5_init 239 = .ok (.newarray .int, 2) := by decide +kernel
theorem dX5_init_241 : decode cX5_init 241 = .ok (.putfield 100, 3) := by decide +kernel
theorem dX5_init_244 : decode cX5_init 244 = .ok (.aload_n 0, 1) := by decide +kernel
theorem dX5_init_245 : decode cX5_init 245 = .ok (.sipush 1000, 3) := by decide +kernel
theorem dX5_init_248 : decode cX5_init 248 = .ok (.newarray .int, 2) := by decide +kernel
theorem dX5_init_250 : decode cX5_init 250 = .ok (.putfield 103, 3) := by decide +kernel
theorem dX5_init_253 : decode cX5_init 253 = .ok (.aload_n 0, 1) := by decide +kernel
theorem dX5_init_254 : decode cX5_init 254 = .ok (.sipush 1000, 3) := by decide +kernel
theorem dX5_init_257 : decode cX5_init 257 = .ok (.newarray .int, 2) := by decide +kernel
theorem dX5_init_259 : decode cX5_init 259 = .ok (.putfield 106, 3) := by decide +kernel
theorem dX5_init_262 : decode cX5_init 262 = .ok (.aload_n 0, 1) := by decide +kernel
theorem dX5_init_263 : decode cX5_init 263 = .ok (.sipush 1000, 3) := by decide +kernel
theorem dX5_init_266 : decode cX5_init 266 = .ok (.newarray .boolean, 2) := by decide +kernel
theorem dX5_init_268 : decode cX5_init 268 = .ok (.putfield 109, 3) := by decide +kernel
theorem dX5_init_271 : decode cX5_init 271 = .ok (.return_, 1) := by decide +kernel
theorem dX5_in_0 : decode cX5_in 0 = .ok (.iload_n 0, 1) := by decide +kernel
theorem dX5_in_1 : decode cX5_in 1 = .ok (.iload_n 1, 1) := by decide +kernel
theorem dX5_in_2 : decode cX5_in 2 = .ok (.if_icmp .lt 12, 3) := by decide +kernel
theorem dX5_in_5 : decode cX5_in 5 = .ok (.iload_n 0, 1) := by decide +kernel
theorem dX5_in_6 : decode cX5_in 6 = .ok (.iload_n 2, 1) := by decide +kernel
theorem dX5_in_7 : decode cX5_in 7 = .ok (.if_icmp .gt 7, 3) := by decide +kernel
theorem dX5_in_10 : decode cX5_in 10 = .ok (.iconst 1, 1) := by decide +kernel
theorem dX5_in_11 : decode cX5_in 11 = .ok (.goto 4, 3) := by decide +kernel
theorem dX5_in_14 : decode cX5_in 14 = .ok (.iconst 0, 1) := by decide +kernel
theorem dX5_in_15 : decode cX5_in 15 = .ok (.ireturn, 1) := by decide +kernel
theorem dX5_fill_0 : decode cX5_fill 0 = .ok (.aload_n 0, 1) := by decide +kernel
theorem dX5_fill_1 : decode cX5_fill 1 = .ok (.getfield 76, 3) := by decide +kernel
theorem dX5_fill_4 : decode cX5_fill 4 = .ok (.iload_n 1, 1) := by decide +kernel
theorem dX5_fill_5 : decode cX5_fill 5 = .ok (.iload_n 2, 1) := by decide +kernel
theorem dX5_fill_6 : decode cX5_fill 6 = .ok (.iastore, 1) := by decide +kernel
theorem dX5_fill_7 : decode cX5_fill 7 = .ok (.aload_n 0, 1) := by decide +kernel
theorem dX5_fill_8 : decode cX5_fill 8 = .ok (.getfield 79, 3) := by decide +kernel
theorem dX5_fill_11 : decode cX5_fill 11 = .ok (.iload_n 1, 1) := by decide +kernel
theorem dX5_fill_12 : decode cX5_fill 12 = .ok (.iload_n 3, 1) := by decide +kernel
theorem dX5_fill_13 : decode cX5_fill 13 = .ok (.iastore, 1) := by decide +kernel
theorem dX5_fill_14 : decode cX5_fill 14 = .ok (.aload_n 0, 1) := by decide +kernel
theorem dX5_fill_15 : decode cX5_fill 15 = .ok (.getfield 82, 3) := by decide +kernel
theorem dX5_fill_18 : decode cX5_fill 18 = .ok (.iload_n 1, 1) := by decide +kernel
theorem dX5_fill_19 : decode cX5_fill 19 = .ok (.ldc2_w 115, 3) := by decide +kernel
theorem dX5_fill_22 : decode cX5_fill 22 = .ok (.iload_n 3, 1) := by decide +kernel
theorem dX5_fill_23 : decode cX5_fill 23 = .ok (.i2l, 1) := by decide +kernel
theorem dX5_fill_24 : decode cX5_fill 24 = .ok (.lmul, 1) := by decide +kernel
theorem dX5_fill_25 : decode cX5_fill 25 = .ok (.lastore, 1) := by decide +kernel
theorem dX5_fill_26 : decode cX5_fill 26 = .ok (.return_, 1) := by decide +kernel
set_option maxRecDepth 20000 in
theorem ggX5_group_X5_in : GoodIn wsX5_group wsX5_in := goodIn_r _ [6] (by decide +kernel) (by decide +kernel)
set_option maxRecDepth 20000 in
theorem gX5_group_X5_in : GoodIn wsX5_group (va_wsS RX5 120 yX5_in wsX5_in) := goodIn_app (goodIn_of _ (by decide +kernel)) ggX5_group_X5_in
set_option maxRecDepth 20000 in
theorem ggX5_group_X5_fill : GoodIn wsX5_group wsX5_fill := goodIn_r _ [10, 11, 12, 13, 14, 15, 16, 17, 18, 19, 20, 21, 22, 23, 24, 25, 26, 27, 28, 29, 30, 31, 32, 33, 34, 35, 36, 37, 38, 39, 40, 41, 42, 43, 44, 45, 46, 47, 48, 49, 50, 51, 52, 53, 54, 55, 56] (by decide +kernel) (by decide +kernel)
set_option maxRecDepth 20000 in
theorem gX5_group_X5_fill : GoodIn wsX5_group (wsV RX5 124 RX5 yX5_fill wsX5_fill) := goodIn_app (goodIn_of _ (by decide +kernel)) ggX5_group_X5_fill
theorem dX5_group_0 : decode cX5_group 0 = .ok (.aload_n 0, 1) := by decide +kernel
theorem dX5_group_1 : decode cX5_group 1 = .ok (.getfield 117, 3) := by decide +kernel
theorem dX5_group_4 : decode cX5_group 4 = .ok (.iconst 4, 1) := by decide +kernel
theorem dX5_group_5 : decode cX5_group 5 = .ok (.if_icmp .eq 37, 3) := by decide +kernel
theorem dX5_group_8 : decode cX5_group 8 = .ok (.iload_n 1, 1) := by decide +kernel
theorem dX5_group_9 : decode cX5_group 9 = .ok (.iconst 1, 1) := by decide +kernel
theorem dX5_group_10 : decode cX5_group 10 = .ok (.bipush 12, 2) := by decide +kernel
theorem dX5_group_12 : decode cX5_group 12 = .ok (.invokestatic 120, 3) := by decide +kernel
theorem dX5_group_15 : decode cX5_group 15 = .ok (.ifCond .eq 27, 3) := by decide +kernel
theorem dX5_group_18 : decode cX5_group 18 = .ok (.iload_n 2, 1) := by decide +kernel
theorem dX5_group_19 : decode cX5_group 19 = .ok (.iconst 0, 1) := by decide +kernel
theorem dX5_group_20 : decode cX5_group 20 = .ok (.sipush 1000, 3) := by decide +kernel
theorem dX5_group_23 : decode cX5_group 23 = .ok (.invokestatic 120, 3) := by decide +kernel
theorem dX5_group_26 : decode cX5_group 26 = .ok (.ifCond .eq 16, 3) := by decide +kernel
theorem dX5_group_29 : decode cX5_group 29 = .ok (.iload_n 3, 1) := by decide +kernel
theorem dX5_group_30 : decode cX5_group 30 = .ok (.sipush 1500, 3) := by decide +kernel
theorem dX5_group_33 : decode cX5_group 33 = .ok (.sipush 20000, 3) := by decide +kernel
theorem dX5_group_36 : decode cX5_group 36 = .ok (.invokestatic 120, 3) := by decide +kernel
theorem dX5_group_39 : decode cX5_group 39 = .ok (.ifCond .ne 5, 3) := by decide +kernel
theorem dX5_group_42 : decode cX5_group 42 = .ok (.iconst (-1), 1) := by decide +kernel
theorem dX5_group_43 : decode cX5_group 43 = .ok (.ireturn, 1) := by decide +kernel
theorem dX5_group_44 : decode cX5_group 44 = .ok (.aload_n 0, 1) := by decide +kernel
theorem dX5_group_45 : decode cX5_group 45 = .ok (.getfield 13, 3) := by decide +kernel
theorem dX5_group_48 : decode cX5_group 48 = .ok (.aload_n 0, 1) := by decide +kernel
theorem dX5_group_49 : decode cX5_group 49 = .ok (.getfield 117, 3) := by decide +kernel
theorem dX5_group_52 : decode cX5_group 52 = .ok (.iload_n 1, 1) := by decide +kernel
theorem dX5_group_53 : decode cX5_group 53 = .ok (.iastore, 1) := by decide +kernel
theorem dX5_group_54 : decode cX5_group 54 = .ok (.aload_n 0, 1) := by decide +kernel
theorem dX5_group_55 : decode cX5_group 55 = .ok (.bipush 8, 2) := by decide +kernel
theorem dX5_group_57 : decode cX5_group 57 = .ok (.aload_n 0, 1) := by decide +kernel
theorem dX5_group_58 : decode cX5_group 58 = .ok (.getfield 117, 3) := by decide +kernel
theorem dX5_group_61 : decode cX5_group 61 = .ok (.iadd, 1) := by decide +kernel
theorem dX5_group_62 : decode cX5_group 62 = .ok (.iload_n 2, 1) := by decide +kernel
theorem dX5_group_63 : decode cX5_group 63 = .ok (.iload_n 3, 1) := by decide +kernel
theorem dX5_group_64 : decode cX5_group 64 = .ok (.invokevirtual 124, 3) := by decide +kernel
theorem dX5_group_67 : decode cX5_group 67 = .ok (.aload_n 0, 1) := by decide +kernel
theorem dX5_group_68 : decode cX5_group 68 = .ok (.dup, 1) := by decide +kernel
theorem dX5_group_69 : decode cX5_group 69 = .ok (.getfield 117, 3) := by decide +kernel
theorem dX5_group_72 : decode cX5_group 72 = .ok (.iconst 1, 1) := by decide +kernel
theorem dX5_group_73 : decode cX5_group 73 = .ok (.iadd, 1) := by decide +kernel
theorem dX5_group_74 : decode cX5_group 74 = .ok (.putfield 117, 3) := by decide +kernel
theorem dX5_group_77 : decode cX5_group 77 = .ok (.aload_n 0, 1) := by decide +kernel
theorem dX5_group_78 : decode cX5_group 78 = .ok (.getfield 117, 3) := by decide +kernel
theorem dX5_group_81 : decode cX5_group 81 = .ok (.iconst 1, 1) := by decide +kernel
theorem dX5_group_82 : decode cX5_group 82 = .ok (.isub, 1) := by decide +kernel
theorem dX5_group_83 : decode cX5_group 83 = .ok (.ireturn, 1) := by decide +kernel
set_option maxRecDepth 20000 in
theorem ggX5_leaf_X5_in : GoodIn wsX5_leaf wsX5_in := goodIn_r _ [14] (by decide +kernel) (by decide +kernel)
set_option maxRecDepth 20000 in
theorem gX5_leaf_X5_in : GoodIn wsX5_leaf (va_wsS RX5 120 yX5_in wsX5_in) := goodIn_app (goodIn_of _ (by decide +kernel)) ggX5_leaf_X5_in
set_option maxRecDepth 20000 in
theorem ggX5_leaf_X5_fill : GoodIn wsX5_leaf wsX5_fill := goodIn_r _ [18, 6, 19, 20, 21, 22, 23, 24, 25, 26, 27, 28, 29, 30, 31, 32, 33, 34, 35, 36, 37, 38, 39, 40, 41, 42, 43, 44, 45, 46, 47, 48, 49, 50, 51, 52, 53, 54, 55, 56, 57, 58, 59, 60, 61, 62, 63] (by decide +kernel) (by decide +kernel)
set_option maxRecDepth 20000 in
theorem gX5_leaf_X5_fill : GoodIn wsX5_leaf (wsV RX5 124 RX5 yX5_fill wsX5_fill) := goodIn_app (goodIn_of _ (by decide +kernel)) ggX5_leaf_X5_fill
theorem dX5_leaf_0 : decode cX5_leaf 0 = .ok (.aload_n 0, 1) := by decide +kernel
theorem dX5_leaf_1 : decode cX5_leaf 1 = .ok (.getfield 128, 3) := by decide +kernel
theorem dX5_leaf_4 : decode cX5_leaf 4 = .ok (.bipush 8, 2) := by decide +kernel
theorem dX5_leaf_6 : decode cX5_leaf 6 = .ok (.if_icmp .eq 82, 3) := by decide +kernel
theorem dX5_leaf_9 : decode cX5_leaf 9 = .ok (.iload_n 1, 1) := by decide +kernel
theorem dX5_leaf_10 : decode cX5_leaf 10 = .ok (.iconst 0, 1) := by decide +kernel
theorem dX5_leaf_11 : decode cX5_leaf 11 = .ok (.aload_n 0, 1) := by decide +kernel
theorem dX5_leaf_12 : decode cX5_leaf 12 = .ok (.getfield 117, 3) := by decide +kernel
theorem dX5_leaf_15 : decode cX5_leaf 15 = .ok (.iconst 1, 1) := by decide +kernel
theorem dX5_leaf_16 : decode cX5_leaf 16 = .ok (.isub, 1) := by decide +kernel
theorem dX5_leaf_17 : decode cX5_leaf 17 = .ok (.invokestatic 120, 3) := by decide +kernel
theorem dX5_leaf_20 : decode cX5_leaf 20 = .ok (.ifCond .eq 68, 3) := by decide +kernel
theorem dX5_leaf_23 : decode cX5_leaf 23 = .ok (.iload_n 2, 1) := by decide +kernel
theorem dX5_leaf_24 : decode cX5_leaf 24 = .ok (.iconst 1, 1) := by decide +kernel
theorem dX5_leaf_25 : decode cX5_leaf 25 = .ok (.bipush 12, 2) := by decide +kernel
theorem dX5_leaf_27 : decode cX5_leaf 27 = .ok (.invokestatic 120, 3) := by decide +kernel
theorem dX5_leaf_30 : decode cX5_leaf 30 = .ok (.ifCond .eq 58, 3) := by decide +kernel
theorem dX5_leaf_33 : decode cX5_leaf 33 = .ok (.iload_n 3, 1) := by decide +kernel
theorem dX5_leaf_34 : decode cX5_leaf 34 = .ok (.ifCond .eq 15, 3) := by decide +kernel
theorem dX5_leaf_37 : decode cX5_leaf 37 = .ok (.iload_n 3, 1) := by decide +kernel
theorem dX5_leaf_38 : decode cX5_leaf 38 = .ok (.bipush 10, 2) := by decide +kernel
theorem dX5_leaf_40 : decode cX5_leaf 40 = .ok (.sipush 1000, 3) := by decide +kernel
theorem dX5_leaf_43 : decode cX5_leaf 43 = .ok (.invokestatic 120, 3) := by decide +kernel
theorem dX5_leaf_46 : decode cX5_leaf 46 = .ok (.ifCond .eq 42, 3) := by decide +kernel
theorem dX5_leaf_49 : decode cX5_leaf 49 = .ok (.iload 4, 2) := by decide +kernel
theorem dX5_leaf_51 : decode cX5_leaf 51 = .ok (.iload_n 3, 1) := by decide +kernel
theorem dX5_leaf_52 : decode cX5_leaf 52 = .ok (.sipush 1000, 3) := by decide +kernel
theorem dX5_leaf_55 : decode cX5_leaf 55 = .ok (.invokestatic 120, 3) := by decide +kernel
theorem dX5_leaf_58 : decode cX5_leaf 58 = .ok (.ifCond .eq 30, 3) := by decide +kernel
theorem dX5_leaf_61 : decode cX5_leaf 61 = .ok (.iload 5, 2) := by decide +kernel
theorem dX5_leaf_63 : decode cX5_leaf 63 = .ok (.sipush 1500, 3) := by decide +kernel
theorem dX5_leaf_66 : decode cX5_leaf 66 = .ok (.sipush 20000, 3) := by decide +kernel
theorem dX5_leaf_69 : decode cX5_leaf 69 = .ok (.invokestatic 120, 3) := by decide +kernel
theorem dX5_leaf_72 : decode cX5_leaf 72 = .ok (.ifCond .eq 16, 3) := by decide +kernel
theorem dX5_leaf_75 : decode cX5_leaf 75 = .ok (.iload 6, 2) := by decide +kernel
theorem dX5_leaf_77 : decode cX5_leaf 77 = .ok (.sipush 1500, 3) := by decide +kernel
theorem dX5_leaf_80 : decode cX5_leaf 80 = .ok (.ldc 131, 2) := by decide +kernel
theorem dX5_leaf_82 : decode cX5_leaf 82 = .ok (.invokestatic 120, 3) := by decide +kernel
theorem dX5_leaf_85 : decode cX5_leaf 85 = .ok (.ifCond .ne 5, 3) := by decide +kernel
theorem dX5_leaf_88 : decode cX5_leaf 88 = .ok (.iconst (-1), 1) := by decide +kernel
theorem dX5_leaf_89 : decode cX5_leaf 89 = .ok (.ireturn, 1) := by decide +kernel
theorem dX5_leaf_90 : decode cX5_leaf 90 = .ok (.iload_n 3, 1) := by decide +kernel
theorem dX5_leaf_91 : decode cX5_leaf 91 = .ok (.istore 7, 2) := by decide +kernel
theorem dX5_leaf_93 : decode cX5_leaf 93 = .ok (.iload_n 3, 1) := by decide +kernel
theorem dX5_leaf_94 : decode cX5_leaf 94 = .ok (.istore 8, 2) := by decide +kernel
theorem dX5_leaf_96 : decode cX5_leaf 96 = .ok (.iconst 0, 1) := by decide +kernel
theorem dX5_leaf_97 : decode cX5_leaf 97 = .ok (.istore 9, 2) := by decide +kernel
theorem dX5_leaf_99 : decode cX5_leaf 99 = .ok (.iload 9, 2) := by decide +kernel
theorem dX5_leaf_101 : decode cX5_leaf 101 = .ok (.aload_n 0, 1) := by decide +kernel
theorem dX5_leaf_102 : decode cX5_leaf 102 = .ok (.getfield 128, 3) := by decide +kernel
theorem dX5_leaf_105 : decode cX5_leaf 105 = .ok (.if_icmp .ge 48, 3) := by decide +kernel
theorem dX5_leaf_108 : decode cX5_leaf 108 = .ok (.iload 7, 2) := by decide +kernel
theorem dX5_leaf_110 : decode cX5_leaf 110 = .ok (.aload_n 0, 1) := by decide +kernel
theorem dX5_leaf_111 : decode cX5_leaf 111 = .ok (.getfield 30, 3) := by decide +kernel
theorem dX5_leaf_114 : decode cX5_leaf 114 = .ok (.iload 9, 2) := by decide +kernel
theorem dX5_leaf_116 : decode cX5_leaf 116 = .ok (.iaload, 1) := by decide +kernel
theorem dX5_leaf_117 : decode cX5_leaf 117 = .ok (.iadd, 1) := by decide +kernel
theorem dX5_leaf_118 : decode cX5_leaf 118 = .ok (.istore 7, 2) := by decide +kernel
theorem dX5_leaf_120 : decode cX5_leaf 120 = .ok (.iload 8, 2) := by decide +kernel
theorem dX5_leaf_122 : decode cX5_leaf 122 = .ok (.aload_n 0, 1) := by decide +kernel
theorem dX5_leaf_123 : decode cX5_leaf 123 = .ok (.getfield 24, 3) := by decide +kernel
theorem dX5_leaf_126 : decode cX5_leaf 126 = .ok (.iload 9, 2) := by decide +kernel
theorem dX5_leaf_128 : decode cX5_leaf 128 = .ok (.iaload, 1) := by decide +kernel
theorem dX5_leaf_129 : decode cX5_leaf 129 = .ok (.iload_n 1, 1) := by decide +kernel
theorem dX5_leaf_130 : decode cX5_leaf 130 = .ok (.if_icmp .ne 13, 3) := by decide +kernel
theorem dX5_leaf_133 : decode cX5_leaf 133 = .ok (.aload_n 0, 1) := by decide +kernel
theorem dX5_leaf_134 : decode cX5_leaf 134 = .ok (.getfield 30, 3) := by decide +kernel
theorem dX5_leaf_137 : decode cX5_leaf 137 = .ok (.iload 9, 2) := by decide +kernel
theorem dX5_leaf_139 : decode cX5_leaf 139 = .ok (.iaload, 1) := by decide +kernel
theorem dX5_leaf_140 : decode cX5_leaf 140 = .ok (.goto 4, 3) := by decide +kernel
theorem dX5_leaf_143 : decode cX5_leaf 143 = .ok (.iconst 0, 1) := by decide +kernel
theorem dX5_leaf_144 : decode cX5_leaf 144 = .ok (.iadd, 1) := by decide +kernel
theorem dX5_leaf_145 : decode cX5_leaf 145 = .ok (.istore 8, 2) := by decide +kernel
theorem dX5_leaf_147 : decode cX5_leaf 147 = .ok (.iinc 9 1, 3) := by decide +kernel
theorem dX5_leaf_150 : decode cX5_leaf 150 = .ok (.goto (-51), 3) := by decide +kernel
theorem dX5_leaf_153 : decode cX5_leaf 153 = .ok (.iload 7, 2) := by decide +kernel
theorem dX5_leaf_155 : decode cX5_leaf 155 = .ok (.sipush 1000, 3) := by decide +kernel
theorem dX5_leaf_158 : decode cX5_leaf 158 = .ok (.if_icmp .gt 17, 3) := by decide +kernel
theorem dX5_leaf_161 : decode cX5_leaf 161 = .ok (.iload 8, 2) := by decide +kernel
theorem dX5_leaf_163 : decode cX5_leaf 163 = .ok (.aload_n 0, 1) := by decide +kernel
theorem dX5_leaf_164 : decode cX5_leaf 164 = .ok (.getfield 76, 3) := by decide +kernel
theorem dX5_leaf_167 : decode cX5_leaf 167 = .ok (.bipush 8, 2) := by decide +kernel
theorem dX5_leaf_169 : decode cX5_leaf 169 = .ok (.iload_n 1, 1) := by decide +kernel
theorem dX5_leaf_170 : decode cX5_leaf 170 = .ok (.iadd, 1) := by decide +kernel
theorem dX5_leaf_171 : decode cX5_leaf 171 = .ok (.iaload, 1) := by decide +kernel
theorem dX5_leaf_172 : decode cX5_leaf 172 = .ok (.if_icmp .le 5, 3) := by decide +kernel
theorem dX5_leaf_175 : decode cX5_leaf 175 = .ok (.iconst (-1), 1) := by decide +kernel
theorem dX5_leaf_176 : decode cX5_leaf 176 = .ok (.ireturn, 1) := by decide +kernel
theorem dX5_leaf_177 : decode cX5_leaf 177 = .ok (.aload_n 0, 1) := by decide +kernel
theorem dX5_leaf_178 : decode cX5_leaf 178 = .ok (.getfield 128, 3) := by decide +kernel
theorem dX5_leaf_181 : decode cX5_leaf 181 = .ok (.istore 9, 2) := by decide +kernel
theorem dX5_leaf_183 : decode cX5_leaf 183 = .ok (.aload_n 0, 1) := by decide +kernel
theorem dX5_leaf_184 : decode cX5_leaf 184 = .ok (.getfield 24, 3) := by decide +kernel
theorem dX5_leaf_187 : decode cX5_leaf 187 = .ok (.iload 9, 2) := by decide +kernel
theorem dX5_leaf_189 : decode cX5_leaf 189 = .ok (.iload_n 1, 1) := by decide +kernel
theorem dX5_leaf_190 : decode cX5_leaf 190 = .ok (.iastore, 1) := by decide +kernel
theorem dX5_leaf_191 : decode cX5_leaf 191 = .ok (.aload_n 0, 1) := by decide +kernel
theorem dX5_leaf_192 : decode cX5_leaf 192 = .ok (.getfield 27, 3) := by decide +kernel
theorem dX5_leaf_195 : decode cX5_leaf 195 = .ok (.iload 9, 2) := by decide +kernel
theorem dX5_leaf_197 : decode cX5_leaf 197 = .ok (.iload_n 2, 1) := by decide +kernel
theorem dX5_leaf_198 : decode cX5_leaf 198 = .ok (.iastore, 1) := by decide +kernel
theorem dX5_leaf_199 : decode cX5_leaf 199 = .ok (.aload_n 0, 1) := by decide +kernel
theorem dX5_leaf_200 : decode cX5_leaf 200 = .ok (.getfield 30, 3) := by decide +kernel
theorem dX5_leaf_203 : decode cX5_leaf 203 = .ok (.iload 9, 2) := by decide +kernel
theorem dX5_leaf_205 : decode cX5_leaf 205 = .ok (.iload_n 3, 1) := by decide +kernel
theorem dX5_leaf_206 : decode cX5_leaf 206 = .ok (.iastore, 1) := by decide +kernel
theorem dX5_leaf_207 : decode cX5_leaf 207 = .ok (.aload_n 0, 1) := by decide +kernel
theorem dX5_leaf_208 : decode cX5_leaf 208 = .ok (.getfield 33, 3) := by decide +kernel
theorem dX5_leaf_211 : decode cX5_leaf 211 = .ok (.iload 9, 2) := by decide +kernel
theorem dX5_leaf_213 : decode cX5_leaf 213 = .ok (.iload 6, 2) := by decide +kernel
theorem dX5_leaf_215 : decode cX5_leaf 215 = .ok (.iastore, 1) := by decide +kernel
theorem dX5_leaf_216 : decode cX5_leaf 216 = .ok (.aload_n 0, 1) := by decide +kernel
theorem dX5_leaf_217 : decode cX5_leaf 217 = .ok (.getfield 36, 3) := by decide +kernel
theorem dX5_leaf_220 : decode cX5_leaf 220 = .ok (.iload 9, 2) := by decide +kernel
theorem dX5_leaf_222 : decode cX5_leaf 222 = .ok (.iconst (-1), 1) := by decide +kernel
theorem dX5_leaf_223 : decode cX5_leaf 223 = .ok (.iastore, 1) := by decide +kernel
theorem dX5_leaf_224 : decode cX5_leaf 224 = .ok (.aload_n 0, 1) := by decide +kernel
theorem dX5_leaf_225 : decode cX5_leaf 225 = .ok (.getfield 39, 3) := by decide +kernel
theorem dX5_leaf_228 : decode cX5_leaf 228 = .ok (.iload 9, 2) := by decide +kernel
theorem dX5_leaf_230 : decode cX5_leaf 230 = .ok (.iconst (-1), 1) := by decide +kernel
theorem dX5_leaf_231 : decode cX5_leaf 231 = .ok (.iastore, 1) := by decide +kernel
theorem dX5_leaf_232 : decode cX5_leaf 232 = .ok (.aload_n 0, 1) := by decide +kernel
theorem dX5_leaf_233 : decode cX5_leaf 233 = .ok (.iload 9, 2) := by decide +kernel
theorem dX5_leaf_235 : decode cX5_leaf 235 = .ok (.iload 4, 2) := by decide +kernel
theorem dX5_leaf_237 : decode cX5_leaf 237 = .ok (.iload 5, 2) := by decide +kernel
theorem dX5_leaf_239 : decode cX5_leaf 239 = .ok (.invokevirtual 124, 3) := by decide +kernel
theorem dX5_leaf_242 : decode cX5_leaf 242 = .ok (.aload_n 0, 1) := by decide +kernel
theorem dX5_leaf_243 : decode cX5_leaf 243 = .ok (.dup, 1) := by decide +kernel
theorem dX5_leaf_244 : decode cX5_leaf 244 = .ok (.getfield 128, 3) := by decide +kernel
theorem dX5_leaf_247 : decode cX5_leaf 247 = .ok (.iconst 1, 1) := by decide +kernel
theorem dX5_leaf_248 : decode cX5_leaf 248 = .ok (.iadd, 1) := by decide +kernel
theorem dX5_leaf_249 : decode cX5_leaf 249 = .ok (.putfield 128, 3) := by decide +kernel
theorem dX5_leaf_252 : decode cX5_leaf 252 = .ok (.iload 9, 2) := by decide +kernel
theorem dX5_leaf_254 : decode cX5_leaf 254 = .ok (.ireturn, 1) := by decide +kernel
set_option maxRecDepth 20000 in
theorem ggX5_police_X5_in : GoodIn wsX5_police wsX5_in := goodIn_r _ [7] (by decide +kernel) (by decide +kernel)
set_option maxRecDepth 20000 in
theorem gX5_police_X5_in : GoodIn wsX5_police (va_wsS RX5 120 yX5_in wsX5_in) := goodIn_app (goodIn_of _ (by decide +kernel)) ggX5_police_X5_in
set_option maxRecDepth 20000 in
theorem ggX5_police_X5_fill : GoodIn wsX5_police wsX5_fill := goodIn_r _ [11, 12, 13, 14, 15, 16, 17, 18, 19, 20, 21, 22, 23, 24, 25, 26, 27, 28, 29, 30, 31, 32, 33, 34, 35, 36, 37, 38, 39, 40, 41, 42, 43, 44, 45, 46, 47, 48, 49, 50, 51, 52, 53, 54, 55, 56, 57] (by decide +kernel) (by decide +kernel)
set_option maxRecDepth 20000 in
theorem gX5_police_X5_fill : GoodIn wsX5_police (wsV RX5 124 RX5 yX5_fill wsX5_fill) := goodIn_app (goodIn_of _ (by decide +kernel)) ggX5_police_X5_fill
theorem dX5_police_0 : decode cX5_police 0 = .ok (.iload_n 1, 1) := by decide +kernel
theorem dX5_police_1 : decode cX5_police 1 = .ok (.iconst 0, 1) := by decide +kernel
theorem dX5_police_2 : decode cX5_police 2 = .ok (.aload_n 0, 1) := by decide +kernel
theorem dX5_police_3 : decode cX5_police 3 = .ok (.getfield 128, 3) := by decide +kernel
theorem dX5_police_6 : decode cX5_police 6 = .ok (.iconst 1, 1) := by decide +kernel
theorem dX5_police_7 : decode cX5_police 7 = .ok (.isub, 1) := by decide +kernel
theorem dX5_police_8 : decode cX5_police 8 = .ok (.invokestatic 120, 3) := by decide +kernel
theorem dX5_police_11 : decode cX5_police 11 = .ok (.ifCond .eq 25, 3) := by decide +kernel
theorem dX5_police_14 : decode cX5_police 14 = .ok (.iload_n 2, 1) := by decide +kernel
theorem dX5_police_15 : decode cX5_police 15 = .ok (.iconst 0, 1) := by decide +kernel
theorem dX5_police_16 : decode cX5_police 16 = .ok (.sipush 1000, 3) := by decide +kernel
theorem dX5_police_19 : decode cX5_police 19 = .ok (.invokestatic 120, 3) := by decide +kernel
theorem dX5_police_22 : decode cX5_police 22 = .ok (.ifCond .eq 14, 3) := by decide +kernel
theorem dX5_police_25 : decode cX5_police 25 = .ok (.iload_n 3, 1) := by decide +kernel
theorem dX5_police_26 : decode cX5_police 26 = .ok (.iconst 0, 1) := by decide +kernel
theorem dX5_police_27 : decode cX5_police 27 = .ok (.sipush 20000, 3) := by decide +kernel
theorem dX5_police_30 : decode cX5_police 30 = .ok (.invokestatic 120, 3) := by decide +kernel
theorem dX5_police_33 : decode cX5_police 33 = .ok (.ifCond .ne 5, 3) := by decide +kernel
theorem dX5_police_36 : decode cX5_police 36 = .ok (.iconst 0, 1) := by decide +kernel
theorem dX5_police_37 : decode cX5_police 37 = .ok (.ireturn, 1) := by decide +kernel
theorem dX5_police_38 : decode cX5_police 38 = .ok (.aload_n 0, 1) := by decide +kernel
theorem dX5_police_39 : decode cX5_police 39 = .ok (.getfield 69, 3) := by decide +kernel
theorem dX5_police_42 : decode cX5_police 42 = .ok (.iload_n 1, 1) := by decide +kernel
theorem dX5_police_43 : decode cX5_police 43 = .ok (.iconst 1, 1) := by decide +kernel
theorem dX5_police_44 : decode cX5_police 44 = .ok (.bastore, 1) := by decide +kernel
theorem dX5_police_45 : decode cX5_police 45 = .ok (.aload_n 0, 1) := by decide +kernel
theorem dX5_police_46 : decode cX5_police 46 = .ok (.getfield 73, 3) := by decide +kernel
theorem dX5_police_49 : decode cX5_police 49 = .ok (.iload_n 1, 1) := by decide +kernel
theorem dX5_police_50 : decode cX5_police 50 = .ok (.iload 4, 2) := by decide +kernel
theorem dX5_police_52 : decode cX5_police 52 = .ok (.bastore, 1) := by decide +kernel
theorem dX5_police_53 : decode cX5_police 53 = .ok (.aload_n 0, 1) := by decide +kernel
theorem dX5_police_54 : decode cX5_police 54 = .ok (.bipush 12, 2) := by decide +kernel
theorem dX5_police_56 : decode cX5_police 56 = .ok (.iload_n 1, 1) := by decide +kernel
theorem dX5_police_57 : decode cX5_police 57 = .ok (.iadd, 1) := by decide +kernel
theorem dX5_police_58 : decode cX5_police 58 = .ok (.iload_n 2, 1) := by decide +kernel
theorem dX5_police_59 : decode cX5_police 59 = .ok (.iload_n 3, 1) := by decide +kernel
theorem dX5_police_60 : decode cX5_police 60 = .ok (.invokevirtual 124, 3) := by decide +kernel
theorem dX5_police_63 : decode cX5_police 63 = .ok (.iconst 1, 1) := by decide +kernel
theorem dX5_police_64 : decode cX5_police 64 = .ok (.ireturn, 1) := by decide +kernel
set_option maxRecDepth 20000 in
theorem ggX5_arrive_X5_in : GoodIn wsX5_arrive wsX5_in := goodIn_r _ [31] (by decide +kernel) (by decide +kernel)
set_option maxRecDepth 20000 in
theorem gX5_arrive_X5_in : GoodIn wsX5_arrive (va_wsS RX5 120 yX5_in wsX5_in) := goodIn_app (goodIn_of _ (by decide +kernel)) ggX5_arrive_X5_in
theorem dX5_arrive_0 : decode cX5_arrive 0 = .ok (.iload_n 1, 1) := by decide +kernel
theorem dX5_arrive_1 : decode cX5_arrive 1 = .ok (.iconst 0, 1) := by decide +kernel
theorem dX5_arrive_2 : decode cX5_arrive 2 = .ok (.aload_n 0, 1) := by decide +kernel
theorem dX5_arrive_3 : decode cX5_arrive 3 = .ok (.getfield 128, 3) := by decide +kernel
theorem dX5_arrive_6 : decode cX5_arrive 6 = .ok (.iconst 1, 1) := by decide +kernel
theorem dX5_arrive_7 : decode cX5_arrive 7 = .ok (.isub, 1) := by decide +kernel
theorem dX5_arrive_8 : decode cX5_arrive 8 = .ok (.invokestatic 120, 3) := by decide +kernel
theorem dX5_arrive_11 : decode cX5_arrive 11 = .ok (.ifCond .eq 25, 3) := by decide +kernel
theorem dX5_arrive_14 : decode cX5_arrive 14 = .ok (.iload_n 2, 1) := by decide +kernel
theorem dX5_arrive_15 : decode cX5_arrive 15 = .ok (.bipush 64, 2) := by decide +kernel
theorem dX5_arrive_17 : decode cX5_arrive 17 = .ok (.sipush 1500, 3) := by decide +kernel
theorem dX5_arrive_20 : decode cX5_arrive 20 = .ok (.invokestatic 120, 3) := by decide +kernel
theorem dX5_arrive_23 : decode cX5_arrive 23 = .ok (.ifCond .eq 13, 3) := by decide +kernel
theorem dX5_arrive_26 : decode cX5_arrive 26 = .ok (.aload_n 0, 1) := by decide +kernel
theorem dX5_arrive_27 : decode cX5_arrive 27 = .ok (.getfield 132, 3) := by decide +kernel
theorem dX5_arrive_30 : decode cX5_arrive 30 = .ok (.sipush 1000, 3) := by decide +kernel
theorem dX5_arrive_33 : decode cX5_arrive 33 = .ok (.if_icmp .ne 5, 3) := by decide +kernel
theorem dX5_arrive_36 : decode cX5_arrive 36 = .ok (.iconst (-1), 1) := by decide +kernel
theorem dX5_arrive_37 : decode cX5_arrive 37 = .ok (.ireturn, 1) := by decide +kernel
theorem dX5_arrive_38 : decode cX5_arrive 38 = .ok (.iconst 0, 1) := by decide +kernel
theorem dX5_arrive_39 : decode cX5_arrive 39 = .ok (.istore_n 3, 1) := by decide +kernel
theorem dX5_arrive_40 : decode cX5_arrive 40 = .ok (.aload_n 0, 1) := by decide +kernel
theorem dX5_arrive_41 : decode cX5_arrive 41 = .ok (.getfield 69, 3) := by decide +kernel
theorem dX5_arrive_44 : decode cX5_arrive 44 = .ok (.iload_n 1, 1) := by decide +kernel
theorem dX5_arrive_45 : decode cX5_arrive 45 = .ok (.baload, 1) := by decide +kernel
theorem dX5_arrive_46 : decode cX5_arrive 46 = .ok (.ifCond .eq 70, 3) := by decide +kernel
theorem dX5_arrive_49 : decode cX5_arrive 49 = .ok (.aload_n 0, 1) := by decide +kernel
theorem dX5_arrive_50 : decode cX5_arrive 50 = .ok (.getfield 82, 3) := by decide +kernel
theorem dX5_arrive_53 : decode cX5_arrive 53 = .ok (.bipush 12, 2) := by decide +kernel
theorem dX5_arrive_55 : decode cX5_arrive 55 = .ok (.iload_n 1, 1) := by decide +kernel
theorem dX5_arrive_56 : decode cX5_arrive 56 = .ok (.iadd, 1) := by decide +kernel
theorem dX5_arrive_57 : decode cX5_arrive 57 = .ok (.laload, 1) := by decide +kernel
theorem dX5_arrive_58 : decode cX5_arrive 58 = .ok (.ldc2_w 115, 3) := by decide +kernel
theorem dX5_arrive_61 : decode cX5_arrive 61 = .ok (.iload_n 2, 1) := by decide +kernel
theorem dX5_arrive_62 : decode cX5_arrive 62 = .ok (.i2l, 1) := by decide +kernel
theorem dX5_arrive_63 : decode cX5_arrive 63 = .ok (.lmul, 1) := by decide +kernel
theorem dX5_arrive_64 : decode cX5_arrive 64 = .ok (.lcmp, 1) := by decide +kernel
theorem dX5_arrive_65 : decode cX5_arrive 65 = .ok (.ifCond .lt 24, 3) := by decide +kernel
theorem dX5_arrive_68 : decode cX5_arrive 68 = .ok (.aload_n 0, 1) := by decide +kernel
theorem dX5_arrive_69 : decode cX5_arrive 69 = .ok (.getfield 82, 3) := by decide +kernel
theorem dX5_arrive_72 : decode cX5_arrive 72 = .ok (.bipush 12, 2) := by decide +kernel
theorem dX5_arrive_74 : decode cX5_arrive 74 = .ok (.iload_n 1, 1) := by decide +kernel
theorem dX5_arrive_75 : decode cX5_arrive 75 = .ok (.iadd, 1) := by decide +kernel
theorem dX5_arrive_76 : decode cX5_arrive 76 = .ok (.dup2, 1) := by decide +kernel
theorem dX5_arrive_77 : decode cX5_arrive 77 = .ok (.laload, 1) := by decide +kernel
theorem dX5_arrive_78 : decode cX5_arrive 78 = .ok (.ldc2_w 115, 3) := by decide +kernel
theorem dX5_arrive_81 : decode cX5_arrive 81 = .ok (.iload_n 2, 1) := by decide +kernel
theorem dX5_arrive_82 : decode cX5_arrive 82 = .ok (.i2l, 1) := by decide +kernel
theorem dX5_arrive_83 : decode cX5_arrive 83 = .ok (.lmul, 1) := by decide +kernel
theorem dX5_arrive_84 : decode cX5_arrive 84 = .ok (.lsub, 1) := by decide +kernel
theorem dX5_arrive_85 : decode cX5_arrive 85 = .ok (.lastore, 1) := by decide +kernel
theorem dX5_arrive_86 : decode cX5_arrive 86 = .ok (.goto 30, 3) := by decide +kernel
theorem dX5_arrive_89 : decode cX5_arrive 89 = .ok (.aload_n 0, 1) := by decide +kernel
theorem dX5_arrive_90 : decode cX5_arrive 90 = .ok (.getfield 73, 3) := by decide +kernel
theorem dX5_arrive_93 : decode cX5_arrive 93 = .ok (.iload_n 1, 1) := by decide +kernel
theorem dX5_arrive_94 : decode cX5_arrive 94 = .ok (.baload, 1) := by decide +kernel
theorem dX5_arrive_95 : decode cX5_arrive 95 = .ok (.ifCond .eq 8, 3) := by decide +kernel
theorem dX5_arrive_98 : decode cX5_arrive 98 = .ok (.iconst 1, 1) := by decide +kernel
theorem dX5_arrive_99 : decode cX5_arrive 99 = .ok (.istore_n 3, 1) := by decide +kernel
theorem dX5_arrive_100 : decode cX5_arrive 100 = .ok (.goto 16, 3) := by decide +kernel
theorem dX5_arrive_103 : decode cX5_arrive 103 = .ok (.aload_n 0, 1) := by decide +kernel
theorem dX5_arrive_104 : decode cX5_arrive 104 = .ok (.getfield 54, 3) := by decide +kernel
theorem dX5_arrive_107 : decode cX5_arrive 107 = .ok (.iload_n 1, 1) := by decide +kernel
theorem dX5_arrive_108 : decode cX5_arrive 108 = .ok (.dup2, 1) := by decide +kernel
theorem dX5_arrive_109 : decode cX5_arrive 109 = .ok (.iaload, 1) := by decide +kernel
theorem dX5_arrive_110 : decode cX5_arrive 110 = .ok (.iconst 1, 1) := by decide +kernel
theorem dX5_arrive_111 : decode cX5_arrive 111 = .ok (.iadd, 1) := by decide +kernel
theorem dX5_arrive_112 : decode cX5_arrive 112 = .ok (.iastore, 1) := by decide +kernel
theorem dX5_arrive_113 : decode cX5_arrive 113 = .ok (.bipush (-2), 2) := by decide +kernel
theorem dX5_arrive_115 : decode cX5_arrive 115 = .ok (.ireturn, 1) := by decide +kernel
theorem dX5_arrive_116 : decode cX5_arrive 116 = .ok (.aload_n 0, 1) := by decide +kernel
theorem dX5_arrive_117 : decode cX5_arrive 117 = .ok (.getfield 45, 3) := by decide +kernel
theorem dX5_arrive_120 : decode cX5_arrive 120 = .ok (.iload_n 1, 1) := by decide +kernel
theorem dX5_arrive_121 : decode cX5_arrive 121 = .ok (.iaload, 1) := by decide +kernel
theorem dX5_arrive_122 : decode cX5_arrive 122 = .ok (.iload_n 2, 1) := by decide +kernel
theorem dX5_arrive_123 : decode cX5_arrive 123 = .ok (.iadd, 1) := by decide +kernel
theorem dX5_arrive_124 : decode cX5_arrive 124 = .ok (.aload_n 0, 1) := by decide +kernel
theorem dX5_arrive_125 : decode cX5_arrive 125 = .ok (.getfield 33, 3) := by decide +kernel
theorem dX5_arrive_128 : decode cX5_arrive 128 = .ok (.iload_n 1, 1) := by decide +kernel
theorem dX5_arrive_129 : decode cX5_arrive 129 = .ok (.iaload, 1) := by decide +kernel
theorem dX5_arrive_130 : decode cX5_arrive 130 = .ok (.if_icmp .le 16, 3) := by decide +kernel
theorem dX5_arrive_133 : decode cX5_arrive 133 = .ok (.aload_n 0, 1) := by decide +kernel
theorem dX5_arrive_134 : decode cX5_arrive 134 = .ok (.getfield 57, 3) := by decide +kernel
theorem dX5_arrive_137 : decode cX5_arrive 137 = .ok (.iload_n 1, 1) := by decide +kernel
theorem dX5_arrive_138 : decode cX5_arrive 138 = .ok (.dup2, 1) := by decide +kernel
theorem dX5_arrive_139 : decode cX5_arrive 139 = .ok (.iaload, 1) := by decide +kernel
theorem dX5_arrive_140 : decode cX5_arrive 140 = .ok (.iconst 1, 1) := by decide +kernel
theorem dX5_arrive_141 : decode cX5_arrive 141 = .ok (.iadd, 1) := by decide +kernel
theorem dX5_arrive_142 : decode cX5_arrive 142 = .ok (.iastore, 1) := by decide +kernel
theorem dX5_arrive_143 : decode cX5_arrive 143 = .ok (.bipush (-3), 2) := by decide +kernel
theorem dX5_arrive_145 : decode cX5_arrive 145 = .ok (.ireturn, 1) := by decide +kernel
theorem dX5_arrive_146 : decode cX5_arrive 146 = .ok (.aload_n 0, 1) := by decide +kernel
theorem dX5_arrive_147 : decode cX5_arrive 147 = .ok (.getfield 24, 3) := by decide +kernel
theorem dX5_arrive_150 : decode cX5_arrive 150 = .ok (.iload_n 1, 1) := by decide +kernel
theorem dX5_arrive_151 : decode cX5_arrive 151 = .ok (.iaload, 1) := by decide +kernel
theorem dX5_arrive_152 : decode cX5_arrive 152 = .ok (.istore 4, 2) := by decide +kernel
theorem dX5_arrive_154 : decode cX5_arrive 154 = .ok (.aload_n 0, 1) := by decide +kernel
theorem dX5_arrive_155 : decode cX5_arrive 155 = .ok (.getfield 42, 3) := by decide +kernel
theorem dX5_arrive_158 : decode cX5_arrive 158 = .ok (.iload_n 1, 1) := by decide +kernel
theorem dX5_arrive_159 : decode cX5_arrive 159 = .ok (.iaload, 1) := by decide +kernel
theorem dX5_arrive_160 : decode cX5_arrive 160 = .ok (.ifCond .ne 128, 3) := by decide +kernel
theorem dX5_arrive_163 : decode cX5_arrive 163 = .ok (.aload_n 0, 1) := by decide +kernel
theorem dX5_arrive_164 : decode cX5_arrive 164 = .ok (.getfield 66, 3) := by decide +kernel
theorem dX5_arrive_167 : decode cX5_arrive 167 = .ok (.iload_n 1, 1) := by decide +kernel
theorem dX5_arrive_168 : decode cX5_arrive 168 = .ok (.aload_n 0, 1) := by decide +kernel
theorem dX5_arrive_169 : decode cX5_arrive 169 = .ok (.getfield 66, 3) := by decide +kernel
theorem dX5_arrive_172 : decode cX5_arrive 172 = .ok (.iload_n 1, 1) := by decide +kernel
theorem dX5_arrive_173 : decode cX5_arrive 173 = .ok (.laload, 1) := by decide +kernel
theorem dX5_arrive_174 : decode cX5_arrive 174 = .ok (.aload_n 0, 1) := by decide +kernel
theorem dX5_arrive_175 : decode cX5_arrive 175 = .ok (.getfield 21, 3) := by decide +kernel
theorem dX5_arrive_178 : decode cX5_arrive 178 = .ok (.iload 4, 2) := by decide +kernel
theorem dX5_arrive_180 : decode cX5_arrive 180 = .ok (.laload, 1) := by decide +kernel
theorem dX5_arrive_181 : decode cX5_arrive 181 = .ok (.lcmp, 1) := by decide +kernel
theorem dX5_arrive_182 : decode cX5_arrive 182 = .ok (.ifCond .ge 13, 3) := by decide +kernel
theorem dX5_arrive_185 : decode cX5_arrive 185 = .ok (.aload_n 0, 1) := by decide +kernel
theorem dX5_arrive_186 : decode cX5_arrive 186 = .ok (.getfield 21, 3) := by decide +kernel
theorem dX5_arrive_189 : decode cX5_arrive 189 = .ok (.iload 4, 2) := by decide +kernel
theorem dX5_arrive_191 : decode cX5_arrive 191 = .ok (.laload, 1) := by decide +kernel
theorem dX5_arrive_192 : decode cX5_arrive 192 = .ok (.goto 9, 3) := by decide +kernel
theorem dX5_arrive_195 : decode cX5_arrive 195 = .ok (.aload_n 0, 1) := by decide +kernel
theorem dX5_arrive_196 : decode cX5_arrive 196 = .ok (.getfield 66, 3) := by decide +kernel
theorem dX5_arrive_199 : decode cX5_arrive 199 = .ok (.iload_n 1, 1) := by decide +kernel
theorem dX5_arrive_200 : decode cX5_arrive 200 = .ok (.laload, 1) := by decide +kernel
theorem dX5_arrive_201 : decode cX5_arrive 201 = .ok (.lastore, 1) := by decide +kernel
theorem dX5_arrive_202 : decode cX5_arrive 202 = .ok (.iconst 1, 1) := by decide +kernel
theorem dX5_arrive_203 : decode cX5_arrive 203 = .ok (.istore 5, 2) := by decide +kernel
theorem dX5_arrive_205 : decode cX5_arrive 205 = .ok (.iconst 0, 1) := by decide +kernel
theorem dX5_arrive_206 : decode cX5_arrive 206 = .ok (.istore 6, 2) := by decide +kernel
theorem dX5_arrive_208 : decode cX5_arrive 208 = .ok (.iload 6, 2) := by decide +kernel
theorem dX5_arrive_210 : decode cX5_arrive 210 = .ok (.aload_n 0, 1) := by decide +kernel
theorem dX5_arrive_211 : decode cX5_arrive 211 = .ok (.getfield 128, 3) := by decide +kernel
theorem dX5_arrive_214 : decode cX5_arrive 214 = .ok (.if_icmp .ge 43, 3) := by decide +kernel
theorem dX5_arrive_217 : decode cX5_arrive 217 = .ok (.iload 5, 2) := by decide +kernel
theorem dX5_arrive_219 : decode cX5_arrive 219 = .ok (.ifCond .eq 29, 3) := by decide +kernel
theorem dX5_arrive_222 : decode cX5_arrive 222 = .ok (.aload_n 0, 1) := by decide +kernel
theorem dX5_arrive_223 : decode cX5_arrive 223 = .ok (.getfield 24, 3) := by decide +kernel
theorem dX5_arrive_226 : decode cX5_arrive 226 = .ok (.iload 6, 2) := by decide +kernel
theorem dX5_arrive_228 : decode cX5_arrive 228 = .ok (.iaload, 1) := by decide +kernel
theorem dX5_arrive_229 : decode cX5_arrive 229 = .ok (.iload 4, 2) := by decide +kernel
theorem dX5_arrive_231 : decode cX5_arrive 231 = .ok (.if_icmp .ne 13, 3) := by decide +kernel
theorem dX5_arrive_234 : decode cX5_arrive 234 = .ok (.aload_n 0, 1) := by decide +kernel
theorem dX5_arrive_235 : decode cX5_arrive 235 = .ok (.getfield 42, 3) := by decide +kernel
theorem dX5_arrive_238 : decode cX5_arrive 238 = .ok (.iload 6, 2) := by decide +kernel
theorem dX5_arrive_240 : decode cX5_arrive 240 = .ok (.iaload, 1) := by decide +kernel
theorem dX5_arrive_241 : decode cX5_arrive 241 = .ok (.ifCond .ne 7, 3) := by decide +kernel
theorem dX5_arrive_244 : decode cX5_arrive 244 = .ok (.iconst 1, 1) := by decide +kernel
theorem dX5_arrive_245 : decode cX5_arrive 245 = .ok (.goto 4, 3) := by decide +kernel
theorem dX5_arrive_248 : decode cX5_arrive 248 = .ok (.iconst 0, 1) := by decide +kernel
theorem dX5_arrive_249 : decode cX5_arrive 249 = .ok (.istore 5, 2) := by decide +kernel
theorem dX5_arrive_251 : decode cX5_arrive 251 = .ok (.iinc 6 1, 3) := by decide +kernel
theorem dX5_arrive_254 : decode cX5_arrive 254 = .ok (.goto (-46), 3) := by decide +kernel
theorem dX5_arrive_257 : decode cX5_arrive 257 = .ok (.iload 5, 2) := by decide +kernel
theorem dX5_arrive_259 : decode cX5_arrive 259 = .ok (.ifCond .eq 29, 3) := by decide +kernel
theorem dX5_arrive_262 : decode cX5_arrive 262 = .ok (.aload_n 0, 1) := by decide +kernel
theorem dX5_arrive_263 : decode cX5_arrive 263 = .ok (.getfield 17, 3) := by decide +kernel
theorem dX5_arrive_266 : decode cX5_arrive 266 = .ok (.iload 4, 2) := by decide +kernel
theorem dX5_arrive_268 : decode cX5_arrive 268 = .ok (.laload, 1) := by decide +kernel
theorem dX5_arrive_269 : decode cX5_arrive 269 = .ok (.aload_n 0, 1) := by decide +kernel
theorem dX5_arrive_270 : decode cX5_arrive 270 = .ok (.getfield 135, 3) := by decide +kernel
theorem dX5_arrive_273 : decode cX5_arrive 273 = .ok (.lcmp, 1) := by decide +kernel
theorem dX5_arrive_274 : decode cX5_arrive 274 = .ok (.ifCond .ge 14, 3) := by decide +kernel
theorem dX5_arrive_277 : decode cX5_arrive 277 = .ok (.aload_n 0, 1) := by decide +kernel
theorem dX5_arrive_278 : decode cX5_arrive 278 = .ok (.getfield 17, 3) := by decide +kernel
theorem dX5_arrive_281 : decode cX5_arrive 281 = .ok (.iload 4, 2) := by decide +kernel
theorem dX5_arrive_283 : decode cX5_arrive 283 = .ok (.aload_n 0, 1) := by decide +kernel
theorem dX5_arrive_284 : decode cX5_arrive 284 = .ok (.getfield 135, 3) := by decide +kernel
theorem dX5_arrive_287 : decode cX5_arrive 287 = .ok (.lastore, 1) := by decide +kernel
theorem dX5_arrive_288 : decode cX5_arrive 288 = .ok (.aload_n 0, 1) := by decide +kernel
theorem dX5_arrive_289 : decode cX5_arrive 289 = .ok (.getfield 132, 3) := by decide +kernel
theorem dX5_arrive_292 : decode cX5_arrive 292 = .ok (.istore 5, 2) := by decide +kernel
theorem dX5_arrive_294 : decode cX5_arrive 294 = .ok (.aload_n 0, 1) := by decide +kernel
theorem dX5_arrive_295 : decode cX5_arrive 295 = .ok (.getfield 85, 3) := by decide +kernel
theorem dX5_arrive_298 : decode cX5_arrive 298 = .ok (.iload 5, 2) := by decide +kernel
theorem dX5_arrive_300 : decode cX5_arrive 300 = .ok (.iload_n 1, 1) := by decide +kernel
theorem dX5_arrive_301 : decode cX5_arrive 301 = .ok (.iastore, 1) := by decide +kernel
theorem dX5_arrive_302 : decode cX5_arrive 302 = .ok (.aload_n 0, 1) := by decide +kernel
theorem dX5_arrive_303 : decode cX5_arrive 303 = .ok (.getfield 88, 3) := by decide +kernel
theorem dX5_arrive_306 : decode cX5_arrive 306 = .ok (.iload 5, 2) := by decide +kernel
theorem dX5_arrive_308 : decode cX5_arrive 308 = .ok (.iload_n 2, 1) := by decide +kernel
theorem dX5_arrive_309 : decode cX5_arrive 309 = .ok (.iastore, 1) := by decide +kernel
theorem dX5_arrive_310 : decode cX5_arrive 310 = .ok (.aload_n 0, 1) := by decide +kernel
theorem dX5_arrive_311 : decode cX5_arrive 311 = .ok (.getfield 91, 3) := by decide +kernel
theorem dX5_arrive_314 : decode cX5_arrive 314 = .ok (.iload 5, 2) := by decide +kernel
theorem dX5_arrive_316 : decode cX5_arrive 316 = .ok (.aload_n 0, 1) := by decide +kernel
theorem dX5_arrive_317 : decode cX5_arrive 317 = .ok (.getfield 139, 3) := by decide +kernel
theorem dX5_arrive_320 : decode cX5_arrive 320 = .ok (.iastore, 1) := by decide +kernel
theorem dX5_arrive_321 : decode cX5_arrive 321 = .ok (.aload_n 0, 1) := by decide +kernel
theorem dX5_arrive_322 : decode cX5_arrive 322 = .ok (.getfield 94, 3) := by decide +kernel
theorem dX5_arrive_325 : decode cX5_arrive 325 = .ok (.iload 5, 2) := by decide +kernel
theorem dX5_arrive_327 : decode cX5_arrive 327 = .ok (.iconst (-1), 1) := by decide +kernel
theorem dX5_arrive_328 : decode cX5_arrive 328 = .ok (.iastore, 1) := by decide +kernel
theorem dX5_arrive_329 : decode cX5_arrive 329 = .ok (.aload_n 0, 1) := by decide +kernel
theorem dX5_arrive_330 : decode cX5_arrive 330 = .ok (.getfield 97, 3) := by decide +kernel
theorem dX5_arrive_333 : decode cX5_arrive 333 = .ok (.iload 5, 2) := by decide +kernel
theorem dX5_arrive_335 : decode cX5_arrive 335 = .ok (.iconst 0, 1) := by decide +kernel
theorem dX5_arrive_336 : decode cX5_arrive 336 = .ok (.iastore, 1) := by decide +kernel
theorem dX5_arrive_337 : decode cX5_arrive 337 = .ok (.aload_n 0, 1) := by decide +kernel
theorem dX5_arrive_338 : decode cX5_arrive 338 = .ok (.getfield 100, 3) := by decide +kernel
theorem dX5_arrive_341 : decode cX5_arrive 341 = .ok (.iload 5, 2) := by decide +kernel
theorem dX5_arrive_343 : decode cX5_arrive 343 = .ok (.iconst (-1), 1) := by decide +kernel
theorem dX5_arrive_344 : decode cX5_arrive 344 = .ok (.iastore, 1) := by decide +kernel
theorem dX5_arrive_345 : decode cX5_arrive 345 = .ok (.aload_n 0, 1) := by decide +kernel
theorem dX5_arrive_346 : decode cX5_arrive 346 = .ok (.getfield 103, 3) := by decide +kernel
theorem dX5_arrive_349 : decode cX5_arrive 349 = .ok (.iload 5, 2) := by decide +kernel
theorem dX5_arrive_351 : decode cX5_arrive 351 = .ok (.iconst (-1), 1) := by decide +kernel
theorem dX5_arrive_352 : decode cX5_arrive 352 = .ok (.iastore, 1) := by decide +kernel
theorem dX5_arrive_353 : decode cX5_arrive 353 = .ok (.aload_n 0, 1) := by decide +kernel
theorem dX5_arrive_354 : decode cX5_arrive 354 = .ok (.getfield 109, 3) := by decide +kernel
theorem dX5_arrive_357 : decode cX5_arrive 357 = .ok (.iload 5, 2) := by decide +kernel
theorem dX5_arrive_359 : decode cX5_arrive 359 = .ok (.iload_n 3, 1) := by decide +kernel
theorem dX5_arrive_360 : decode cX5_arrive 360 = .ok (.bastore, 1) := by decide +kernel
theorem dX5_arrive_361 : decode cX5_arrive 361 = .ok (.aload_n 0, 1) := by decide +kernel
theorem dX5_arrive_362 : decode cX5_arrive 362 = .ok (.getfield 42, 3) := by decide +kernel
theorem dX5_arrive_365 : decode cX5_arrive 365 = .ok (.iload_n 1, 1) := by decide +kernel
theorem dX5_arrive_366 : decode cX5_arrive 366 = .ok (.iaload, 1) := by decide +kernel
theorem dX5_arrive_367 : decode cX5_arrive 367 = .ok (.ifCond .ne 14, 3) := by decide +kernel
theorem dX5_arrive_370 : decode cX5_arrive 370 = .ok (.aload_n 0, 1) := by decide +kernel
theorem dX5_arrive_371 : decode cX5_arrive 371 = .ok (.getfield 36, 3) := by decide +kernel
theorem dX5_arrive_374 : decode cX5_arrive 374 = .ok (.iload_n 1, 1) := by decide +kernel
theorem dX5_arrive_375 : decode cX5_arrive 375 = .ok (.iload 5, 2) := by decide +kernel
theorem dX5_arrive_377 : decode cX5_arrive 377 = .ok (.iastore, 1) := by decide +kernel
theorem dX5_arrive_378 : decode cX5_arrive 378 = .ok (.goto 16, 3) := by decide +kernel
theorem dX5_arrive_381 : decode cX5_arrive 381 = .ok (.aload_n 0, 1) := by decide +kernel
theorem dX5_arrive_382 : decode cX5_arrive 382 = .ok (.getfield 103, 3) := by decide +kernel
theorem dX5_arrive_385 : decode cX5_arrive 385 = .ok (.aload_n 0, 1) := by decide +kernel
theorem dX5_arrive_386 : decode cX5_arrive 386 = .ok (.getfield 39, 3) := by decide +kernel
theorem dX5_arrive_389 : decode cX5_arrive 389 = .ok (.iload_n 1, 1) := by decide +kernel
theorem dX5_arrive_390 : decode cX5_arrive 390 = .ok (.iaload, 1) := by decide +kernel
theorem dX5_arrive_391 : decode cX5_arrive 391 = .ok (.iload 5, 2) := by decide +kernel
theorem dX5_arrive_393 : decode cX5_arrive 393 = .ok (.iastore, 1) := by decide +kernel
theorem dX5_arrive_394 : decode cX5_arrive 394 = .ok (.aload_n 0, 1) := by decide +kernel
theorem dX5_arrive_395 : decode cX5_arrive 395 = .ok (.getfield 39, 3) := by decide +kernel
theorem dX5_arrive_398 : decode cX5_arrive 398 = .ok (.iload_n 1, 1) := by decide +kernel
theorem dX5_arrive_399 : decode cX5_arrive 399 = .ok (.iload 5, 2) := by decide +kernel
theorem dX5_arrive_401 : decode cX5_arrive 401 = .ok (.iastore, 1) := by decide +kernel
theorem dX5_arrive_402 : decode cX5_arrive 402 = .ok (.aload_n 0, 1) := by decide +kernel
theorem dX5_arrive_403 : decode cX5_arrive 403 = .ok (.getfield 42, 3) := by decide +kernel
theorem dX5_arrive_406 : decode cX5_arrive 406 = .ok (.iload_n 1, 1) := by decide +kernel
theorem dX5_arrive_407 : decode cX5_arrive 407 = .ok (.dup2, 1) := by decide +kernel
theorem dX5_arrive_408 : decode cX5_arrive 408 = .ok (.iaload, 1) := by decide +kernel
theorem dX5_arrive_409 : decode cX5_arrive 409 = .ok (.iconst 1, 1) := by decide +kernel
theorem dX5_arrive_410 : decode cX5_arrive 410 = .ok (.iadd, 1) := by decide +kernel
theorem dX5_arrive_411 : decode cX5_arrive 411 = .ok (.iastore, 1) := by decide +kernel
theorem dX5_arrive_412 : decode cX5_arrive 412 = .ok (.aload_n 0, 1) := by decide +kernel
theorem dX5_arrive_413 : decode cX5_arrive 413 = .ok (.getfield 45, 3) := by decide +kernel
theorem dX5_arrive_416 : decode cX5_arrive 416 = .ok (.iload_n 1, 1) := by decide +kernel
theorem dX5_arrive_417 : decode cX5_arrive 417 = .ok (.dup2, 1) := by decide +kernel
theorem dX5_arrive_418 : decode cX5_arrive 418 = .ok (.iaload, 1) := by decide +kernel
theorem dX5_arrive_419 : decode cX5_arrive 419 = .ok (.iload_n 2, 1) := by decide +kernel
theorem dX5_arrive_420 : decode cX5_arrive 420 = .ok (.iadd, 1) := by decide +kernel
theorem dX5_arrive_421 : decode cX5_arrive 421 = .ok (.iastore, 1) := by decide +kernel
theorem dX5_arrive_422 : decode cX5_arrive 422 = .ok (.aload_n 0, 1) := by decide +kernel
theorem dX5_arrive_423 : decode cX5_arrive 423 = .ok (.dup, 1) := by decide +kernel
theorem dX5_arrive_424 : decode cX5_arrive 424 = .ok (.getfield 132, 3) := by decide +kernel
theorem dX5_arrive_427 : decode cX5_arrive 427 = .ok (.iconst 1, 1) := by decide +kernel
theorem dX5_arrive_428 : decode cX5_arrive 428 = .ok (.iadd, 1) := by decide +kernel
theorem dX5_arrive_429 : decode cX5_arrive 429 = .ok (.putfield 132, 3) := by decide +kernel
theorem dX5_arrive_432 : decode cX5_arrive 432 = .ok (.iload 5, 2) := by decide +kernel
theorem dX5_arrive_434 : decode cX5_arrive 434 = .ok (.ireturn, 1) := by decide +kernel
theorem dX5_passes_0 : decode cX5_passes 0 = .ok (.aload_n 0, 1) := by decide +kernel
theorem dX5_passes_1 : decode cX5_passes 1 = .ok (.dup, 1) := by decide +kernel
theorem dX5_passes_2 : decode cX5_passes 2 = .ok (.getfield 139, 3) := by decide +kernel
theorem dX5_passes_5 : decode cX5_passes 5 = .ok (.iload_n 1, 1) := by decide +kernel
theorem dX5_passes_6 : decode cX5_passes 6 = .ok (.iadd, 1) := by decide +kernel
theorem dX5_passes_7 : decode cX5_passes 7 = .ok (.putfield 139, 3) := by decide +kernel
theorem dX5_passes_10 : decode cX5_passes 10 = .ok (.iconst 0, 1) := by decide +kernel
theorem dX5_passes_11 : decode cX5_passes 11 = .ok (.istore_n 2, 1) := by decide +kernel
theorem dX5_passes_12 : decode cX5_passes 12 = .ok (.iload_n 2, 1) := by decide +kernel
theorem dX5_passes_13 : decode cX5_passes 13 = .ok (.bipush 20, 2) := by decide +kernel
theorem dX5_passes_15 : decode cX5_passes 15 = .ok (.if_icmp .ge 59, 3) := by decide +kernel
theorem dX5_passes_18 : decode cX5_passes 18 = .ok (.ldc2_w 115, 3) := by decide +kernel
theorem dX5_passes_21 : decode cX5_passes 21 = .ok (.aload_n 0, 1) := by decide +kernel
theorem dX5_passes_22 : decode cX5_passes 22 = .ok (.getfield 79, 3) := by decide +kernel
theorem dX5_passes_25 : decode cX5_passes 25 = .ok (.iload_n 2, 1) := by decide +kernel
theorem dX5_passes_26 : decode cX5_passes 26 = .ok (.iaload, 1) := by decide +kernel
theorem dX5_passes_27 : decode cX5_passes 27 = .ok (.i2l, 1) := by decide +kernel
theorem dX5_passes_28 : decode cX5_passes 28 = .ok (.lmul, 1) := by decide +kernel
theorem dX5_passes_29 : decode cX5_passes 29 = .ok (.lstore_n 3, 1) := by decide +kernel
theorem dX5_passes_30 : decode cX5_passes 30 = .ok (.aload_n 0, 1) := by decide +kernel
theorem dX5_passes_31 : decode cX5_passes 31 = .ok (.getfield 82, 3) := by decide +kernel
theorem dX5_passes_34 : decode cX5_passes 34 = .ok (.iload_n 2, 1) := by decide +kernel
theorem dX5_passes_35 : decode cX5_passes 35 = .ok (.laload, 1) := by decide +kernel
theorem dX5_passes_36 : decode cX5_passes 36 = .ok (.aload_n 0, 1) := by decide +kernel
theorem dX5_passes_37 : decode cX5_passes 37 = .ok (.getfield 76, 3) := by decide +kernel
theorem dX5_passes_40 : decode cX5_passes 40 = .ok (.iload_n 2, 1) := by decide +kernel
theorem dX5_passes_41 : decode cX5_passes 41 = .ok (.iaload, 1) := by decide +kernel
theorem dX5_passes_42 : decode cX5_passes 42 = .ok (.i2l, 1) := by decide +kernel
theorem dX5_passes_43 : decode cX5_passes 43 = .ok (.iload_n 1, 1) := by decide +kernel
theorem dX5_passes_44 : decode cX5_passes 44 = .ok (.i2l, 1) := by decide +kernel
theorem dX5_passes_45 : decode cX5_passes 45 = .ok (.lmul, 1) := by decide +kernel
theorem dX5_passes_46 : decode cX5_passes 46 = .ok (.ladd, 1) := by decide +kernel
theorem dX5_passes_47 : decode cX5_passes 47 = .ok (.lstore 5, 2) := by decide +kernel
theorem dX5_passes_49 : decode cX5_passes 49 = .ok (.aload_n 0, 1) := by decide +kernel
theorem dX5_passes_50 : decode cX5_passes 50 = .ok (.getfield 82, 3) := by decide +kernel
theorem dX5_passes_53 : decode cX5_passes 53 = .ok (.iload_n 2, 1) := by decide +kernel
theorem dX5_passes_54 : decode cX5_passes 54 = .ok (.lload 5, 2) := by decide +kernel
theorem dX5_passes_56 : decode cX5_passes 56 = .ok (.lload_n 3, 1) := by decide +kernel
theorem dX5_passes_57 : decode cX5_passes 57 = .ok (.lcmp, 1) := by decide +kernel
theorem dX5_passes_58 : decode cX5_passes 58 = .ok (.ifCond .le 7, 3) := by decide +kernel
theorem dX5_passes_61 : decode cX5_passes 61 = .ok (.lload_n 3, 1) := by decide +kernel
theorem dX5_passes_62 : decode cX5_passes 62 = .ok (.goto 5, 3) := by decide +kernel
theorem dX5_passes_65 : decode cX5_passes 65 = .ok (.lload 5, 2) := by decide +kernel
theorem dX5_passes_67 : decode cX5_passes 67 = .ok (.lastore, 1) := by decide +kernel
theorem dX5_passes_68 : decode cX5_passes 68 = .ok (.iinc 2 1, 3) := by decide +kernel
theorem dX5_passes_71 : decode cX5_passes 71 = .ok (.goto (-59), 3) := by decide +kernel
theorem dX5_passes_74 : decode cX5_passes 74 = .ok (.return_, 1) := by decide +kernel
theorem dX5_isIdle_0 : decode cX5_isIdle 0 = .ok (.aload_n 0, 1) := by decide +kernel
theorem dX5_isIdle_1 : decode cX5_isIdle 1 = .ok (.getfield 142, 3) := by decide +kernel
theorem dX5_isIdle_4 : decode cX5_isIdle 4 = .ok (.ifCond .ne 7, 3) := by decide +kernel
theorem dX5_isIdle_7 : decode cX5_isIdle 7 = .ok (.iconst 1, 1) := by decide +kernel
theorem dX5_isIdle_8 : decode cX5_isIdle 8 = .ok (.goto 4, 3) := by decide +kernel
theorem dX5_isIdle_11 : decode cX5_isIdle 11 = .ok (.iconst 0, 1) := by decide +kernel
theorem dX5_isIdle_12 : decode cX5_isIdle 12 = .ok (.istore_n 1, 1) := by decide +kernel
theorem dX5_isIdle_13 : decode cX5_isIdle 13 = .ok (.iconst 0, 1) := by decide +kernel
theorem dX5_isIdle_14 : decode cX5_isIdle 14 = .ok (.istore_n 2, 1) := by decide +kernel
theorem dX5_isIdle_15 : decode cX5_isIdle 15 = .ok (.iload_n 2, 1) := by decide +kernel
theorem dX5_isIdle_16 : decode cX5_isIdle 16 = .ok (.aload_n 0, 1) := by decide +kernel
theorem dX5_isIdle_17 : decode cX5_isIdle 17 = .ok (.getfield 128, 3) := by decide +kernel
theorem dX5_isIdle_20 : decode cX5_isIdle 20 = .ok (.if_icmp .ge 28, 3) := by decide +kernel
theorem dX5_isIdle_23 : decode cX5_isIdle 23 = .ok (.iload_n 1, 1) := by decide +kernel
theorem dX5_isIdle_24 : decode cX5_isIdle 24 = .ok (.ifCond .eq 16, 3) := by decide +kernel
theorem dX5_isIdle_27 : decode cX5_isIdle 27 = .ok (.aload_n 0, 1) := by decide +kernel
theorem dX5_isIdle_28 : decode cX5_isIdle 28 = .ok (.getfield 42, 3) := by decide +kernel
theorem dX5_isIdle_31 : decode cX5_isIdle 31 = .ok (.iload_n 2, 1) := by decide +kernel
theorem dX5_isIdle_32 : decode cX5_isIdle 32 = .ok (.iaload, 1) := by decide +kernel
theorem dX5_isIdle_33 : decode cX5_isIdle 33 = .ok (.ifCond .ne 7, 3) := by decide +kernel
theorem dX5_isIdle_36 : decode cX5_isIdle 36 = .ok (.iconst 1, 1) := by decide +kernel
theorem dX5_isIdle_37 : decode cX5_isIdle 37 = .ok (.goto 4, 3) := by decide +kernel
theorem dX5_isIdle_40 : decode cX5_isIdle 40 = .ok (.iconst 0, 1) := by decide +kernel
theorem dX5_isIdle_41 : decode cX5_isIdle 41 = .ok (.istore_n 1, 1) := by decide +kernel
theorem dX5_isIdle_42 : decode cX5_isIdle 42 = .ok (.iinc 2 1, 3) := by decide +kernel
theorem dX5_isIdle_45 : decode cX5_isIdle 45 = .ok (.goto (-30), 3) := by decide +kernel
theorem dX5_isIdle_48 : decode cX5_isIdle 48 = .ok (.iload_n 1, 1) := by decide +kernel
theorem dX5_isIdle_49 : decode cX5_isIdle 49 = .ok (.ireturn, 1) := by decide +kernel
set_option maxRecDepth 20000 in
theorem ggX5_run_X5_in : GoodIn wsX5_run wsX5_in := goodIn_r _ [11] (by decide +kernel) (by decide +kernel)
set_option maxRecDepth 20000 in
theorem gX5_run_X5_in : GoodIn wsX5_run (va_wsS RX5 120 yX5_in wsX5_in) := goodIn_app (goodIn_of _ (by decide +kernel)) ggX5_run_X5_in
set_option maxRecDepth 20000 in
theorem ggX5_run_X5_isIdle : GoodIn wsX5_run wsX5_isIdle := goodIn_r _ [15, 5, 16, 17, 77, 78, 79, 80, 81, 82, 83, 84, 85, 86, 87, 88, 89, 90, 91, 92, 93, 94, 95, 96, 97, 98, 99, 100, 101, 102, 103, 104, 105, 106, 107, 108, 109, 110, 111, 112, 113, 114, 115, 116, 117, 118] (by decide +kernel) (by decide +kernel)
set_option maxRecDepth 20000 in
theorem gX5_run_X5_isIdle : GoodIn wsX5_run (wsV RX5 150 RX5 yX5_isIdle wsX5_isIdle) := goodIn_app (goodIn_of _ (by decide +kernel)) ggX5_run_X5_isIdle
set_option maxRecDepth 20000 in
theorem ggX5_run_X5_passes : GoodIn wsX5_run wsX5_passes := goodIn_r _ [21, 2, 22, 23, 24, 25, 77, 78, 79, 80, 81, 82, 83, 84, 85, 86, 87, 88, 89, 90, 91, 92, 93, 94, 95, 96, 97, 98, 99, 100, 101, 102, 103, 104, 105, 106, 107, 108, 109, 110, 111, 112, 113, 114, 115, 116, 117, 118] (by decide +kernel) (by decide +kernel)
set_option maxRecDepth 20000 in
theorem gX5_run_X5_passes : GoodIn wsX5_run (wsV RX5 154 RX5 yX5_passes wsX5_passes) := goodIn_app (goodIn_of _ (by decide +kernel)) ggX5_run_X5_passes
set_option maxRecDepth 20000 in
theorem ggX5_run_X5_begins : GoodIn wsX5_run wsX5_begins := goodIn_r _ [29, 16, 17, 30, 2, 31, 32, 33, 34, 35, 36, 37, 10, 38, 39, 40, 41, 42, 43, 44, 45, 46, 47, 48, 49, 50, 51, 52, 53, 4, 7, 5, 24, 22, 54, 55, 56, 57, 58, 59, 60, 61, 62, 63, 64, 65, 66, 67, 68, 69, 70, 71, 72, 73, 74, 75, 76, 77, 78, 79, 80, 81, 82, 83, 84, 85, 86, 87, 88, 89, 90, 91, 92, 93, 94, 95, 96, 97, 98, 99, 100, 101, 102, 103, 104, 105, 106, 107, 108, 109, 110, 111, 112, 113, 114, 115, 116, 117, 118] (by decide +kernel) (by decide +kernel)
set_option maxRecDepth 20000 in
theorem gX5_run_X5_begins : GoodIn wsX5_run (wsV RX5 158 RX5 yX5_begins wsX5_begins) := goodIn_app (goodIn_of _ (by decide +kernel)) ggX5_run_X5_begins
theorem dX5_run_0 : decode cX5_run 0 = .ok (.iload_n 1, 1) := by decide +kernel
theorem dX5_run_1 : decode cX5_run 1 = .ok (.iconst 1, 1) := by decide +kernel
theorem dX5_run_2 : decode cX5_run 2 = .ok (.ldc 145, 2) := by decide +kernel
theorem dX5_run_4 : decode cX5_run 4 = .ok (.invokestatic 120, 3) := by decide +kernel
theorem dX5_run_7 : decode cX5_run 7 = .ok (.ifCond .eq 14, 3) := by decide +kernel
theorem dX5_run_10 : decode cX5_run 10 = .ok (.aload_n 0, 1) := by decide +kernel
theorem dX5_run_11 : decode cX5_run 11 = .ok (.getfield 139, 3) := by decide +kernel
theorem dX5_run_14 : decode cX5_run 14 = .ok (.ldc 146, 2) := by decide +kernel
theorem dX5_run_16 : decode cX5_run 16 = .ok (.iload_n 1, 1) := by decide +kernel
theorem dX5_run_17 : decode cX5_run 17 = .ok (.isub, 1) := by decide +kernel
theorem dX5_run_18 : decode cX5_run 18 = .ok (.if_icmp .le 5, 3) := by decide +kernel
theorem dX5_run_21 : decode cX5_run 21 = .ok (.iconst (-1), 1) := by decide +kernel
theorem dX5_run_22 : decode cX5_run 22 = .ok (.ireturn, 1) := by decide +kernel
theorem dX5_run_23 : decode cX5_run 23 = .ok (.aload_n 0, 1) := by decide +kernel
theorem dX5_run_24 : decode cX5_run 24 = .ok (.getfield 147, 3) := by decide +kernel
theorem dX5_run_27 : decode cX5_run 27 = .ok (.istore_n 2, 1) := by decide +kernel
theorem dX5_run_28 : decode cX5_run 28 = .ok (.aload_n 0, 1) := by decide +kernel
theorem dX5_run_29 : decode cX5_run 29 = .ok (.getfield 139, 3) := by decide +kernel
theorem dX5_run_32 : decode cX5_run 32 = .ok (.iload_n 1, 1) := by decide +kernel
theorem dX5_run_33 : decode cX5_run 33 = .ok (.iadd, 1) := by decide +kernel
theorem dX5_run_34 : decode cX5_run 34 = .ok (.istore_n 3, 1) := by decide +kernel
theorem dX5_run_35 : decode cX5_run 35 = .ok (.aload_n 0, 1) := by decide +kernel
theorem dX5_run_36 : decode cX5_run 36 = .ok (.getfield 139, 3) := by decide +kernel
theorem dX5_run_39 : decode cX5_run 39 = .ok (.iload_n 3, 1) := by decide +kernel
theorem dX5_run_40 : decode cX5_run 40 = .ok (.if_icmp .ge 130, 3) := by decide +kernel
theorem dX5_run_43 : decode cX5_run 43 = .ok (.aload_n 0, 1) := by decide +kernel
theorem dX5_run_44 : decode cX5_run 44 = .ok (.invokevirtual 150, 3) := by decide +kernel
theorem dX5_run_47 : decode cX5_run 47 = .ok (.ifCond .eq 16, 3) := by decide +kernel
theorem dX5_run_50 : decode cX5_run 50 = .ok (.aload_n 0, 1) := by decide +kernel
theorem dX5_run_51 : decode cX5_run 51 = .ok (.iload_n 3, 1) := by decide +kernel
theorem dX5_run_52 : decode cX5_run 52 = .ok (.aload_n 0, 1) := by decide +kernel
theorem dX5_run_53 : decode cX5_run 53 = .ok (.getfield 139, 3) := by decide +kernel
theorem dX5_run_56 : decode cX5_run 56 = .ok (.isub, 1) := by decide +kernel
theorem dX5_run_57 : decode cX5_run 57 = .ok (.invokevirtual 154, 3) := by decide +kernel
theorem dX5_run_60 : decode cX5_run 60 = .ok (.goto (-25), 3) := by decide +kernel
theorem dX5_run_63 : decode cX5_run 63 = .ok (.aload_n 0, 1) := by decide +kernel
theorem dX5_run_64 : decode cX5_run 64 = .ok (.getfield 142, 3) := by decide +kernel
theorem dX5_run_67 : decode cX5_run 67 = .ok (.ifCond .ne 7, 3) := by decide +kernel
theorem dX5_run_70 : decode cX5_run 70 = .ok (.aload_n 0, 1) := by decide +kernel
theorem dX5_run_71 : decode cX5_run 71 = .ok (.invokevirtual 158, 3) := by decide +kernel
theorem dX5_run_74 : decode cX5_run 74 = .ok (.aload_n 0, 1) := by decide +kernel
theorem dX5_run_75 : decode cX5_run 75 = .ok (.getfield 142, 3) := by decide +kernel
theorem dX5_run_78 : decode cX5_run 78 = .ok (.ifCond .ne 7, 3) := by decide +kernel
theorem dX5_run_81 : decode cX5_run 81 = .ok (.iconst 1, 1) := by decide +kernel
theorem dX5_run_82 : decode cX5_run 82 = .ok (.goto 29, 3) := by decide +kernel
theorem dX5_run_85 : decode cX5_run 85 = .ok (.aload_n 0, 1) := by decide +kernel
theorem dX5_run_86 : decode cX5_run 86 = .ok (.getfield 142, 3) := by decide +kernel
theorem dX5_run_89 : decode cX5_run 89 = .ok (.iload_n 3, 1) := by decide +kernel
theorem dX5_run_90 : decode cX5_run 90 = .ok (.aload_n 0, 1) := by decide +kernel
theorem dX5_run_91 : decode cX5_run 91 = .ok (.getfield 139, 3) := by decide +kernel
theorem dX5_run_94 : decode cX5_run 94 = .ok (.isub, 1) := by decide +kernel
theorem dX5_run_95 : decode cX5_run 95 = .ok (.if_icmp .ge 10, 3) := by decide +kernel
theorem dX5_run_98 : decode cX5_run 98 = .ok (.aload_n 0, 1) := by decide +kernel
theorem dX5_run_99 : decode cX5_run 99 = .ok (.getfield 142, 3) := by decide +kernel
theorem dX5_run_102 : decode cX5_run 102 = .ok (.goto 9, 3) := by decide +kernel
theorem dX5_run_105 : decode cX5_run 105 = .ok (.iload_n 3, 1) := by decide +kernel
theorem dX5_run_106 : decode cX5_run 106 = .ok (.aload_n 0, 1) := by decide +kernel
theorem dX5_run_107 : decode cX5_run 107 = .ok (.getfield 139, 3) := by decide +kernel
theorem dX5_run_110 : decode cX5_run 110 = .ok (.isub, 1) := by decide +kernel
theorem dX5_run_111 : decode cX5_run 111 = .ok (.istore 4, 2) := by decide +kernel
theorem dX5_run_113 : decode cX5_run 113 = .ok (.aload_n 0, 1) := by decide +kernel
theorem dX5_run_114 : decode cX5_run 114 = .ok (.getfield 142, 3) := by decide +kernel
theorem dX5_run_117 : decode cX5_run 117 = .ok (.ifCond .le 44, 3) := by decide +kernel
theorem dX5_run_120 : decode cX5_run 120 = .ok (.aload_n 0, 1) := by decide +kernel
theorem dX5_run_121 : decode cX5_run 121 = .ok (.dup, 1) := by decide +kernel
theorem dX5_run_122 : decode cX5_run 122 = .ok (.getfield 161, 3) := by decide +kernel
theorem dX5_run_125 : decode cX5_run 125 = .ok (.iload 4, 2) := by decide +kernel
theorem dX5_run_127 : decode cX5_run 127 = .ok (.iadd, 1) := by decide +kernel
theorem dX5_run_128 : decode cX5_run 128 = .ok (.putfield 161, 3) := by decide +kernel
theorem dX5_run_131 : decode cX5_run 131 = .ok (.aload_n 0, 1) := by decide +kernel
theorem dX5_run_132 : decode cX5_run 132 = .ok (.dup, 1) := by decide +kernel
theorem dX5_run_133 : decode cX5_run 133 = .ok (.getfield 142, 3) := by decide +kernel
theorem dX5_run_136 : decode cX5_run 136 = .ok (.iload 4, 2) := by decide +kernel
theorem dX5_run_138 : decode cX5_run 138 = .ok (.isub, 1) := by decide +kernel
theorem dX5_run_139 : decode cX5_run 139 = .ok (.putfield 142, 3) := by decide +kernel
theorem dX5_run_142 : decode cX5_run 142 = .ok (.aload_n 0, 1) := by decide +kernel
theorem dX5_run_143 : decode cX5_run 143 = .ok (.aload_n 0, 1) := by decide +kernel
theorem dX5_run_144 : decode cX5_run 144 = .ok (.getfield 142, 3) := by decide +kernel
theorem dX5_run_147 : decode cX5_run 147 = .ok (.ifCond .ne 7, 3) := by decide +kernel
theorem dX5_run_150 : decode cX5_run 150 = .ok (.iconst (-1), 1) := by decide +kernel
theorem dX5_run_151 : decode cX5_run 151 = .ok (.goto 7, 3) := by decide +kernel
theorem dX5_run_154 : decode cX5_run 154 = .ok (.aload_n 0, 1) := by decide +kernel
theorem dX5_run_155 : decode cX5_run 155 = .ok (.getfield 9, 3) := by decide +kernel
theorem dX5_run_158 : decode cX5_run 158 = .ok (.putfield 9, 3) := by decide +kernel
theorem dX5_run_161 : decode cX5_run 161 = .ok (.aload_n 0, 1) := by decide +kernel
theorem dX5_run_162 : decode cX5_run 162 = .ok (.iload 4, 2) := by decide +kernel
theorem dX5_run_164 : decode cX5_run 164 = .ok (.invokevirtual 154, 3) := by decide +kernel
theorem dX5_run_167 : decode cX5_run 167 = .ok (.goto (-132), 3) := by decide +kernel
theorem dX5_run_170 : decode cX5_run 170 = .ok (.aload_n 0, 1) := by decide +kernel
theorem dX5_run_171 : decode cX5_run 171 = .ok (.getfield 147, 3) := by decide +kernel
theorem dX5_run_174 : decode cX5_run 174 = .ok (.iload_n 2, 1) := by decide +kernel
theorem dX5_run_175 : decode cX5_run 175 = .ok (.isub, 1) := by decide +kernel
theorem dX5_run_176 : decode cX5_run 176 = .ok (.ireturn, 1) := by decide +kernel
theorem dX5_startOf_0 : decode cX5_startOf 0 = .ok (.aload_n 0, 1) := by decide +kernel
theorem dX5_startOf_1 : decode cX5_startOf 1 = .ok (.getfield 91, 3) := by decide +kernel
theorem dX5_startOf_4 : decode cX5_startOf 4 = .ok (.aload_n 0, 1) := by decide +kernel
theorem dX5_startOf_5 : decode cX5_startOf 5 = .ok (.getfield 36, 3) := by decide +kernel
theorem dX5_startOf_8 : decode cX5_startOf 8 = .ok (.iload_n 1, 1) := by decide +kernel
theorem dX5_startOf_9 : decode cX5_startOf 9 = .ok (.iaload, 1) := by decide +kernel
theorem dX5_startOf_10 : decode cX5_startOf 10 = .ok (.iaload, 1) := by decide +kernel
theorem dX5_startOf_11 : decode cX5_startOf 11 = .ok (.istore_n 2, 1) := by decide +kernel
theorem dX5_startOf_12 : decode cX5_startOf 12 = .ok (.aload_n 0, 1) := by decide +kernel
theorem dX5_startOf_13 : decode cX5_startOf 13 = .ok (.getfield 60, 3) := by decide +kernel
theorem dX5_startOf_16 : decode cX5_startOf 16 = .ok (.iload_n 1, 1) := by decide +kernel
theorem dX5_startOf_17 : decode cX5_startOf 17 = .ok (.iaload, 1) := by decide +kernel
theorem dX5_startOf_18 : decode cX5_startOf 18 = .ok (.iload_n 2, 1) := by decide +kernel
theorem dX5_startOf_19 : decode cX5_startOf 19 = .ok (.if_icmp .le 12, 3) := by decide +kernel
theorem dX5_startOf_22 : decode cX5_startOf 22 = .ok (.aload_n 0, 1) := by decide +kernel
theorem dX5_startOf_23 : decode cX5_startOf 23 = .ok (.getfield 60, 3) := by decide +kernel
theorem dX5_startOf_26 : decode cX5_startOf 26 = .ok (.iload_n 1, 1) := by decide +kernel
theorem dX5_startOf_27 : decode cX5_startOf 27 = .ok (.iaload, 1) := by decide +kernel
theorem dX5_startOf_28 : decode cX5_startOf 28 = .ok (.goto 4, 3) := by decide +kernel
theorem dX5_startOf_31 : decode cX5_startOf 31 = .ok (.iload_n 2, 1) := by decide +kernel
theorem dX5_startOf_32 : decode cX5_startOf 32 = .ok (.ireturn, 1) := by decide +kernel
set_option maxRecDepth 20000 in
theorem ggX5_deadlineOf_X5_startOf : GoodIn wsX5_deadlineOf wsX5_startOf := goodIn_r _ [8, 9, 3, 10, 11, 12, 13, 14, 15, 16, 17, 18, 19, 20, 21, 22, 23, 24, 25, 26, 27, 28, 29, 30, 31, 32, 33, 34, 35, 36, 37, 38, 39, 40, 41, 42, 43, 44, 45, 46, 47, 48, 49, 50, 51, 52] (by decide +kernel) (by decide +kernel)
set_option maxRecDepth 20000 in
theorem gX5_deadlineOf_X5_startOf : GoodIn wsX5_deadlineOf (wsV RX5 164 RX5 yX5_startOf wsX5_startOf) := goodIn_app (goodIn_of _ (by decide +kernel)) ggX5_deadlineOf_X5_startOf
theorem dX5_deadlineOf_0 : decode cX5_deadlineOf 0 = .ok (.aload_n 0, 1) := by decide +kernel
theorem dX5_deadlineOf_1 : decode cX5_deadlineOf 1 = .ok (.getfield 30, 3) := by decide +kernel
theorem dX5_deadlineOf_4 : decode cX5_deadlineOf 4 = .ok (.iload_n 1, 1) := by decide +kernel
theorem dX5_deadlineOf_5 : decode cX5_deadlineOf 5 = .ok (.iaload, 1) := by decide +kernel
theorem dX5_deadlineOf_6 : decode cX5_deadlineOf 6 = .ok (.istore_n 2, 1) := by decide +kernel
theorem dX5_deadlineOf_7 : decode cX5_deadlineOf 7 = .ok (.aload_n 0, 1) := by decide +kernel
theorem dX5_deadlineOf_8 : decode cX5_deadlineOf 8 = .ok (.iload_n 1, 1) := by decide +kernel
theorem dX5_deadlineOf_9 : decode cX5_deadlineOf 9 = .ok (.invokevirtual 164, 3) := by decide +kernel
theorem dX5_deadlineOf_12 : decode cX5_deadlineOf 12 = .ok (.sipush 1000, 3) := by decide +kernel
theorem dX5_deadlineOf_15 : decode cX5_deadlineOf 15 = .ok (.aload_n 0, 1) := by decide +kernel
theorem dX5_deadlineOf_16 : decode cX5_deadlineOf 16 = .ok (.getfield 88, 3) := by decide +kernel
theorem dX5_deadlineOf_19 : decode cX5_deadlineOf 19 = .ok (.aload_n 0, 1) := by decide +kernel
theorem dX5_deadlineOf_20 : decode cX5_deadlineOf 20 = .ok (.getfield 36, 3) := by decide +kernel
theorem dX5_deadlineOf_23 : decode cX5_deadlineOf 23 = .ok (.iload_n 1, 1) := by decide +kernel
theorem dX5_deadlineOf_24 : decode cX5_deadlineOf 24 = .ok (.iaload, 1) := by decide +kernel
theorem dX5_deadlineOf_25 : decode cX5_deadlineOf 25 = .ok (.iaload, 1) := by decide +kernel
theorem dX5_deadlineOf_26 : decode cX5_deadlineOf 26 = .ok (.imul, 1) := by decide +kernel
theorem dX5_deadlineOf_27 : decode cX5_deadlineOf 27 = .ok (.iload_n 2, 1) := by decide +kernel
theorem dX5_deadlineOf_28 : decode cX5_deadlineOf 28 = .ok (.iadd, 1) := by decide +kernel
theorem dX5_deadlineOf_29 : decode cX5_deadlineOf 29 = .ok (.iconst 1, 1) := by decide +kernel
theorem dX5_deadlineOf_30 : decode cX5_deadlineOf 30 = .ok (.isub, 1) := by decide +kernel
theorem dX5_deadlineOf_31 : decode cX5_deadlineOf 31 = .ok (.iload_n 2, 1) := by decide +kernel
theorem dX5_deadlineOf_32 : decode cX5_deadlineOf 32 = .ok (.idiv, 1) := by decide +kernel
theorem dX5_deadlineOf_33 : decode cX5_deadlineOf 33 = .ok (.iadd, 1) := by decide +kernel
theorem dX5_deadlineOf_34 : decode cX5_deadlineOf 34 = .ok (.ireturn, 1) := by decide +kernel
set_option maxRecDepth 20000 in
theorem ggX5_begins_X5_startOf : GoodIn wsX5_begins wsX5_startOf := goodIn_r _ [13, 14, 15, 5, 57, 58, 59, 60, 61, 62, 63, 64, 65, 66, 67, 68, 69, 70, 71, 72, 73, 74, 75, 76, 77, 78, 79, 80, 81, 82, 83, 84, 85, 86, 87, 88, 89, 90, 91, 92, 93, 94, 95, 96, 97, 98] (by decide +kernel) (by decide +kernel)
set_option maxRecDepth 20000 in
theorem gX5_begins_X5_startOf : GoodIn wsX5_begins (wsV RX5 164 RX5 yX5_startOf wsX5_startOf) := goodIn_app (goodIn_of _ (by decide +kernel)) ggX5_begins_X5_startOf
set_option maxRecDepth 20000 in
theorem ggX5_begins_X5_deadlineOf : GoodIn wsX5_begins wsX5_deadlineOf := goodIn_r _ [19, 3, 8, 15, 9, 10, 11, 12, 13, 14, 5, 57, 58, 59, 60, 61, 62, 63, 64, 65, 66, 67, 68, 69, 70, 71, 72, 73, 74, 75, 76, 77, 78, 79, 80, 81, 82, 83, 84, 85, 86, 87, 88, 89, 90, 91, 92, 93, 94, 95, 96, 97, 98] (by decide +kernel) (by decide +kernel)
set_option maxRecDepth 20000 in
theorem gX5_begins_X5_deadlineOf : GoodIn wsX5_begins (wsV RX5 168 RX5 yX5_deadlineOf wsX5_deadlineOf) := goodIn_app (goodIn_of _ (by decide +kernel)) ggX5_begins_X5_deadlineOf
set_option maxRecDepth 20000 in
theorem ggX5_begins_X5_goes : GoodIn wsX5_begins wsX5_goes := goodIn_r _ [23, 15, 24, 2, 25, 8, 26, 4, 27, 28, 29, 30, 31, 32, 33, 34, 57, 58, 59, 60, 61, 62, 63, 64, 65, 66, 67, 68, 69, 70, 71, 72, 73, 74, 75, 76, 77, 78, 79, 80, 81, 82, 83, 84, 85, 86, 87, 88, 89, 90, 91, 92, 93, 94, 95, 96, 97, 98] (by decide +kernel) (by decide +kernel)
set_option maxRecDepth 20000 in
theorem gX5_begins_X5_goes : GoodIn wsX5_begins (wsV RX5 171 RX5 yX5_goes wsX5_goes) := goodIn_app (goodIn_of _ (by decide +kernel)) ggX5_begins_X5_goes
set_option maxRecDepth 20000 in
theorem ggX5_begins_X5_excess : GoodIn wsX5_begins wsX5_excess := goodIn_r _ [38, 39, 1, 34, 2, 33, 8, 15, 32, 40, 41, 42, 43, 44, 45, 46, 47, 48, 12, 49, 50, 51, 52, 53, 54, 55, 56, 20, 21, 22, 23, 24, 25, 26, 4, 27, 28, 29, 30, 31, 57, 58, 59, 60, 61, 62, 63, 64, 65, 66, 67, 68, 69, 70, 71, 72, 73, 74, 75, 76, 77, 78, 79, 80, 81, 82, 83, 84, 85, 86, 87, 88, 89, 90, 91, 92, 93, 94, 95, 96, 97, 98] (by decide +kernel) (by decide +kernel)
set_option maxRecDepth 20000 in
theorem gX5_begins_X5_excess : GoodIn wsX5_begins (wsV RX5 175 RX5 yX5_excess wsX5_excess) := goodIn_app (goodIn_of _ (by decide +kernel)) ggX5_begins_X5_excess
theorem dX5_begins_0 : decode cX5_begins 0 = .ok (.iconst (-1), 1) := by decide +kernel
theorem dX5_begins_1 : decode cX5_begins 1 = .ok (.istore_n 1, 1) := by decide +kernel
theorem dX5_begins_2 : decode cX5_begins 2 = .ok (.iconst 0, 1) := by decide +kernel
theorem dX5_begins_3 : decode cX5_begins 3 = .ok (.istore_n 2, 1) := by decide +kernel
theorem dX5_begins_4 : decode cX5_begins 4 = .ok (.iload_n 2, 1) := by decide +kernel
theorem dX5_begins_5 : decode cX5_begins 5 = .ok (.aload_n 0, 1) := by decide +kernel
theorem dX5_begins_6 : decode cX5_begins 6 = .ok (.getfield 128, 3) := by decide +kernel
theorem dX5_begins_9 : decode cX5_begins 9 = .ok (.if_icmp .ge 59, 3) := by decide +kernel
theorem dX5_begins_12 : decode cX5_begins 12 = .ok (.aload_n 0, 1) := by decide +kernel
theorem dX5_begins_13 : decode cX5_begins 13 = .ok (.getfield 42, 3) := by decide +kernel
theorem dX5_begins_16 : decode cX5_begins 16 = .ok (.iload_n 2, 1) := by decide +kernel
theorem dX5_begins_17 : decode cX5_begins 17 = .ok (.iaload, 1) := by decide +kernel
theorem dX5_begins_18 : decode cX5_begins 18 = .ok (.ifCond .le 44, 3) := by decide +kernel
theorem dX5_begins_21 : decode cX5_begins 21 = .ok (.aload_n 0, 1) := by decide +kernel
theorem dX5_begins_22 : decode cX5_begins 22 = .ok (.getfield 30, 3) := by decide +kernel
theorem dX5_begins_25 : decode cX5_begins 25 = .ok (.iload_n 2, 1) := by decide +kernel
theorem dX5_begins_26 : decode cX5_begins 26 = .ok (.iaload, 1) := by decide +kernel
theorem dX5_begins_27 : decode cX5_begins 27 = .ok (.ifCond .le 35, 3) := by decide +kernel
theorem dX5_begins_30 : decode cX5_begins 30 = .ok (.aload_n 0, 1) := by decide +kernel
theorem dX5_begins_31 : decode cX5_begins 31 = .ok (.iload_n 2, 1) := by decide +kernel
theorem dX5_begins_32 : decode cX5_begins 32 = .ok (.invokevirtual 164, 3) := by decide +kernel
theorem dX5_begins_35 : decode cX5_begins 35 = .ok (.aload_n 0, 1) := by decide +kernel
theorem dX5_begins_36 : decode cX5_begins 36 = .ok (.getfield 139, 3) := by decide +kernel
theorem dX5_begins_39 : decode cX5_begins 39 = .ok (.if_icmp .gt 23, 3) := by decide +kernel
theorem dX5_begins_42 : decode cX5_begins 42 = .ok (.iload_n 1, 1) := by decide +kernel
theorem dX5_begins_43 : decode cX5_begins 43 = .ok (.iconst (-1), 1) := by decide +kernel
theorem dX5_begins_44 : decode cX5_begins 44 = .ok (.if_icmp .eq 16, 3) := by decide +kernel
theorem dX5_begins_47 : decode cX5_begins 47 = .ok (.aload_n 0, 1) := by decide +kernel
theorem dX5_begins_48 : decode cX5_begins 48 = .ok (.iload_n 2, 1) := by decide +kernel
theorem dX5_begins_49 : decode cX5_begins 49 = .ok (.invokevirtual 168, 3) := by decide +kernel
theorem dX5_begins_52 : decode cX5_begins 52 = .ok (.aload_n 0, 1) := by decide +kernel
theorem dX5_begins_53 : decode cX5_begins 53 = .ok (.iload_n 1, 1) := by decide +kernel
theorem dX5_begins_54 : decode cX5_begins 54 = .ok (.invokevirtual 168, 3) := by decide +kernel
theorem dX5_begins_57 : decode cX5_begins 57 = .ok (.if_icmp .ge 5, 3) := by decide +kernel
theorem dX5_begins_60 : decode cX5_begins 60 = .ok (.iload_n 2, 1) := by decide +kernel
theorem dX5_begins_61 : decode cX5_begins 61 = .ok (.istore_n 1, 1) := by decide +kernel
theorem dX5_begins_62 : decode cX5_begins 62 = .ok (.iinc 2 1, 3) := by decide +kernel
theorem dX5_begins_65 : decode cX5_begins 65 = .ok (.goto (-61), 3) := by decide +kernel
theorem dX5_begins_68 : decode cX5_begins 68 = .ok (.iload_n 1, 1) := by decide +kernel
theorem dX5_begins_69 : decode cX5_begins 69 = .ok (.iconst (-1), 1) := by decide +kernel
theorem dX5_begins_70 : decode cX5_begins 70 = .ok (.if_icmp .eq 46, 3) := by decide +kernel
theorem dX5_begins_73 : decode cX5_begins 73 = .ok (.aload_n 0, 1) := by decide +kernel
theorem dX5_begins_74 : decode cX5_begins 74 = .ok (.iload_n 1, 1) := by decide +kernel
theorem dX5_begins_75 : decode cX5_begins 75 = .ok (.invokevirtual 168, 3) := by decide +kernel
theorem dX5_begins_78 : decode cX5_begins 78 = .ok (.istore_n 2, 1) := by decide +kernel
theorem dX5_begins_79 : decode cX5_begins 79 = .ok (.aload_n 0, 1) := by decide +kernel
theorem dX5_begins_80 : decode cX5_begins 80 = .ok (.getfield 60, 3) := by decide +kernel
theorem dX5_begins_83 : decode cX5_begins 83 = .ok (.iload_n 1, 1) := by decide +kernel
theorem dX5_begins_84 : decode cX5_begins 84 = .ok (.iload_n 2, 1) := by decide +kernel
theorem dX5_begins_85 : decode cX5_begins 85 = .ok (.iastore, 1) := by decide +kernel
theorem dX5_begins_86 : decode cX5_begins 86 = .ok (.aload_n 0, 1) := by decide +kernel
theorem dX5_begins_87 : decode cX5_begins 87 = .ok (.iload_n 1, 1) := by decide +kernel
theorem dX5_begins_88 : decode cX5_begins 88 = .ok (.iconst 1, 1) := by decide +kernel
theorem dX5_begins_89 : decode cX5_begins 89 = .ok (.invokevirtual 171, 3) := by decide +kernel
theorem dX5_begins_92 : decode cX5_begins 92 = .ok (.istore_n 3, 1) := by decide +kernel
theorem dX5_begins_93 : decode cX5_begins 93 = .ok (.aload_n 0, 1) := by decide +kernel
theorem dX5_begins_94 : decode cX5_begins 94 = .ok (.getfield 100, 3) := by decide +kernel
theorem dX5_begins_97 : decode cX5_begins 97 = .ok (.iload_n 3, 1) := by decide +kernel
theorem dX5_begins_98 : decode cX5_begins 98 = .ok (.iload_n 2, 1) := by decide +kernel
theorem dX5_begins_99 : decode cX5_begins 99 = .ok (.iastore, 1) := by decide +kernel
theorem dX5_begins_100 : decode cX5_begins 100 = .ok (.aload_n 0, 1) := by decide +kernel
theorem dX5_begins_101 : decode cX5_begins 101 = .ok (.getfield 48, 3) := by decide +kernel
theorem dX5_begins_104 : decode cX5_begins 104 = .ok (.iload_n 1, 1) := by decide +kernel
theorem dX5_begins_105 : decode cX5_begins 105 = .ok (.dup2, 1) := by decide +kernel
theorem dX5_begins_106 : decode cX5_begins 106 = .ok (.iaload, 1) := by decide +kernel
theorem dX5_begins_107 : decode cX5_begins 107 = .ok (.aload_n 0, 1) := by decide +kernel
theorem dX5_begins_108 : decode cX5_begins 108 = .ok (.getfield 88, 3) := by decide +kernel
theorem dX5_begins_111 : decode cX5_begins 111 = .ok (.iload_n 3, 1) := by decide +kernel
theorem dX5_begins_112 : decode cX5_begins 112 = .ok (.iaload, 1) := by decide +kernel
theorem dX5_begins_113 : decode cX5_begins 113 = .ok (.iadd, 1) := by decide +kernel
