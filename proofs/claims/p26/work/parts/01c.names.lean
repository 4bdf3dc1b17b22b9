set_option maxRecDepth 20000 in
theorem ggX2_startLoad_X3_isEmpty : GoodIn wsX2_startLoad wsX3_isEmpty := goodIn_r _ [16, 17, 136, 137, 138] (by decide +kernel) (by decide +kernel)
set_option maxRecDepth 20000 in
theorem gX2_startLoad_X3_isEmpty : GoodIn wsX2_startLoad (wsV RX2 76 RX3 yX3_isEmpty wsX3_isEmpty) := goodIn_app (goodIn_of _ (by decide +kernel)) ggX2_startLoad_X3_isEmpty
set_option maxRecDepth 20000 in
theorem ggX2_startLoad_X2_reasonAgainst : GoodIn wsX2_startLoad wsX2_reasonAgainst := goodIn_r _ [21, 22, 23, 24, 6, 25, 8, 12, 13, 14, 15, 16, 17, 26, 27, 28, 29, 30, 31, 32, 33, 34, 35, 36, 37, 38, 39, 40, 41, 42, 43, 1, 44, 45, 46, 47, 48, 49, 50, 51, 52, 53, 54, 55, 56, 57, 58, 59, 60, 61, 62, 63, 64, 65, 66, 67, 68, 69, 70, 71, 72, 73, 74, 10, 75, 76, 77, 78, 79, 80, 81, 82, 83, 84, 85, 86, 87, 88, 89, 90, 91, 92, 93, 94, 95, 96, 97, 98, 99, 100, 101, 102, 103, 104, 105, 106, 107, 108, 109, 110, 111, 112, 113, 114, 115, 2, 116, 117, 118, 119, 120, 121, 122, 123, 124, 125, 126, 127, 128, 129, 130, 131, 132, 133, 134, 135, 136, 137, 138, 139, 140, 141, 142, 143, 144, 145] (by decide +kernel) (by decide +kernel)
set_option maxRecDepth 20000 in
theorem gX2_startLoad_X2_reasonAgainst : GoodIn wsX2_startLoad (wsV RX2 117 RX2 yX2_reasonAgainst wsX2_reasonAgainst) := goodIn_app (goodIn_of _ (by decide +kernel)) ggX2_startLoad_X2_reasonAgainst
set_option maxRecDepth 20000 in
theorem ggX2_startLoad_X3_put : GoodIn wsX2_startLoad wsX3_put := goodIn_r _ [73, 17, 61, 62, 74, 10, 75, 136, 137, 138] (by decide +kernel) (by decide +kernel)
set_option maxRecDepth 20000 in
theorem gX2_startLoad_X3_put : GoodIn wsX2_startLoad (wsV RX2 121 RX3 yX3_put wsX3_put) := goodIn_app (goodIn_of _ (by decide +kernel)) ggX2_startLoad_X3_put
theorem dX2_startLoad_0 : decode cX2_startLoad 0 = .ok (.aload_n 0, 1) := by decide +kernel
theorem dX2_startLoad_1 : decode cX2_startLoad 1 = .ok (.iload_n 1, 1) := by decide +kernel
theorem dX2_startLoad_2 : decode cX2_startLoad 2 = .ok (.invokevirtual 113, 3) := by decide +kernel
theorem dX2_startLoad_5 : decode cX2_startLoad 5 = .ok (.astore 4, 2) := by decide +kernel
theorem dX2_startLoad_7 : decode cX2_startLoad 7 = .ok (.aload 4, 2) := by decide +kernel
theorem dX2_startLoad_9 : decode cX2_startLoad 9 = .ok (.ifnull 12, 3) := by decide +kernel
theorem dX2_startLoad_12 : decode cX2_startLoad 12 = .ok (.iload_n 2, 1) := by decide +kernel
theorem dX2_startLoad_13 : decode cX2_startLoad 13 = .ok (.iconst 0, 1) := by decide +kernel
theorem dX2_startLoad_14 : decode cX2_startLoad 14 = .ok (.iconst 2, 1) := by decide +kernel
theorem dX2_startLoad_15 : decode cX2_startLoad 15 = .ok (.invokestatic 100, 3) := by decide +kernel
theorem dX2_startLoad_18 : decode cX2_startLoad 18 = .ok (.ifCond .ne 5, 3) := by decide +kernel
theorem dX2_startLoad_21 : decode cX2_startLoad 21 = .ok (.iconst (-1), 1) := by decide +kernel
theorem dX2_startLoad_22 : decode cX2_startLoad 22 = .ok (.ireturn, 1) := by decide +kernel
theorem dX2_startLoad_23 : decode cX2_startLoad 23 = .ok (.aload 4, 2) := by decide +kernel
theorem dX2_startLoad_25 : decode cX2_startLoad 25 = .ok (.invokevirtual 76, 3) := by decide +kernel
theorem dX2_startLoad_28 : decode cX2_startLoad 28 = .ok (.ifCond .eq 12, 3) := by decide +kernel
theorem dX2_startLoad_31 : decode cX2_startLoad 31 = .ok (.aload_n 0, 1) := by decide +kernel
theorem dX2_startLoad_32 : decode cX2_startLoad 32 = .ok (.iload_n 2, 1) := by decide +kernel
theorem dX2_startLoad_33 : decode cX2_startLoad 33 = .ok (.aload_n 3, 1) := by decide +kernel
theorem dX2_startLoad_34 : decode cX2_startLoad 34 = .ok (.invokevirtual 117, 3) := by decide +kernel
theorem dX2_startLoad_37 : decode cX2_startLoad 37 = .ok (.goto 4, 3) := by decide +kernel
theorem dX2_startLoad_40 : decode cX2_startLoad 40 = .ok (.iconst 1, 1) := by decide +kernel
theorem dX2_startLoad_41 : decode cX2_startLoad 41 = .ok (.istore 5, 2) := by decide +kernel
theorem dX2_startLoad_43 : decode cX2_startLoad 43 = .ok (.iload 5, 2) := by decide +kernel
theorem dX2_startLoad_45 : decode cX2_startLoad 45 = .ok (.ifCond .eq 9, 3) := by decide +kernel
theorem dX2_startLoad_48 : decode cX2_startLoad 48 = .ok (.bipush (-10), 2) := by decide +kernel
theorem dX2_startLoad_50 : decode cX2_startLoad 50 = .ok (.iload 5, 2) := by decide +kernel
theorem dX2_startLoad_52 : decode cX2_startLoad 52 = .ok (.isub, 1) := by decide +kernel
theorem dX2_startLoad_53 : decode cX2_startLoad 53 = .ok (.ireturn, 1) := by decide +kernel
theorem dX2_startLoad_54 : decode cX2_startLoad 54 = .ok (.aload 4, 2) := by decide +kernel
theorem dX2_startLoad_56 : decode cX2_startLoad 56 = .ok (.iload_n 2, 1) := by decide +kernel
theorem dX2_startLoad_57 : decode cX2_startLoad 57 = .ok (.invokevirtual 121, 3) := by decide +kernel
theorem dX2_startLoad_60 : decode cX2_startLoad 60 = .ok (.aload_n 0, 1) := by decide +kernel
theorem dX2_startLoad_61 : decode cX2_startLoad 61 = .ok (.dup, 1) := by decide +kernel
theorem dX2_startLoad_62 : decode cX2_startLoad 62 = .ok (.getfield 64, 3) := by decide +kernel
theorem dX2_startLoad_65 : decode cX2_startLoad 65 = .ok (.iconst 1, 1) := by decide +kernel
theorem dX2_startLoad_66 : decode cX2_startLoad 66 = .ok (.iadd, 1) := by decide +kernel
theorem dX2_startLoad_67 : decode cX2_startLoad 67 = .ok (.putfield 64, 3) := by decide +kernel
theorem dX2_startLoad_70 : decode cX2_startLoad 70 = .ok (.aload 4, 2) := by decide +kernel
theorem dX2_startLoad_72 : decode cX2_startLoad 72 = .ok (.getfield 125, 3) := by decide +kernel
theorem dX2_startLoad_75 : decode cX2_startLoad 75 = .ok (.ireturn, 1) := by decide +kernel
set_option maxRecDepth 20000 in
theorem ggX2_addToLine_X6_isWithin : GoodIn wsX2_addToLine wsX6_isWithin := goodIn_r _ [4] (by decide +kernel) (by decide +kernel)
set_option maxRecDepth 20000 in
theorem gX2_addToLine_X6_isWithin_n100 : GoodIn wsX2_addToLine (wsX6_isWithin) := ggX2_addToLine_X6_isWithin
set_option maxRecDepth 20000 in
theorem ggX2_addToLine_X5_add : GoodIn wsX2_addToLine wsX5_add := goodIn_r _ [9, 10, 11, 26, 27] (by decide +kernel) (by decide +kernel)
set_option maxRecDepth 20000 in
theorem gX2_addToLine_X5_add : GoodIn wsX2_addToLine (wsV RX2 128 RX5 yX5_add wsX5_add) := goodIn_app (goodIn_of _ (by decide +kernel)) ggX2_addToLine_X5_add
theorem dX2_addToLine_0 : decode cX2_addToLine 0 = .ok (.iload_n 1, 1) := by decide +kernel
theorem dX2_addToLine_1 : decode cX2_addToLine 1 = .ok (.iconst 0, 1) := by decide +kernel
theorem dX2_addToLine_2 : decode cX2_addToLine 2 = .ok (.iconst 2, 1) := by decide +kernel
theorem dX2_addToLine_3 : decode cX2_addToLine 3 = .ok (.invokestatic 100, 3) := by decide +kernel
theorem dX2_addToLine_6 : decode cX2_addToLine 6 = .ok (.ifCond .eq 14, 3) := by decide +kernel
theorem dX2_addToLine_9 : decode cX2_addToLine 9 = .ok (.aload_n 0, 1) := by decide +kernel
theorem dX2_addToLine_10 : decode cX2_addToLine 10 = .ok (.getfield 28, 3) := by decide +kernel
theorem dX2_addToLine_13 : decode cX2_addToLine 13 = .ok (.iload_n 1, 1) := by decide +kernel
theorem dX2_addToLine_14 : decode cX2_addToLine 14 = .ok (.invokevirtual 128, 3) := by decide +kernel
theorem dX2_addToLine_17 : decode cX2_addToLine 17 = .ok (.goto 4, 3) := by decide +kernel
theorem dX2_addToLine_20 : decode cX2_addToLine 20 = .ok (.iconst (-1), 1) := by decide +kernel
theorem dX2_addToLine_21 : decode cX2_addToLine 21 = .ok (.ireturn, 1) := by decide +kernel
set_option maxRecDepth 20000 in
theorem ggX2_removeFromLine_X5_remove : GoodIn wsX2_removeFromLine wsX5_remove := goodIn_r _ [6, 7, 8, 9, 10, 11, 5, 12, 27, 28] (by decide +kernel) (by decide +kernel)
set_option maxRecDepth 20000 in
theorem gX2_removeFromLine_X5_remove : GoodIn wsX2_removeFromLine (wsV RX2 132 RX5 yX5_remove wsX5_remove) := goodIn_app (goodIn_of _ (by decide +kernel)) ggX2_removeFromLine_X5_remove
theorem dX2_removeFromLine_0 : decode cX2_removeFromLine 0 = .ok (.aload_n 0, 1) := by decide +kernel
theorem dX2_removeFromLine_1 : decode cX2_removeFromLine 1 = .ok (.getfield 28, 3) := by decide +kernel
theorem dX2_removeFromLine_4 : decode cX2_removeFromLine 4 = .ok (.iload_n 1, 1) := by decide +kernel
theorem dX2_removeFromLine_5 : decode cX2_removeFromLine 5 = .ok (.invokevirtual 132, 3) := by decide +kernel
theorem dX2_removeFromLine_8 : decode cX2_removeFromLine 8 = .ok (.ireturn, 1) := by decide +kernel
set_option maxRecDepth 20000 in
theorem ggX2_unload_X2_machineAt : GoodIn wsX2_unload wsX2_machineAt := goodIn_r _ [7, 8, 24, 25, 26, 27, 28, 29, 30, 31, 32, 33, 34, 35, 36, 37] (by decide +kernel) (by decide +kernel)
set_option maxRecDepth 20000 in
theorem gX2_unload_X2_machineAt : GoodIn wsX2_unload (wsV RX2 113 RX2 yX2_machineAt wsX2_machineAt) := goodIn_app (goodIn_of _ (by decide +kernel)) ggX2_unload_X2_machineAt
set_option maxRecDepth 20000 in
theorem ggX2_unload_X3_isEmpty : GoodIn wsX2_unload wsX3_isEmpty := goodIn_r _ [13, 14, 21, 22, 23] (by decide +kernel) (by decide +kernel)
set_option maxRecDepth 20000 in
theorem gX2_unload_X3_isEmpty : GoodIn wsX2_unload (wsV RX2 76 RX3 yX3_isEmpty wsX3_isEmpty) := goodIn_app (goodIn_of _ (by decide +kernel)) ggX2_unload_X3_isEmpty
set_option maxRecDepth 20000 in
theorem ggX2_unload_X3_clear : GoodIn wsX2_unload wsX3_clear := goodIn_r _ [18, 14, 19, 20, 21, 22, 23] (by decide +kernel) (by decide +kernel)
set_option maxRecDepth 20000 in
theorem gX2_unload_X3_clear : GoodIn wsX2_unload (wsV RX2 135 RX3 yX3_clear wsX3_clear) := goodIn_app (goodIn_of _ (by decide +kernel)) ggX2_unload_X3_clear
theorem dX2_unload_0 : decode cX2_unload 0 = .ok (.aload_n 0, 1) := by decide +kernel
theorem dX2_unload_1 : decode cX2_unload 1 = .ok (.iload_n 1, 1) := by decide +kernel
theorem dX2_unload_2 : decode cX2_unload 2 = .ok (.invokevirtual 113, 3) := by decide +kernel
theorem dX2_unload_5 : decode cX2_unload 5 = .ok (.astore_n 2, 1) := by decide +kernel
theorem dX2_unload_6 : decode cX2_unload 6 = .ok (.aload_n 2, 1) := by decide +kernel
theorem dX2_unload_7 : decode cX2_unload 7 = .ok (.ifnonnull 5, 3) := by decide +kernel
theorem dX2_unload_10 : decode cX2_unload 10 = .ok (.iconst (-1), 1) := by decide +kernel
theorem dX2_unload_11 : decode cX2_unload 11 = .ok (.ireturn, 1) := by decide +kernel
theorem dX2_unload_12 : decode cX2_unload 12 = .ok (.aload_n 2, 1) := by decide +kernel
theorem dX2_unload_13 : decode cX2_unload 13 = .ok (.invokevirtual 76, 3) := by decide +kernel
theorem dX2_unload_16 : decode cX2_unload 16 = .ok (.ifCond .eq 6, 3) := by decide +kernel
theorem dX2_unload_19 : decode cX2_unload 19 = .ok (.bipush (-4), 2) := by decide +kernel
theorem dX2_unload_21 : decode cX2_unload 21 = .ok (.ireturn, 1) := by decide +kernel
theorem dX2_unload_22 : decode cX2_unload 22 = .ok (.aload_n 2, 1) := by decide +kernel
theorem dX2_unload_23 : decode cX2_unload 23 = .ok (.getfield 125, 3) := by decide +kernel
theorem dX2_unload_26 : decode cX2_unload 26 = .ok (.istore_n 3, 1) := by decide +kernel
theorem dX2_unload_27 : decode cX2_unload 27 = .ok (.aload_n 2, 1) := by decide +kernel
theorem dX2_unload_28 : decode cX2_unload 28 = .ok (.invokevirtual 135, 3) := by decide +kernel
theorem dX2_unload_31 : decode cX2_unload 31 = .ok (.aload_n 0, 1) := by decide +kernel
theorem dX2_unload_32 : decode cX2_unload 32 = .ok (.dup, 1) := by decide +kernel
theorem dX2_unload_33 : decode cX2_unload 33 = .ok (.getfield 67, 3) := by decide +kernel
theorem dX2_unload_36 : decode cX2_unload 36 = .ok (.iconst 1, 1) := by decide +kernel
theorem dX2_unload_37 : decode cX2_unload 37 = .ok (.iadd, 1) := by decide +kernel
theorem dX2_unload_38 : decode cX2_unload 38 = .ok (.putfield 67, 3) := by decide +kernel
theorem dX2_unload_41 : decode cX2_unload 41 = .ok (.iload_n 3, 1) := by decide +kernel
theorem dX2_unload_42 : decode cX2_unload 42 = .ok (.ireturn, 1) := by decide +kernel
set_option maxRecDepth 20000 in
theorem ggX2_letPass_X6_isWithin : GoodIn wsX2_letPass wsX6_isWithin := goodIn_r _ [6] (by decide +kernel) (by decide +kernel)
set_option maxRecDepth 20000 in
theorem gX2_letPass_X6_isWithin_n100 : GoodIn wsX2_letPass (wsX6_isWithin) := ggX2_letPass_X6_isWithin
set_option maxRecDepth 20000 in
theorem ggX2_letPass_X2_passTick : GoodIn wsX2_letPass wsX2_passTick := goodIn_r _ [11, 12, 13, 14, 15, 16, 10, 17, 1, 18, 19, 20, 21, 22, 23, 24, 25, 26, 27, 28, 29, 30, 31, 32, 33, 34, 35, 36, 37, 38, 39, 40, 41, 42, 43, 44, 45, 46, 5, 47, 48, 49, 50, 51, 52, 53, 54, 55, 56, 57, 58, 59, 60, 61, 62, 63, 64, 65, 66, 67, 68, 69, 70, 71, 72, 73, 74, 75, 76, 77, 78, 79, 80, 3, 81, 82, 83, 84, 85, 86, 87, 88, 89, 90, 91, 92, 93, 94, 95, 96, 97, 98, 99, 100, 101, 102, 103, 104, 105, 106, 107, 108, 109, 110, 111, 112, 113, 114, 115, 116, 117, 118, 119, 120, 121, 122, 123, 124, 125, 126, 127, 128, 129, 130, 131, 132, 133, 134, 135, 136, 137, 138, 139, 140, 141, 142, 143, 144, 145, 146, 147, 148, 149, 150, 151, 152, 153, 154, 155] (by decide +kernel) (by decide +kernel)
set_option maxRecDepth 20000 in
theorem gX2_letPass_X2_passTick : GoodIn wsX2_letPass (wsV RX2 139 RX2 yX2_passTick wsX2_passTick) := goodIn_app (goodIn_of _ (by decide +kernel)) ggX2_letPass_X2_passTick
theorem dX2_letPass_0 : decode cX2_letPass 0 = .ok (.iload_n 1, 1) := by decide +kernel
theorem dX2_letPass_1 : decode cX2_letPass 1 = .ok (.iconst 1, 1) := by decide +kernel
theorem dX2_letPass_2 : decode cX2_letPass 2 = .ok (.sipush 200, 3) := by decide +kernel
theorem dX2_letPass_5 : decode cX2_letPass 5 = .ok (.invokestatic 100, 3) := by decide +kernel
theorem dX2_letPass_8 : decode cX2_letPass 8 = .ok (.ifCond .ne 6, 3) := by decide +kernel
theorem dX2_letPass_11 : decode cX2_letPass 11 = .ok (.bipush (-2), 2) := by decide +kernel
theorem dX2_letPass_13 : decode cX2_letPass 13 = .ok (.ireturn, 1) := by decide +kernel
theorem dX2_letPass_14 : decode cX2_letPass 14 = .ok (.aload_n 0, 1) := by decide +kernel
theorem dX2_letPass_15 : decode cX2_letPass 15 = .ok (.getfield 49, 3) := by decide +kernel
theorem dX2_letPass_18 : decode cX2_letPass 18 = .ok (.iload_n 1, 1) := by decide +kernel
theorem dX2_letPass_19 : decode cX2_letPass 19 = .ok (.iadd, 1) := by decide +kernel
theorem dX2_letPass_20 : decode cX2_letPass 20 = .ok (.ldc 138, 2) := by decide +kernel
theorem dX2_letPass_22 : decode cX2_letPass 22 = .ok (.if_icmp .le 6, 3) := by decide +kernel
theorem dX2_letPass_25 : decode cX2_letPass 25 = .ok (.bipush (-3), 2) := by decide +kernel
theorem dX2_letPass_27 : decode cX2_letPass 27 = .ok (.ireturn, 1) := by decide +kernel
theorem dX2_letPass_28 : decode cX2_letPass 28 = .ok (.aload_n 0, 1) := by decide +kernel
theorem dX2_letPass_29 : decode cX2_letPass 29 = .ok (.getfield 52, 3) := by decide +kernel
theorem dX2_letPass_32 : decode cX2_letPass 32 = .ok (.istore_n 3, 1) := by decide +kernel
theorem dX2_letPass_33 : decode cX2_letPass 33 = .ok (.iconst 0, 1) := by decide +kernel
theorem dX2_letPass_34 : decode cX2_letPass 34 = .ok (.istore 4, 2) := by decide +kernel
theorem dX2_letPass_36 : decode cX2_letPass 36 = .ok (.iload 4, 2) := by decide +kernel
theorem dX2_letPass_38 : decode cX2_letPass 38 = .ok (.iload_n 1, 1) := by decide +kernel
theorem dX2_letPass_39 : decode cX2_letPass 39 = .ok (.if_icmp .ge 14, 3) := by decide +kernel
theorem dX2_letPass_42 : decode cX2_letPass 42 = .ok (.aload_n 0, 1) := by decide +kernel
theorem dX2_letPass_43 : decode cX2_letPass 43 = .ok (.aload_n 2, 1) := by decide +kernel
theorem dX2_letPass_44 : decode cX2_letPass 44 = .ok (.invokevirtual 139, 3) := by decide +kernel
theorem dX2_letPass_47 : decode cX2_letPass 47 = .ok (.iinc 4 1, 3) := by decide +kernel
theorem dX2_letPass_50 : decode cX2_letPass 50 = .ok (.goto (-14), 3) := by decide +kernel
theorem dX2_letPass_53 : decode cX2_letPass 53 = .ok (.aload_n 0, 1) := by decide +kernel
theorem dX2_letPass_54 : decode cX2_letPass 54 = .ok (.getfield 52, 3) := by decide +kernel
theorem dX2_letPass_57 : decode cX2_letPass 57 = .ok (.iload_n 3, 1) := by decide +kernel
theorem dX2_letPass_58 : decode cX2_letPass 58 = .ok (.isub, 1) := by decide +kernel
theorem dX2_letPass_59 : decode cX2_letPass 59 = .ok (.ireturn, 1) := by decide +kernel
set_option maxRecDepth 20000 in
theorem ggX2_lightFires_X2_boilerAt : GoodIn wsX2_lightFires wsX2_boilerAt := goodIn_r _ [6, 7, 13, 14, 15, 16, 17, 18, 19, 20, 21, 22, 23, 24, 25, 26] (by decide +kernel) (by decide +kernel)
set_option maxRecDepth 20000 in
theorem gX2_lightFires_X2_boilerAt : GoodIn wsX2_lightFires (wsV RX2 96 RX2 yX2_boilerAt wsX2_boilerAt) := goodIn_app (goodIn_of _ (by decide +kernel)) ggX2_lightFires_X2_boilerAt
theorem dX2_lightFires_0 : decode cX2_lightFires 0 = .ok (.aload_n 0, 1) := by decide +kernel
theorem dX2_lightFires_1 : decode cX2_lightFires 1 = .ok (.iconst 0, 1) := by decide +kernel
theorem dX2_lightFires_2 : decode cX2_lightFires 2 = .ok (.invokevirtual 96, 3) := by decide +kernel
theorem dX2_lightFires_5 : decode cX2_lightFires 5 = .ok (.astore_n 3, 1) := by decide +kernel
theorem dX2_lightFires_6 : decode cX2_lightFires 6 = .ok (.aload_n 0, 1) := by decide +kernel
theorem dX2_lightFires_7 : decode cX2_lightFires 7 = .ok (.iconst 1, 1) := by decide +kernel
theorem dX2_lightFires_8 : decode cX2_lightFires 8 = .ok (.invokevirtual 96, 3) := by decide +kernel
theorem dX2_lightFires_11 : decode cX2_lightFires 11 = .ok (.astore 4, 2) := by decide +kernel
theorem dX2_lightFires_13 : decode cX2_lightFires 13 = .ok (.aload_n 3, 1) := by decide +kernel
theorem dX2_lightFires_14 : decode cX2_lightFires 14 = .ok (.ifnull 19, 3) := by decide +kernel
theorem dX2_lightFires_17 : decode cX2_lightFires 17 = .ok (.aload 4, 2) := by decide +kernel
theorem dX2_lightFires_19 : decode cX2_lightFires 19 = .ok (.ifnull 14, 3) := by decide +kernel
theorem dX2_lightFires_22 : decode cX2_lightFires 22 = .ok (.aload_n 3, 1) := by decide +kernel
theorem dX2_lightFires_23 : decode cX2_lightFires 23 = .ok (.iload_n 1, 1) := by decide +kernel
theorem dX2_lightFires_24 : decode cX2_lightFires 24 = .ok (.putfield 107, 3) := by decide +kernel
theorem dX2_lightFires_27 : decode cX2_lightFires 27 = .ok (.aload 4, 2) := by decide +kernel
theorem dX2_lightFires_29 : decode cX2_lightFires 29 = .ok (.iload_n 2, 1) := by decide +kernel
theorem dX2_lightFires_30 : decode cX2_lightFires 30 = .ok (.putfield 107, 3) := by decide +kernel
theorem dX2_lightFires_33 : decode cX2_lightFires 33 = .ok (.return_, 1) := by decide +kernel
set_option maxRecDepth 20000 in
theorem ggX2_passTick_X2_workTick : GoodIn wsX2_passTick wsX2_workTick := goodIn_r _ [7, 8, 9, 10, 11, 12, 13, 14, 6, 15, 16, 17, 18, 19, 20, 21, 22, 23, 24, 25, 26, 27, 28, 29, 30, 31, 32, 33, 34, 35, 36, 37, 38, 39, 40, 41, 42, 43, 44, 45, 46, 47, 48, 49, 50, 51, 52, 53, 54, 55, 56, 57, 58, 59, 60, 61, 62, 63, 64, 65, 66, 67, 68, 69, 70, 71, 72, 73, 74, 75, 76, 77, 78, 79, 80, 81, 125, 126, 127, 128, 129, 130, 131, 132, 133, 134, 135, 136, 137, 138, 139, 140, 141, 142, 143, 144, 145, 146] (by decide +kernel) (by decide +kernel)
set_option maxRecDepth 20000 in
theorem gX2_passTick_X2_workTick : GoodIn wsX2_passTick (wsV RX2 143 RX2 yX2_workTick wsX2_workTick) := goodIn_app (goodIn_of _ (by decide +kernel)) ggX2_passTick_X2_workTick
set_option maxRecDepth 20000 in
theorem ggX2_passTick_X5_kindAt : GoodIn wsX2_passTick wsX5_kindAt := goodIn_r _ [86, 87, 88, 147, 148] (by decide +kernel) (by decide +kernel)
set_option maxRecDepth 20000 in
theorem gX2_passTick_X5_kindAt : GoodIn wsX2_passTick (wsV RX2 146 RX5 yX5_kindAt wsX5_kindAt) := goodIn_app (goodIn_of _ (by decide +kernel)) ggX2_passTick_X5_kindAt
set_option maxRecDepth 20000 in
theorem ggX2_passTick_X2_reasonAgainst : GoodIn wsX2_passTick wsX2_reasonAgainst := goodIn_r _ [92, 93, 94, 95, 6, 96, 35, 52, 53, 54, 55, 56, 57, 40, 41, 42, 43, 9, 44, 97, 98, 99, 100, 1, 8, 73, 51, 11, 10, 16, 21, 2, 101, 74, 49, 102, 103, 104, 25, 105, 28, 29, 30, 27, 81, 106, 107, 108, 109, 62, 63, 110, 111, 112, 85, 113, 87, 88, 114, 115, 116, 117, 118, 38, 119, 3, 4, 5, 7, 12, 13, 14, 15, 17, 18, 19, 20, 22, 23, 24, 26, 31, 32, 33, 34, 36, 37, 39, 45, 46, 47, 48, 50, 58, 59, 60, 61, 64, 65, 66, 67, 68, 69, 70, 71, 72, 75, 76, 77, 78, 79, 80, 125, 126, 127, 128, 129, 130, 131, 132, 133, 134, 135, 136, 137, 138, 144, 145, 146, 139, 140, 141, 142, 143, 147, 148] (by decide +kernel) (by decide +kernel)
set_option maxRecDepth 20000 in
theorem gX2_passTick_X2_reasonAgainst : GoodIn wsX2_passTick (wsV RX2 117 RX2 yX2_reasonAgainst wsX2_reasonAgainst) := goodIn_app (goodIn_of _ (by decide +kernel)) ggX2_passTick_X2_reasonAgainst
set_option maxRecDepth 20000 in
theorem ggX2_passTick_X2_lowestEmptyMachine : GoodIn wsX2_passTick wsX2_lowestEmptyMachine := goodIn_r _ [96, 35, 52, 53, 54, 55, 56, 57, 125, 126, 127, 128, 129, 130, 131, 132, 133, 134, 135, 136, 137, 138, 144, 145, 146] (by decide +kernel) (by decide +kernel)
set_option maxRecDepth 20000 in
theorem gX2_passTick_X2_lowestEmptyMachine : GoodIn wsX2_passTick (wsV RX2 149 RX2 yX2_lowestEmptyMachine wsX2_lowestEmptyMachine) := goodIn_app (goodIn_of _ (by decide +kernel)) ggX2_passTick_X2_lowestEmptyMachine
set_option maxRecDepth 20000 in
theorem ggX2_passTick_X5_remove : GoodIn wsX2_passTick wsX5_remove := goodIn_r _ [123, 87, 88, 124, 83, 84, 85, 86, 147, 148] (by decide +kernel) (by decide +kernel)
set_option maxRecDepth 20000 in
theorem gX2_passTick_X5_remove : GoodIn wsX2_passTick (wsV RX2 132 RX5 yX5_remove wsX5_remove) := goodIn_app (goodIn_of _ (by decide +kernel)) ggX2_passTick_X5_remove
set_option maxRecDepth 20000 in
theorem ggX2_passTick_X3_put : GoodIn wsX2_passTick wsX3_put := goodIn_r _ [117, 57, 62, 63, 118, 38, 119, 144, 145, 146] (by decide +kernel) (by decide +kernel)
set_option maxRecDepth 20000 in
theorem gX2_passTick_X3_put : GoodIn wsX2_passTick (wsV RX2 121 RX3 yX3_put wsX3_put) := goodIn_app (goodIn_of _ (by decide +kernel)) ggX2_passTick_X3_put
theorem dX2_passTick_0 : decode cX2_passTick 0 = .ok (.aload_n 0, 1) := by decide +kernel
theorem dX2_passTick_1 : decode cX2_passTick 1 = .ok (.invokevirtual 143, 3) := by decide +kernel
theorem dX2_passTick_4 : decode cX2_passTick 4 = .ok (.pop, 1) := by decide +kernel
theorem dX2_passTick_5 : decode cX2_passTick 5 = .ok (.aload_n 0, 1) := by decide +kernel
theorem dX2_passTick_6 : decode cX2_passTick 6 = .ok (.getfield 28, 3) := by decide +kernel
theorem dX2_passTick_9 : decode cX2_passTick 9 = .ok (.iconst 0, 1) := by decide +kernel
theorem dX2_passTick_10 : decode cX2_passTick 10 = .ok (.invokevirtual 146, 3) := by decide +kernel
theorem dX2_passTick_13 : decode cX2_passTick 13 = .ok (.istore_n 2, 1) := by decide +kernel
theorem dX2_passTick_14 : decode cX2_passTick 14 = .ok (.iload_n 2, 1) := by decide +kernel
theorem dX2_passTick_15 : decode cX2_passTick 15 = .ok (.bipush (-5), 2) := by decide +kernel
theorem dX2_passTick_17 : decode cX2_passTick 17 = .ok (.if_icmp .eq 12, 3) := by decide +kernel
theorem dX2_passTick_20 : decode cX2_passTick 20 = .ok (.aload_n 0, 1) := by decide +kernel
theorem dX2_passTick_21 : decode cX2_passTick 21 = .ok (.iload_n 2, 1) := by decide +kernel
theorem dX2_passTick_22 : decode cX2_passTick 22 = .ok (.aload_n 1, 1) := by decide +kernel
theorem dX2_passTick_23 : decode cX2_passTick 23 = .ok (.invokevirtual 117, 3) := by decide +kernel
theorem dX2_passTick_26 : decode cX2_passTick 26 = .ok (.ifCond .eq 4, 3) := by decide +kernel
theorem dX2_passTick_29 : decode cX2_passTick 29 = .ok (.return_, 1) := by decide +kernel
theorem dX2_passTick_30 : decode cX2_passTick 30 = .ok (.aload_n 0, 1) := by decide +kernel
theorem dX2_passTick_31 : decode cX2_passTick 31 = .ok (.invokevirtual 149, 3) := by decide +kernel
theorem dX2_passTick_34 : decode cX2_passTick 34 = .ok (.astore_n 3, 1) := by decide +kernel
theorem dX2_passTick_35 : decode cX2_passTick 35 = .ok (.aload_n 3, 1) := by decide +kernel
theorem dX2_passTick_36 : decode cX2_passTick 36 = .ok (.ifnull 27, 3) := by decide +kernel
theorem dX2_passTick_39 : decode cX2_passTick 39 = .ok (.aload_n 0, 1) := by decide +kernel
theorem dX2_passTick_40 : decode cX2_passTick 40 = .ok (.getfield 28, 3) := by decide +kernel
theorem dX2_passTick_43 : decode cX2_passTick 43 = .ok (.iconst 0, 1) := by decide +kernel
theorem dX2_passTick_44 : decode cX2_passTick 44 = .ok (.invokevirtual 132, 3) := by decide +kernel
theorem dX2_passTick_47 : decode cX2_passTick 47 = .ok (.pop, 1) := by decide +kernel
theorem dX2_passTick_48 : decode cX2_passTick 48 = .ok (.aload_n 3, 1) := by decide +kernel
theorem dX2_passTick_49 : decode cX2_passTick 49 = .ok (.iload_n 2, 1) := by decide +kernel
theorem dX2_passTick_50 : decode cX2_passTick 50 = .ok (.invokevirtual 121, 3) := by decide +kernel
theorem dX2_passTick_53 : decode cX2_passTick 53 = .ok (.aload_n 0, 1) := by decide +kernel
theorem dX2_passTick_54 : decode cX2_passTick 54 = .ok (.dup, 1) := by decide +kernel
theorem dX2_passTick_55 : decode cX2_passTick 55 = .ok (.getfield 64, 3) := by decide +kernel
theorem dX2_passTick_58 : decode cX2_passTick 58 = .ok (.iconst 1, 1) := by decide +kernel
theorem dX2_passTick_59 : decode cX2_passTick 59 = .ok (.iadd, 1) := by decide +kernel
theorem dX2_passTick_60 : decode cX2_passTick 60 = .ok (.putfield 64, 3) := by decide +kernel
theorem dX2_passTick_63 : decode cX2_passTick 63 = .ok (.return_, 1) := by decide +kernel
set_option maxRecDepth 20000 in
theorem ggX2_reasonAgainst_X2_lowestEmptyMachine : GoodIn wsX2_reasonAgainst wsX2_lowestEmptyMachine := goodIn_r _ [5, 6, 7, 8, 9, 10, 11, 12, 112, 113, 114, 115, 116, 117, 118, 119, 120, 121, 122, 123, 124, 125, 126, 127, 128] (by decide +kernel) (by decide +kernel)
set_option maxRecDepth 20000 in
theorem gX2_reasonAgainst_X2_lowestEmptyMachine : GoodIn wsX2_reasonAgainst (wsV RX2 149 RX2 yX2_lowestEmptyMachine wsX2_lowestEmptyMachine) := goodIn_app (goodIn_of _ (by decide +kernel)) ggX2_reasonAgainst_X2_lowestEmptyMachine
set_option maxRecDepth 20000 in
theorem ggX2_reasonAgainst_X2_allPressure : GoodIn wsX2_reasonAgainst wsX2_allPressure := goodIn_r _ [16, 17, 18, 112, 113, 114, 115, 116, 117, 118, 119, 120, 121, 122, 123, 124, 125, 129, 130, 131, 132, 133] (by decide +kernel) (by decide +kernel)
set_option maxRecDepth 20000 in
theorem gX2_reasonAgainst_X2_allPressure : GoodIn wsX2_reasonAgainst (wsV RX2 93 RX2 yX2_allPressure wsX2_allPressure) := goodIn_app (goodIn_of _ (by decide +kernel)) ggX2_reasonAgainst_X2_allPressure
set_option maxRecDepth 20000 in
theorem ggX2_reasonAgainst_X2_copyFrom : GoodIn wsX2_reasonAgainst wsX2_copyFrom := goodIn_r _ [22, 17, 6, 23, 24, 25, 26, 27, 28, 29, 30, 31, 32, 33, 34, 35, 36, 37, 38, 39, 40, 41, 42, 43, 44, 45, 46, 47, 10, 48, 12, 49, 50, 51, 52, 53, 54, 55, 56, 57, 112, 113, 114, 115, 116, 117, 118, 119, 120, 121, 122, 123, 124, 125, 129, 130, 131, 132, 133, 126, 127, 128, 134, 135] (by decide +kernel) (by decide +kernel)
set_option maxRecDepth 20000 in
theorem gX2_reasonAgainst_X2_copyFrom : GoodIn wsX2_reasonAgainst (wsV RX2 153 RX2 yX2_copyFrom wsX2_copyFrom) := goodIn_app (goodIn_of _ (by decide +kernel)) ggX2_reasonAgainst_X2_copyFrom
set_option maxRecDepth 20000 in
theorem ggX2_reasonAgainst_X3_put : GoodIn wsX2_reasonAgainst wsX3_put := goodIn_r _ [61, 12, 49, 50, 62, 63, 64, 126, 127, 128] (by decide +kernel) (by decide +kernel)
set_option maxRecDepth 20000 in
theorem gX2_reasonAgainst_X3_put : GoodIn wsX2_reasonAgainst (wsV RX2 121 RX3 yX3_put wsX3_put) := goodIn_app (goodIn_of _ (by decide +kernel)) ggX2_reasonAgainst_X3_put
set_option maxRecDepth 20000 in
theorem ggX2_reasonAgainst_X6_ticksOf : GoodIn wsX2_reasonAgainst wsX6_ticksOf := goodIn_r _ [64] (by decide +kernel) (by decide +kernel)
set_option maxRecDepth 20000 in
theorem gX2_reasonAgainst_X6_ticksOf_n155 : GoodIn wsX2_reasonAgainst (wsX6_ticksOf) := ggX2_reasonAgainst_X6_ticksOf
set_option maxRecDepth 20000 in
theorem ggX2_reasonAgainst_X2_workTick : GoodIn wsX2_reasonAgainst wsX2_workTick := goodIn_r _ [68, 24, 17, 28, 27, 69, 70, 71, 4, 72, 29, 73, 74, 75, 76, 30, 77, 78, 79, 38, 80, 43, 40, 41, 42, 81, 82, 83, 84, 6, 85, 86, 63, 87, 13, 14, 15, 16, 18, 88, 89, 90, 91, 34, 92, 26, 7, 8, 9, 10, 11, 12, 93, 94, 95, 96, 49, 50, 97, 98, 99, 100, 101, 102, 103, 104, 105, 25, 33, 106, 107, 108, 109, 110, 111, 44, 112, 113, 114, 115, 116, 117, 118, 119, 120, 121, 122, 123, 124, 125, 129, 130, 131, 132, 133, 126, 127, 128] (by decide +kernel) (by decide +kernel)
set_option maxRecDepth 20000 in
theorem gX2_reasonAgainst_X2_workTick : GoodIn wsX2_reasonAgainst (wsV RX2 143 RX2 yX2_workTick wsX2_workTick) := goodIn_app (goodIn_of _ (by decide +kernel)) ggX2_reasonAgainst_X2_workTick
theorem dX2_reasonAgainst_0 : decode cX2_reasonAgainst 0 = .ok (.aload_n 0, 1) := by decide +kernel
theorem dX2_reasonAgainst_1 : decode cX2_reasonAgainst 1 = .ok (.invokevirtual 149, 3) := by decide +kernel
theorem dX2_reasonAgainst_4 : decode cX2_reasonAgainst 4 = .ok (.ifnonnull 5, 3) := by decide +kernel
theorem dX2_reasonAgainst_7 : decode cX2_reasonAgainst 7 = .ok (.iconst 1, 1) := by decide +kernel
theorem dX2_reasonAgainst_8 : decode cX2_reasonAgainst 8 = .ok (.ireturn, 1) := by decide +kernel
theorem dX2_reasonAgainst_9 : decode cX2_reasonAgainst 9 = .ok (.aload_n 0, 1) := by decide +kernel
theorem dX2_reasonAgainst_10 : decode cX2_reasonAgainst 10 = .ok (.invokevirtual 93, 3) := by decide +kernel
theorem dX2_reasonAgainst_13 : decode cX2_reasonAgainst 13 = .ok (.bipush 10, 2) := by decide +kernel
theorem dX2_reasonAgainst_15 : decode cX2_reasonAgainst 15 = .ok (.if_icmp .ge 5, 3) := by decide +kernel
theorem dX2_reasonAgainst_18 : decode cX2_reasonAgainst 18 = .ok (.iconst 2, 1) := by decide +kernel
theorem dX2_reasonAgainst_19 : decode cX2_reasonAgainst 19 = .ok (.ireturn, 1) := by decide +kernel
theorem dX2_reasonAgainst_20 : decode cX2_reasonAgainst 20 = .ok (.aload_n 2, 1) := by decide +kernel
theorem dX2_reasonAgainst_21 : decode cX2_reasonAgainst 21 = .ok (.aload_n 0, 1) := by decide +kernel
theorem dX2_reasonAgainst_22 : decode cX2_reasonAgainst 22 = .ok (.invokevirtual 153, 3) := by decide +kernel
theorem dX2_reasonAgainst_25 : decode cX2_reasonAgainst 25 = .ok (.aload_n 2, 1) := by decide +kernel
theorem dX2_reasonAgainst_26 : decode cX2_reasonAgainst 26 = .ok (.invokevirtual 149, 3) := by decide +kernel
theorem dX2_reasonAgainst_29 : decode cX2_reasonAgainst 29 = .ok (.astore_n 3, 1) := by decide +kernel
theorem dX2_reasonAgainst_30 : decode cX2_reasonAgainst 30 = .ok (.aload_n 3, 1) := by decide +kernel
theorem dX2_reasonAgainst_31 : decode cX2_reasonAgainst 31 = .ok (.ifnonnull 5, 3) := by decide +kernel
theorem dX2_reasonAgainst_34 : decode cX2_reasonAgainst 34 = .ok (.iconst 1, 1) := by decide +kernel
theorem dX2_reasonAgainst_35 : decode cX2_reasonAgainst 35 = .ok (.ireturn, 1) := by decide +kernel
theorem dX2_reasonAgainst_36 : decode cX2_reasonAgainst 36 = .ok (.aload_n 3, 1) := by decide +kernel
theorem dX2_reasonAgainst_37 : decode cX2_reasonAgainst 37 = .ok (.iload_n 1, 1) := by decide +kernel
theorem dX2_reasonAgainst_38 : decode cX2_reasonAgainst 38 = .ok (.invokevirtual 121, 3) := by decide +kernel
theorem dX2_reasonAgainst_41 : decode cX2_reasonAgainst 41 = .ok (.iload_n 1, 1) := by decide +kernel
theorem dX2_reasonAgainst_42 : decode cX2_reasonAgainst 42 = .ok (.invokestatic 155, 3) := by decide +kernel
theorem dX2_reasonAgainst_45 : decode cX2_reasonAgainst 45 = .ok (.istore 4, 2) := by decide +kernel
theorem dX2_reasonAgainst_47 : decode cX2_reasonAgainst 47 = .ok (.iconst 0, 1) := by decide +kernel
theorem dX2_reasonAgainst_48 : decode cX2_reasonAgainst 48 = .ok (.istore 5, 2) := by decide +kernel
theorem dX2_reasonAgainst_50 : decode cX2_reasonAgainst 50 = .ok (.iload 5, 2) := by decide +kernel
theorem dX2_reasonAgainst_52 : decode cX2_reasonAgainst 52 = .ok (.iload 4, 2) := by decide +kernel
theorem dX2_reasonAgainst_54 : decode cX2_reasonAgainst 54 = .ok (.if_icmp .ge 18, 3) := by decide +kernel
theorem dX2_reasonAgainst_57 : decode cX2_reasonAgainst 57 = .ok (.aload_n 2, 1) := by decide +kernel
theorem dX2_reasonAgainst_58 : decode cX2_reasonAgainst 58 = .ok (.invokevirtual 143, 3) := by decide +kernel
theorem dX2_reasonAgainst_61 : decode cX2_reasonAgainst 61 = .ok (.ifCond .eq 5, 3) := by decide +kernel
theorem dX2_reasonAgainst_64 : decode cX2_reasonAgainst 64 = .ok (.iconst 3, 1) := by decide +kernel
theorem dX2_reasonAgainst_65 : decode cX2_reasonAgainst 65 = .ok (.ireturn, 1) := by decide +kernel
theorem dX2_reasonAgainst_66 : decode cX2_reasonAgainst 66 = .ok (.iinc 5 1, 3) := by decide +kernel
theorem dX2_reasonAgainst_69 : decode cX2_reasonAgainst 69 = .ok (.goto (-19), 3) := by decide +kernel
theorem dX2_reasonAgainst_72 : decode cX2_reasonAgainst 72 = .ok (.iconst 0, 1) := by decide +kernel
theorem dX2_reasonAgainst_73 : decode cX2_reasonAgainst 73 = .ok (.ireturn, 1) := by decide +kernel
set_option maxRecDepth 20000 in
theorem ggX2_workTick_X2_receiveRation : GoodIn wsX2_workTick wsX2_receiveRation := goodIn_r _ [9, 10, 3, 11, 12, 13, 14, 15, 76, 77, 78, 79, 80, 81, 82, 83, 84, 85, 86, 87, 88, 89] (by decide +kernel) (by decide +kernel)
set_option maxRecDepth 20000 in
theorem gX2_workTick_X2_receiveRation : GoodIn wsX2_workTick (wsV RX2 158 RX2 yX2_receiveRation wsX2_receiveRation) := goodIn_app (goodIn_of _ (by decide +kernel)) ggX2_workTick_X2_receiveRation
set_option maxRecDepth 20000 in
theorem ggX2_workTick_X0_burn : GoodIn wsX2_workTick wsX0_burn := goodIn_r _ [20, 21, 22, 23, 24, 90, 91, 92, 93, 94] (by decide +kernel) (by decide +kernel)
set_option maxRecDepth 20000 in
theorem gX2_workTick_X0_burn : GoodIn wsX2_workTick (wsV RX2 161 RX0 yX0_burn wsX0_burn) := goodIn_app (goodIn_of _ (by decide +kernel)) ggX2_workTick_X0_burn
set_option maxRecDepth 20000 in
theorem ggX2_workTick_X2_need : GoodIn wsX2_workTick wsX2_need := goodIn_r _ [28, 29, 30, 31, 32, 33, 76, 77, 78, 79, 80, 81, 82, 83, 84, 85, 86, 87, 88, 89, 95, 96, 97] (by decide +kernel) (by decide +kernel)
set_option maxRecDepth 20000 in
theorem gX2_workTick_X2_need : GoodIn wsX2_workTick (wsV RX2 164 RX2 yX2_need wsX2_need) := goodIn_app (goodIn_of _ (by decide +kernel)) ggX2_workTick_X2_need
set_option maxRecDepth 20000 in
theorem ggX2_workTick_X2_allPressure : GoodIn wsX2_workTick wsX2_allPressure := goodIn_r _ [37, 2, 38, 76, 77, 78, 79, 80, 81, 82, 83, 84, 85, 86, 87, 88, 89, 90, 91, 92, 93, 94] (by decide +kernel) (by decide +kernel)
set_option maxRecDepth 20000 in
theorem gX2_workTick_X2_allPressure : GoodIn wsX2_workTick (wsV RX2 93 RX2 yX2_allPressure wsX2_allPressure) := goodIn_app (goodIn_of _ (by decide +kernel)) ggX2_workTick_X2_allPressure
set_option maxRecDepth 20000 in
theorem ggX2_workTick_X2_holdLoads : GoodIn wsX2_workTick wsX2_holdLoads := goodIn_r _ [42, 43, 29, 44, 45, 46, 47, 48, 49, 50, 51, 52, 53, 54, 55, 56, 57, 76, 77, 78, 79, 80, 81, 82, 83, 84, 85, 86, 87, 88, 89, 95, 96, 97] (by decide +kernel) (by decide +kernel)
set_option maxRecDepth 20000 in
theorem gX2_workTick_X2_holdLoads : GoodIn wsX2_workTick (wsV RX2 167 RX2 yX2_holdLoads wsX2_holdLoads) := goodIn_app (goodIn_of _ (by decide +kernel)) ggX2_workTick_X2_holdLoads
set_option maxRecDepth 20000 in
theorem ggX2_workTick_X2_takeSteam : GoodIn wsX2_workTick wsX2_takeSteam := goodIn_r _ [61, 2, 38, 76, 77, 78, 79, 80, 81, 82, 83, 84, 85, 86, 87, 88, 89, 90, 91, 92, 93, 94] (by decide +kernel) (by decide +kernel)
set_option maxRecDepth 20000 in
theorem gX2_workTick_X2_takeSteam : GoodIn wsX2_workTick (wsV RX2 170 RX2 yX2_takeSteam wsX2_takeSteam) := goodIn_app (goodIn_of _ (by decide +kernel)) ggX2_workTick_X2_takeSteam
set_option maxRecDepth 20000 in
theorem ggX2_workTick_X2_workLoads : GoodIn wsX2_workTick wsX2_workLoads := goodIn_r _ [65, 29, 66, 67, 68, 30, 46, 47, 48, 49, 50, 51, 69, 32, 70, 52, 53, 54, 55, 56, 57, 76, 77, 78, 79, 80, 81, 82, 83, 84, 85, 86, 87, 88, 89, 95, 96, 97] (by decide +kernel) (by decide +kernel)
set_option maxRecDepth 20000 in
theorem gX2_workTick_X2_workLoads : GoodIn wsX2_workTick (wsV RX2 173 RX2 yX2_workLoads wsX2_workLoads) := goodIn_app (goodIn_of _ (by decide +kernel)) ggX2_workTick_X2_workLoads
set_option maxRecDepth 20000 in
theorem ggX2_workTick_X0_coolDown : GoodIn wsX2_workTick wsX0_coolDown := goodIn_r _ [74, 24, 22, 21, 75, 90, 91, 92, 93, 94] (by decide +kernel) (by decide +kernel)
set_option maxRecDepth 20000 in
theorem gX2_workTick_X0_coolDown : GoodIn wsX2_workTick (wsV RX2 176 RX0 yX0_coolDown wsX0_coolDown) := goodIn_app (goodIn_of _ (by decide +kernel)) ggX2_workTick_X0_coolDown
theorem dX2_workTick_0 : decode cX2_workTick 0 = .ok (.aload_n 0, 1) := by decide +kernel
theorem dX2_workTick_1 : decode cX2_workTick 1 = .ok (.dup, 1) := by decide +kernel
theorem dX2_workTick_2 : decode cX2_workTick 2 = .ok (.getfield 49, 3) := by decide +kernel
theorem dX2_workTick_5 : decode cX2_workTick 5 = .ok (.iconst 1, 1) := by decide +kernel
theorem dX2_workTick_6 : decode cX2_workTick 6 = .ok (.iadd, 1) := by decide +kernel
theorem dX2_workTick_7 : decode cX2_workTick 7 = .ok (.putfield 49, 3) := by decide +kernel
theorem dX2_workTick_10 : decode cX2_workTick 10 = .ok (.aload_n 0, 1) := by decide +kernel
theorem dX2_workTick_11 : decode cX2_workTick 11 = .ok (.getfield 49, 3) := by decide +kernel
theorem dX2_workTick_14 : decode cX2_workTick 14 = .ok (.bipush 60, 2) := by decide +kernel
theorem dX2_workTick_16 : decode cX2_workTick 16 = .ok (.irem, 1) := by decide +kernel
theorem dX2_workTick_17 : decode cX2_workTick 17 = .ok (.ifCond .ne 7, 3) := by decide +kernel
theorem dX2_workTick_20 : decode cX2_workTick 20 = .ok (.aload_n 0, 1) := by decide +kernel
theorem dX2_workTick_21 : decode cX2_workTick 21 = .ok (.invokevirtual 158, 3) := by decide +kernel
theorem dX2_workTick_24 : decode cX2_workTick 24 = .ok (.aload_n 0, 1) := by decide +kernel
theorem dX2_workTick_25 : decode cX2_workTick 25 = .ok (.getfield 12, 3) := by decide +kernel
theorem dX2_workTick_28 : decode cX2_workTick 28 = .ok (.astore_n 1, 1) := by decide +kernel
theorem dX2_workTick_29 : decode cX2_workTick 29 = .ok (.aload_n 1, 1) := by decide +kernel
theorem dX2_workTick_30 : decode cX2_workTick 30 = .ok (.arraylength, 1) := by decide +kernel
theorem dX2_workTick_31 : decode cX2_workTick 31 = .ok (.istore_n 2, 1) := by decide +kernel
theorem dX2_workTick_32 : decode cX2_workTick 32 = .ok (.iconst 0, 1) := by decide +kernel
theorem dX2_workTick_33 : decode cX2_workTick 33 = .ok (.istore_n 3, 1) := by decide +kernel
theorem dX2_workTick_34 : decode cX2_workTick 34 = .ok (.iload_n 3, 1) := by decide +kernel
theorem dX2_workTick_35 : decode cX2_workTick 35 = .ok (.iload_n 2, 1) := by decide +kernel
theorem dX2_workTick_36 : decode cX2_workTick 36 = .ok (.if_icmp .ge 47, 3) := by decide +kernel
theorem dX2_workTick_39 : decode cX2_workTick 39 = .ok (.aload_n 1, 1) := by decide +kernel
theorem dX2_workTick_40 : decode cX2_workTick 40 = .ok (.iload_n 3, 1) := by decide +kernel
theorem dX2_workTick_41 : decode cX2_workTick 41 = .ok (.aaload, 1) := by decide +kernel
theorem dX2_workTick_42 : decode cX2_workTick 42 = .ok (.astore 4, 2) := by decide +kernel
theorem dX2_workTick_44 : decode cX2_workTick 44 = .ok (.aload 4, 2) := by decide +kernel
theorem dX2_workTick_46 : decode cX2_workTick 46 = .ok (.aload_n 0, 1) := by decide +kernel
theorem dX2_workTick_47 : decode cX2_workTick 47 = .ok (.getfield 32, 3) := by decide +kernel
theorem dX2_workTick_50 : decode cX2_workTick 50 = .ok (.invokevirtual 161, 3) := by decide +kernel
theorem dX2_workTick_53 : decode cX2_workTick 53 = .ok (.istore 5, 2) := by decide +kernel
theorem dX2_workTick_55 : decode cX2_workTick 55 = .ok (.aload_n 0, 1) := by decide +kernel
theorem dX2_workTick_56 : decode cX2_workTick 56 = .ok (.dup, 1) := by decide +kernel
theorem dX2_workTick_57 : decode cX2_workTick 57 = .ok (.getfield 32, 3) := by decide +kernel
theorem dX2_workTick_60 : decode cX2_workTick 60 = .ok (.iload 5, 2) := by decide +kernel
theorem dX2_workTick_62 : decode cX2_workTick 62 = .ok (.isub, 1) := by decide +kernel
theorem dX2_workTick_63 : decode cX2_workTick 63 = .ok (.putfield 32, 3) := by decide +kernel
theorem dX2_workTick_66 : decode cX2_workTick 66 = .ok (.aload_n 0, 1) := by decide +kernel
theorem dX2_workTick_67 : decode cX2_workTick 67 = .ok (.dup, 1) := by decide +kernel
theorem dX2_workTick_68 : decode cX2_workTick 68 = .ok (.getfield 58, 3) := by decide +kernel
theorem dX2_workTick_71 : decode cX2_workTick 71 = .ok (.iload 5, 2) := by decide +kernel
theorem dX2_workTick_73 : decode cX2_workTick 73 = .ok (.iadd, 1) := by decide +kernel
theorem dX2_workTick_74 : decode cX2_workTick 74 = .ok (.putfield 58, 3) := by decide +kernel
theorem dX2_workTick_77 : decode cX2_workTick 77 = .ok (.iinc 3 1, 3) := by decide +kernel
theorem dX2_workTick_80 : decode cX2_workTick 80 = .ok (.goto (-46), 3) := by decide +kernel
theorem dX2_workTick_83 : decode cX2_workTick 83 = .ok (.aload_n 0, 1) := by decide +kernel
theorem dX2_workTick_84 : decode cX2_workTick 84 = .ok (.invokevirtual 164, 3) := by decide +kernel
theorem dX2_workTick_87 : decode cX2_workTick 87 = .ok (.istore_n 1, 1) := by decide +kernel
theorem dX2_workTick_88 : decode cX2_workTick 88 = .ok (.aload_n 0, 1) := by decide +kernel
theorem dX2_workTick_89 : decode cX2_workTick 89 = .ok (.invokevirtual 93, 3) := by decide +kernel
theorem dX2_workTick_92 : decode cX2_workTick 92 = .ok (.iload_n 1, 1) := by decide +kernel
theorem dX2_workTick_93 : decode cX2_workTick 93 = .ok (.if_icmp .ge 7, 3) := by decide +kernel
theorem dX2_workTick_96 : decode cX2_workTick 96 = .ok (.iconst 1, 1) := by decide +kernel
theorem dX2_workTick_97 : decode cX2_workTick 97 = .ok (.goto 4, 3) := by decide +kernel
theorem dX2_workTick_100 : decode cX2_workTick 100 = .ok (.iconst 0, 1) := by decide +kernel
theorem dX2_workTick_101 : decode cX2_workTick 101 = .ok (.istore_n 2, 1) := by decide +kernel
theorem dX2_workTick_102 : decode cX2_workTick 102 = .ok (.iload_n 2, 1) := by decide +kernel
theorem dX2_workTick_103 : decode cX2_workTick 103 = .ok (.ifCond .eq 10, 3) := by decide +kernel
theorem dX2_workTick_106 : decode cX2_workTick 106 = .ok (.aload_n 0, 1) := by decide +kernel
theorem dX2_workTick_107 : decode cX2_workTick 107 = .ok (.invokevirtual 167, 3) := by decide +kernel
theorem dX2_workTick_110 : decode cX2_workTick 110 = .ok (.goto 12, 3) := by decide +kernel
theorem dX2_workTick_113 : decode cX2_workTick 113 = .ok (.aload_n 0, 1) := by decide +kernel
theorem dX2_workTick_114 : decode cX2_workTick 114 = .ok (.iload_n 1, 1) := by decide +kernel
theorem dX2_workTick_115 : decode cX2_workTick 115 = .ok (.invokevirtual 170, 3) := by decide +kernel
theorem dX2_workTick_118 : decode cX2_workTick 118 = .ok (.aload_n 0, 1) := by decide +kernel
theorem dX2_workTick_119 : decode cX2_workTick 119 = .ok (.invokevirtual 173, 3) := by decide +kernel
theorem dX2_workTick_122 : decode cX2_workTick 122 = .ok (.aload_n 0, 1) := by decide +kernel
theorem dX2_workTick_123 : decode cX2_workTick 123 = .ok (.getfield 12, 3) := by decide +kernel
theorem dX2_workTick_126 : decode cX2_workTick 126 = .ok (.astore_n 3, 1) := by decide +kernel
theorem dX2_workTick_127 : decode cX2_workTick 127 = .ok (.aload_n 3, 1) := by decide +kernel
theorem dX2_workTick_128 : decode cX2_workTick 128 = .ok (.arraylength, 1) := by decide +kernel
theorem dX2_workTick_129 : decode cX2_workTick 129 = .ok (.istore 4, 2) := by decide +kernel
theorem dX2_workTick_131 : decode cX2_workTick 131 = .ok (.iconst 0, 1) := by decide +kernel
theorem dX2_workTick_132 : decode cX2_workTick 132 = .ok (.istore 5, 2) := by decide +kernel
theorem dX2_workTick_134 : decode cX2_workTick 134 = .ok (.iload 5, 2) := by decide +kernel
theorem dX2_workTick_136 : decode cX2_workTick 136 = .ok (.iload 4, 2) := by decide +kernel
theorem dX2_workTick_138 : decode cX2_workTick 138 = .ok (.if_icmp .ge 20, 3) := by decide +kernel
theorem dX2_workTick_141 : decode cX2_workTick 141 = .ok (.aload_n 3, 1) := by decide +kernel
theorem dX2_workTick_142 : decode cX2_workTick 142 = .ok (.iload 5, 2) := by decide +kernel
theorem dX2_workTick_144 : decode cX2_workTick 144 = .ok (.aaload, 1) := by decide +kernel
theorem dX2_workTick_145 : decode cX2_workTick 145 = .ok (.astore 6, 2) := by decide +kernel
theorem dX2_workTick_147 : decode cX2_workTick 147 = .ok (.aload 6, 2) := by decide +kernel
theorem dX2_workTick_149 : decode cX2_workTick 149 = .ok (.invokevirtual 176, 3) := by decide +kernel
theorem dX2_workTick_152 : decode cX2_workTick 152 = .ok (.iinc 5 1, 3) := by decide +kernel
theorem dX2_workTick_155 : decode cX2_workTick 155 = .ok (.goto (-21), 3) := by decide +kernel
theorem dX2_workTick_158 : decode cX2_workTick 158 = .ok (.iload_n 2, 1) := by decide +kernel
theorem dX2_workTick_159 : decode cX2_workTick 159 = .ok (.ireturn, 1) := by decide +kernel
theorem dX2_receiveRation_0 : decode cX2_receiveRation 0 = .ok (.aload_n 0, 1) := by decide +kernel
theorem dX2_receiveRation_1 : decode cX2_receiveRation 1 = .ok (.getfield 36, 3) := by decide +kernel
theorem dX2_receiveRation_4 : decode cX2_receiveRation 4 = .ok (.sipush 999, 3) := by decide +kernel
theorem dX2_receiveRation_7 : decode cX2_receiveRation 7 = .ok (.aload_n 0, 1) := by decide +kernel
theorem dX2_receiveRation_8 : decode cX2_receiveRation 8 = .ok (.getfield 32, 3) := by decide +kernel
theorem dX2_receiveRation_11 : decode cX2_receiveRation 11 = .ok (.isub, 1) := by decide +kernel
theorem dX2_receiveRation_12 : decode cX2_receiveRation 12 = .ok (.invokestatic 179, 3) := by decide +kernel
theorem dX2_receiveRation_15 : decode cX2_receiveRation 15 = .ok (.istore_n 1, 1) := by decide +kernel
theorem dX2_receiveRation_16 : decode cX2_receiveRation 16 = .ok (.aload_n 0, 1) := by decide +kernel
theorem dX2_receiveRation_17 : decode cX2_receiveRation 17 = .ok (.dup, 1) := by decide +kernel
theorem dX2_receiveRation_18 : decode cX2_receiveRation 18 = .ok (.getfield 32, 3) := by decide +kernel
theorem dX2_receiveRation_21 : decode cX2_receiveRation 21 = .ok (.iload_n 1, 1) := by decide +kernel
theorem dX2_receiveRation_22 : decode cX2_receiveRation 22 = .ok (.iadd, 1) := by decide +kernel
theorem dX2_receiveRation_23 : decode cX2_receiveRation 23 = .ok (.putfield 32, 3) := by decide +kernel
theorem dX2_receiveRation_26 : decode cX2_receiveRation 26 = .ok (.aload_n 0, 1) := by decide +kernel
theorem dX2_receiveRation_27 : decode cX2_receiveRation 27 = .ok (.dup, 1) := by decide +kernel
theorem dX2_receiveRation_28 : decode cX2_receiveRation 28 = .ok (.getfield 61, 3) := by decide +kernel
theorem dX2_receiveRation_31 : decode cX2_receiveRation 31 = .ok (.iload_n 1, 1) := by decide +kernel
theorem dX2_receiveRation_32 : decode cX2_receiveRation 32 = .ok (.iadd, 1) := by decide +kernel
theorem dX2_receiveRation_33 : decode cX2_receiveRation 33 = .ok (.putfield 61, 3) := by decide +kernel
theorem dX2_receiveRation_36 : decode cX2_receiveRation 36 = .ok (.return_, 1) := by decide +kernel
set_option maxRecDepth 20000 in
theorem ggX2_need_X6_steamOf : GoodIn wsX2_need wsX6_steamOf := goodIn_r _ [5] (by decide +kernel) (by decide +kernel)
set_option maxRecDepth 20000 in
theorem gX2_need_X6_steamOf_n188 : GoodIn wsX2_need (wsX6_steamOf) := ggX2_need_X6_steamOf
theorem dX2_need_0 : decode cX2_need 0 = .ok (.iconst 0, 1) := by decide +kernel
theorem dX2_need_1 : decode cX2_need 1 = .ok (.istore_n 1, 1) := by decide +kernel
theorem dX2_need_2 : decode cX2_need 2 = .ok (.aload_n 0, 1) := by decide +kernel
theorem dX2_need_3 : decode cX2_need 3 = .ok (.getfield 21, 3) := by decide +kernel
theorem dX2_need_6 : decode cX2_need 6 = .ok (.astore_n 2, 1) := by decide +kernel
theorem dX2_need_7 : decode cX2_need 7 = .ok (.aload_n 2, 1) := by decide +kernel
theorem dX2_need_8 : decode cX2_need 8 = .ok (.arraylength, 1) := by decide +kernel
theorem dX2_need_9 : decode cX2_need 9 = .ok (.istore_n 3, 1) := by decide +kernel
theorem dX2_need_10 : decode cX2_need 10 = .ok (.iconst 0, 1) := by decide +kernel
theorem dX2_need_11 : decode cX2_need 11 = .ok (.istore 4, 2) := by decide +kernel
theorem dX2_need_13 : decode cX2_need 13 = .ok (.iload 4, 2) := by decide +kernel
theorem dX2_need_15 : decode cX2_need 15 = .ok (.iload_n 3, 1) := by decide +kernel
theorem dX2_need_16 : decode cX2_need 16 = .ok (.if_icmp .ge 26, 3) := by decide +kernel
theorem dX2_need_19 : decode cX2_need 19 = .ok (.aload_n 2, 1) := by decide +kernel
theorem dX2_need_20 : decode cX2_need 20 = .ok (.iload 4, 2) := by decide +kernel
theorem dX2_need_22 : decode cX2_need 22 = .ok (.aaload, 1) := by decide +kernel
theorem dX2_need_23 : decode cX2_need 23 = .ok (.astore 5, 2) := by decide +kernel
theorem dX2_need_25 : decode cX2_need 25 = .ok (.iload_n 1, 1) := by decide +kernel
theorem dX2_need_26 : decode cX2_need 26 = .ok (.aload 5, 2) := by decide +kernel
theorem dX2_need_28 : decode cX2_need 28 = .ok (.getfield 185, 3) := by decide +kernel
theorem dX2_need_31 : decode cX2_need 31 = .ok (.invokestatic 188, 3) := by decide +kernel
theorem dX2_need_34 : decode cX2_need 34 = .ok (.iadd, 1) := by decide +kernel
theorem dX2_need_35 : decode cX2_need 35 = .ok (.istore_n 1, 1) := by decide +kernel
theorem dX2_need_36 : decode cX2_need 36 = .ok (.iinc 4 1, 3) := by decide +kernel
theorem dX2_need_39 : decode cX2_need 39 = .ok (.goto (-26), 3) := by decide +kernel
theorem dX2_need_42 : decode cX2_need 42 = .ok (.iload_n 1, 1) := by decide +kernel
theorem dX2_need_43 : decode cX2_need 43 = .ok (.ireturn, 1) := by decide +kernel
theorem dX2_takeSteam_0 : decode cX2_takeSteam 0 = .ok (.iconst 0, 1) := by decide +kernel
theorem dX2_takeSteam_1 : decode cX2_takeSteam 1 = .ok (.istore_n 2, 1) := by decide +kernel
theorem dX2_takeSteam_2 : decode cX2_takeSteam 2 = .ok (.iload_n 2, 1) := by decide +kernel
theorem dX2_takeSteam_3 : decode cX2_takeSteam 3 = .ok (.iload_n 1, 1) := by decide +kernel
theorem dX2_takeSteam_4 : decode cX2_takeSteam 4 = .ok (.if_icmp .ge 78, 3) := by decide +kernel
theorem dX2_takeSteam_7 : decode cX2_takeSteam 7 = .ok (.aconst_null, 1) := by decide +kernel
theorem dX2_takeSteam_8 : decode cX2_takeSteam 8 = .ok (.astore_n 3, 1) := by decide +kernel
theorem dX2_takeSteam_9 : decode cX2_takeSteam 9 = .ok (.aload_n 0, 1) := by decide +kernel
theorem dX2_takeSteam_10 : decode cX2_takeSteam 10 = .ok (.getfield 12, 3) := by decide +kernel
theorem dX2_takeSteam_13 : decode cX2_takeSteam 13 = .ok (.astore 4, 2) := by decide +kernel
theorem dX2_takeSteam_15 : decode cX2_takeSteam 15 = .ok (.aload 4, 2) := by decide +kernel
theorem dX2_takeSteam_17 : decode cX2_takeSteam 17 = .ok (.arraylength, 1) := by decide +kernel
theorem dX2_takeSteam_18 : decode cX2_takeSteam 18 = .ok (.istore 5, 2) := by decide +kernel
theorem dX2_takeSteam_20 : decode cX2_takeSteam 20 = .ok (.iconst 0, 1) := by decide +kernel
theorem dX2_takeSteam_21 : decode cX2_takeSteam 21 = .ok (.istore 6, 2) := by decide +kernel
theorem dX2_takeSteam_23 : decode cX2_takeSteam 23 = .ok (.iload 6, 2) := by decide +kernel
theorem dX2_takeSteam_25 : decode cX2_takeSteam 25 = .ok (.iload 5, 2) := by decide +kernel
theorem dX2_takeSteam_27 : decode cX2_takeSteam 27 = .ok (.if_icmp .ge 35, 3) := by decide +kernel
theorem dX2_takeSteam_30 : decode cX2_takeSteam 30 = .ok (.aload 4, 2) := by decide +kernel
theorem dX2_takeSteam_32 : decode cX2_takeSteam 32 = .ok (.iload 6, 2) := by decide +kernel
theorem dX2_takeSteam_34 : decode cX2_takeSteam 34 = .ok (.aaload, 1) := by decide +kernel
theorem dX2_takeSteam_35 : decode cX2_takeSteam 35 = .ok (.astore 7, 2) := by decide +kernel
theorem dX2_takeSteam_37 : decode cX2_takeSteam 37 = .ok (.aload_n 3, 1) := by decide +kernel
theorem dX2_takeSteam_38 : decode cX2_takeSteam 38 = .ok (.ifnull 15, 3) := by decide +kernel
theorem dX2_takeSteam_41 : decode cX2_takeSteam 41 = .ok (.aload 7, 2) := by decide +kernel
theorem dX2_takeSteam_43 : decode cX2_takeSteam 43 = .ok (.getfield 87, 3) := by decide +kernel
theorem dX2_takeSteam_46 : decode cX2_takeSteam 46 = .ok (.aload_n 3, 1) := by decide +kernel
theorem dX2_takeSteam_47 : decode cX2_takeSteam 47 = .ok (.getfield 87, 3) := by decide +kernel
theorem dX2_takeSteam_50 : decode cX2_takeSteam 50 = .ok (.if_icmp .le 6, 3) := by decide +kernel
theorem dX2_takeSteam_53 : decode cX2_takeSteam 53 = .ok (.aload 7, 2) := by decide +kernel
theorem dX2_takeSteam_55 : decode cX2_takeSteam 55 = .ok (.astore_n 3, 1) := by decide +kernel
theorem dX2_takeSteam_56 : decode cX2_takeSteam 56 = .ok (.iinc 6 1, 3) := by decide +kernel
theorem dX2_takeSteam_59 : decode cX2_takeSteam 59 = .ok (.goto (-36), 3) := by decide +kernel
theorem dX2_takeSteam_62 : decode cX2_takeSteam 62 = .ok (.aload_n 3, 1) := by decide +kernel
theorem dX2_takeSteam_63 : decode cX2_takeSteam 63 = .ok (.ifnull 13, 3) := by decide +kernel
theorem dX2_takeSteam_66 : decode cX2_takeSteam 66 = .ok (.aload_n 3, 1) := by decide +kernel
theorem dX2_takeSteam_67 : decode cX2_takeSteam 67 = .ok (.dup, 1) := by decide +kernel
theorem dX2_takeSteam_68 : decode cX2_takeSteam 68 = .ok (.getfield 87, 3) := by decide +kernel
theorem dX2_takeSteam_71 : decode cX2_takeSteam 71 = .ok (.iconst 1, 1) := by decide +kernel
theorem dX2_takeSteam_72 : decode cX2_takeSteam 72 = .ok (.isub, 1) := by decide +kernel
theorem dX2_takeSteam_73 : decode cX2_takeSteam 73 = .ok (.putfield 87, 3) := by decide +kernel
theorem dX2_takeSteam_76 : decode cX2_takeSteam 76 = .ok (.iinc 2 1, 3) := by decide +kernel
theorem dX2_takeSteam_79 : decode cX2_takeSteam 79 = .ok (.goto (-77), 3) := by decide +kernel
theorem dX2_takeSteam_82 : decode cX2_takeSteam 82 = .ok (.return_, 1) := by decide +kernel
set_option maxRecDepth 20000 in
theorem ggX2_workLoads_X3_isEmpty : GoodIn wsX2_workLoads wsX3_isEmpty := goodIn_r _ [10, 11, 35, 36, 37] (by decide +kernel) (by decide +kernel)
set_option maxRecDepth 20000 in
theorem gX2_workLoads_X3_isEmpty : GoodIn wsX2_workLoads (wsV RX2 76 RX3 yX3_isEmpty wsX3_isEmpty) := goodIn_app (goodIn_of _ (by decide +kernel)) ggX2_workLoads_X3_isEmpty
set_option maxRecDepth 20000 in
theorem ggX2_workLoads_X6_worthOf : GoodIn wsX2_workLoads wsX6_worthOf := goodIn_r _ [14] (by decide +kernel) (by decide +kernel)
set_option maxRecDepth 20000 in
theorem gX2_workLoads_X6_worthOf_n191 : GoodIn wsX2_workLoads (wsX6_worthOf) := ggX2_workLoads_X6_worthOf
set_option maxRecDepth 20000 in
theorem ggX2_workLoads_X3_clear : GoodIn wsX2_workLoads wsX3_clear := goodIn_r _ [18, 11, 19, 20, 35, 36, 37] (by decide +kernel) (by decide +kernel)
set_option maxRecDepth 20000 in
theorem gX2_workLoads_X3_clear : GoodIn wsX2_workLoads (wsV RX2 135 RX3 yX3_clear wsX3_clear) := goodIn_app (goodIn_of _ (by decide +kernel)) ggX2_workLoads_X3_clear
theorem dX2_workLoads_0 : decode cX2_workLoads 0 = .ok (.aload_n 0, 1) := by decide +kernel
theorem dX2_workLoads_1 : decode cX2_workLoads 1 = .ok (.getfield 21, 3) := by decide +kernel
theorem dX2_workLoads_4 : decode cX2_workLoads 4 = .ok (.astore_n 1, 1) := by decide +kernel
theorem dX2_workLoads_5 : decode cX2_workLoads 5 = .ok (.aload_n 1, 1) := by decide +kernel
theorem dX2_workLoads_6 : decode cX2_workLoads 6 = .ok (.arraylength, 1) := by decide +kernel
theorem dX2_workLoads_7 : decode cX2_workLoads 7 = .ok (.istore_n 2, 1) := by decide +kernel
theorem dX2_workLoads_8 : decode cX2_workLoads 8 = .ok (.iconst 0, 1) := by decide +kernel
theorem dX2_workLoads_9 : decode cX2_workLoads 9 = .ok (.istore_n 3, 1) := by decide +kernel
theorem dX2_workLoads_10 : decode cX2_workLoads 10 = .ok (.iload_n 3, 1) := by decide +kernel
theorem dX2_workLoads_11 : decode cX2_workLoads 11 = .ok (.iload_n 2, 1) := by decide +kernel
theorem dX2_workLoads_12 : decode cX2_workLoads 12 = .ok (.if_icmp .ge 76, 3) := by decide +kernel
theorem dX2_workLoads_15 : decode cX2_workLoads 15 = .ok (.aload_n 1, 1) := by decide +kernel
theorem dX2_workLoads_16 : decode cX2_workLoads 16 = .ok (.iload_n 3, 1) := by decide +kernel
theorem dX2_workLoads_17 : decode cX2_workLoads 17 = .ok (.aaload, 1) := by decide +kernel
theorem dX2_workLoads_18 : decode cX2_workLoads 18 = .ok (.astore 4, 2) := by decide +kernel
theorem dX2_workLoads_20 : decode cX2_workLoads 20 = .ok (.aload 4, 2) := by decide +kernel
theorem dX2_workLoads_22 : decode cX2_workLoads 22 = .ok (.invokevirtual 76, 3) := by decide +kernel
theorem dX2_workLoads_25 : decode cX2_workLoads 25 = .ok (.ifCond .eq 6, 3) := by decide +kernel
theorem dX2_workLoads_28 : decode cX2_workLoads 28 = .ok (.goto 54, 3) := by decide +kernel
theorem dX2_workLoads_31 : decode cX2_workLoads 31 = .ok (.aload 4, 2) := by decide +kernel
theorem dX2_workLoads_33 : decode cX2_workLoads 33 = .ok (.dup, 1) := by decide +kernel
theorem dX2_workLoads_34 : decode cX2_workLoads 34 = .ok (.getfield 125, 3) := by decide +kernel
theorem dX2_workLoads_37 : decode cX2_workLoads 37 = .ok (.iconst 1, 1) := by decide +kernel
theorem dX2_workLoads_38 : decode cX2_workLoads 38 = .ok (.isub, 1) := by decide +kernel
theorem dX2_workLoads_39 : decode cX2_workLoads 39 = .ok (.putfield 125, 3) := by decide +kernel
theorem dX2_workLoads_42 : decode cX2_workLoads 42 = .ok (.aload 4, 2) := by decide +kernel
theorem dX2_workLoads_44 : decode cX2_workLoads 44 = .ok (.getfield 125, 3) := by decide +kernel
theorem dX2_workLoads_47 : decode cX2_workLoads 47 = .ok (.ifCond .ne 35, 3) := by decide +kernel
theorem dX2_workLoads_50 : decode cX2_workLoads 50 = .ok (.aload_n 0, 1) := by decide +kernel
theorem dX2_workLoads_51 : decode cX2_workLoads 51 = .ok (.dup, 1) := by decide +kernel
theorem dX2_workLoads_52 : decode cX2_workLoads 52 = .ok (.getfield 52, 3) := by decide +kernel
theorem dX2_workLoads_55 : decode cX2_workLoads 55 = .ok (.iconst 1, 1) := by decide +kernel
theorem dX2_workLoads_56 : decode cX2_workLoads 56 = .ok (.iadd, 1) := by decide +kernel
theorem dX2_workLoads_57 : decode cX2_workLoads 57 = .ok (.putfield 52, 3) := by decide +kernel
theorem dX2_workLoads_60 : decode cX2_workLoads 60 = .ok (.aload_n 0, 1) := by decide +kernel
theorem dX2_workLoads_61 : decode cX2_workLoads 61 = .ok (.dup, 1) := by decide +kernel
theorem dX2_workLoads_62 : decode cX2_workLoads 62 = .ok (.getfield 70, 3) := by decide +kernel
theorem dX2_workLoads_65 : decode cX2_workLoads 65 = .ok (.aload 4, 2) := by decide +kernel
theorem dX2_workLoads_67 : decode cX2_workLoads 67 = .ok (.getfield 185, 3) := by decide +kernel
theorem dX2_workLoads_70 : decode cX2_workLoads 70 = .ok (.invokestatic 191, 3) := by decide +kernel
theorem dX2_workLoads_73 : decode cX2_workLoads 73 = .ok (.iadd, 1) := by decide +kernel
theorem dX2_workLoads_74 : decode cX2_workLoads 74 = .ok (.putfield 70, 3) := by decide +kernel
theorem dX2_workLoads_77 : decode cX2_workLoads 77 = .ok (.aload 4, 2) := by decide +kernel
theorem dX2_workLoads_79 : decode cX2_workLoads 79 = .ok (.invokevirtual 135, 3) := by decide +kernel
theorem dX2_workLoads_82 : decode cX2_workLoads 82 = .ok (.iinc 3 1, 3) := by decide +kernel
theorem dX2_workLoads_85 : decode cX2_workLoads 85 = .ok (.goto (-75), 3) := by decide +kernel
theorem dX2_workLoads_88 : decode cX2_workLoads 88 = .ok (.return_, 1) := by decide +kernel
set_option maxRecDepth 20000 in
theorem ggX2_holdLoads_X3_isEmpty : GoodIn wsX2_holdLoads wsX3_isEmpty := goodIn_r _ [9, 10, 31, 32, 33] (by decide +kernel) (by decide +kernel)
set_option maxRecDepth 20000 in
theorem gX2_holdLoads_X3_isEmpty : GoodIn wsX2_holdLoads (wsV RX2 76 RX3 yX3_isEmpty wsX3_isEmpty) := goodIn_app (goodIn_of _ (by decide +kernel)) ggX2_holdLoads_X3_isEmpty
set_option maxRecDepth 20000 in
theorem ggX2_holdLoads_X3_clear : GoodIn wsX2_holdLoads wsX3_clear := goodIn_r _ [14, 10, 15, 16, 31, 32, 33] (by decide +kernel) (by decide +kernel)
set_option maxRecDepth 20000 in
theorem gX2_holdLoads_X3_clear : GoodIn wsX2_holdLoads (wsV RX2 135 RX3 yX3_clear wsX3_clear) := goodIn_app (goodIn_of _ (by decide +kernel)) ggX2_holdLoads_X3_clear
theorem dX2_holdLoads_0 : decode cX2_holdLoads 0 = .ok (.aload_n 0, 1) := by decide +kernel
theorem dX2_holdLoads_1 : decode cX2_holdLoads 1 = .ok (.dup, 1) := by decide +kernel
theorem dX2_holdLoads_2 : decode cX2_holdLoads 2 = .ok (.getfield 73, 3) := by decide +kernel
theorem dX2_holdLoads_5 : decode cX2_holdLoads 5 = .ok (.iconst 1, 1) := by decide +kernel
theorem dX2_holdLoads_6 : decode cX2_holdLoads 6 = .ok (.iadd, 1) := by decide +kernel
theorem dX2_holdLoads_7 : decode cX2_holdLoads 7 = .ok (.putfield 73, 3) := by decide +kernel
theorem dX2_holdLoads_10 : decode cX2_holdLoads 10 = .ok (.aload_n 0, 1) := by decide +kernel
theorem dX2_holdLoads_11 : decode cX2_holdLoads 11 = .ok (.getfield 21, 3) := by decide +kernel
theorem dX2_holdLoads_14 : decode cX2_holdLoads 14 = .ok (.astore_n 1, 1) := by decide +kernel
theorem dX2_holdLoads_15 : decode cX2_holdLoads 15 = .ok (.aload_n 1, 1) := by decide +kernel
theorem dX2_holdLoads_16 : decode cX2_holdLoads 16 = .ok (.arraylength, 1) := by decide +kernel
theorem dX2_holdLoads_17 : decode cX2_holdLoads 17 = .ok (.istore_n 2, 1) := by decide +kernel
theorem dX2_holdLoads_18 : decode cX2_holdLoads 18 = .ok (.iconst 0, 1) := by decide +kernel
theorem dX2_holdLoads_19 : decode cX2_holdLoads 19 = .ok (.istore_n 3, 1) := by decide +kernel
theorem dX2_holdLoads_20 : decode cX2_holdLoads 20 = .ok (.iload_n 3, 1) := by decide +kernel
theorem dX2_holdLoads_21 : decode cX2_holdLoads 21 = .ok (.iload_n 2, 1) := by decide +kernel
theorem dX2_holdLoads_22 : decode cX2_holdLoads 22 = .ok (.if_icmp .ge 60, 3) := by decide +kernel
theorem dX2_holdLoads_25 : decode cX2_holdLoads 25 = .ok (.aload_n 1, 1) := by decide +kernel
theorem dX2_holdLoads_26 : decode cX2_holdLoads 26 = .ok (.iload_n 3, 1) := by decide +kernel
theorem dX2_holdLoads_27 : decode cX2_holdLoads 27 = .ok (.aaload, 1) := by decide +kernel
theorem dX2_holdLoads_28 : decode cX2_holdLoads 28 = .ok (.astore 4, 2) := by decide +kernel
theorem dX2_holdLoads_30 : decode cX2_holdLoads 30 = .ok (.aload 4, 2) := by decide +kernel
theorem dX2_holdLoads_32 : decode cX2_holdLoads 32 = .ok (.invokevirtual 76, 3) := by decide +kernel
theorem dX2_holdLoads_35 : decode cX2_holdLoads 35 = .ok (.ifCond .eq 6, 3) := by decide +kernel
theorem dX2_holdLoads_38 : decode cX2_holdLoads 38 = .ok (.goto 38, 3) := by decide +kernel
theorem dX2_holdLoads_41 : decode cX2_holdLoads 41 = .ok (.aload 4, 2) := by decide +kernel
theorem dX2_holdLoads_43 : decode cX2_holdLoads 43 = .ok (.dup, 1) := by decide +kernel
theorem dX2_holdLoads_44 : decode cX2_holdLoads 44 = .ok (.getfield 194, 3) := by decide +kernel
theorem dX2_holdLoads_47 : decode cX2_holdLoads 47 = .ok (.iconst 1, 1) := by decide +kernel
theorem dX2_holdLoads_48 : decode cX2_holdLoads 48 = .ok (.iadd, 1) := by decide +kernel
theorem dX2_holdLoads_49 : decode cX2_holdLoads 49 = .ok (.putfield 194, 3) := by decide +kernel
theorem dX2_holdLoads_52 : decode cX2_holdLoads 52 = .ok (.aload 4, 2) := by decide +kernel
theorem dX2_holdLoads_54 : decode cX2_holdLoads 54 = .ok (.getfield 194, 3) := by decide +kernel
theorem dX2_holdLoads_57 : decode cX2_holdLoads 57 = .ok (.iconst 3, 1) := by decide +kernel
theorem dX2_holdLoads_58 : decode cX2_holdLoads 58 = .ok (.if_icmp .ne 18, 3) := by decide +kernel
theorem dX2_holdLoads_61 : decode cX2_holdLoads 61 = .ok (.aload_n 0, 1) := by decide +kernel
theorem dX2_holdLoads_62 : decode cX2_holdLoads 62 = .ok (.dup, 1) := by decide +kernel
theorem dX2_holdLoads_63 : decode cX2_holdLoads 63 = .ok (.getfield 55, 3) := by decide +kernel
theorem dX2_holdLoads_66 : decode cX2_holdLoads 66 = .ok (.iconst 1, 1) := by decide +kernel
theorem dX2_holdLoads_67 : decode cX2_holdLoads 67 = .ok (.iadd, 1) := by decide +kernel
theorem dX2_holdLoads_68 : decode cX2_holdLoads 68 = .ok (.putfield 55, 3) := by decide +kernel
theorem dX2_holdLoads_71 : decode cX2_holdLoads 71 = .ok (.aload 4, 2) := by decide +kernel
theorem dX2_holdLoads_73 : decode cX2_holdLoads 73 = .ok (.invokevirtual 135, 3) := by decide +kernel
theorem dX2_holdLoads_76 : decode cX2_holdLoads 76 = .ok (.iinc 3 1, 3) := by decide +kernel
theorem dX2_holdLoads_79 : decode cX2_holdLoads 79 = .ok (.goto (-59), 3) := by decide +kernel
theorem dX2_holdLoads_82 : decode cX2_holdLoads 82 = .ok (.return_, 1) := by decide +kernel
theorem dX3_init_0 : decode cX3_init 0 = .ok (.aload_n 0, 1) := by decide +kernel
theorem dX3_init_1 : decode cX3_init 1 = .ok (.invokespecial 3, 3) := by decide +kernel
theorem dX3_init_4 : decode cX3_init 4 = .ok (.aload_n 0, 1) := by decide +kernel
theorem dX3_init_5 : decode cX3_init 5 = .ok (.bipush (-5), 2) := by decide +kernel
theorem dX3_init_7 : decode cX3_init 7 = .ok (.putfield 9, 3) := by decide +kernel
theorem dX3_init_10 : decode cX3_init 10 = .ok (.return_, 1) := by decide +kernel
theorem dX3_copyFrom_0 : decode cX3_copyFrom 0 = .ok (.aload_n 0, 1) := by decide +kernel
theorem dX3_copyFrom_1 : decode cX3_copyFrom 1 = .ok (.aload_n 1, 1) := by decide +kernel
theorem dX3_copyFrom_2 : decode cX3_copyFrom 2 = .ok (.getfield 9, 3) := by decide +kernel
theorem dX3_copyFrom_5 : decode cX3_copyFrom 5 = .ok (.putfield 9, 3) := by decide +kernel
theorem dX3_copyFrom_8 : decode cX3_copyFrom 8 = .ok (.aload_n 0, 1) := by decide +kernel
theorem dX3_copyFrom_9 : decode cX3_copyFrom 9 = .ok (.aload_n 1, 1) := by decide +kernel
theorem dX3_copyFrom_10 : decode cX3_copyFrom 10 = .ok (.getfield 15, 3) := by decide +kernel
theorem dX3_copyFrom_13 : decode cX3_copyFrom 13 = .ok (.putfield 15, 3) := by decide +kernel
theorem dX3_copyFrom_16 : decode cX3_copyFrom 16 = .ok (.aload_n 0, 1) := by decide +kernel
theorem dX3_copyFrom_17 : decode cX3_copyFrom 17 = .ok (.aload_n 1, 1) := by decide +kernel
theorem dX3_copyFrom_18 : decode cX3_copyFrom 18 = .ok (.getfield 18, 3) := by decide +kernel
theorem dX3_copyFrom_21 : decode cX3_copyFrom 21 = .ok (.putfield 18, 3) := by decide +kernel
theorem dX3_copyFrom_24 : decode cX3_copyFrom 24 = .ok (.return_, 1) := by decide +kernel
theorem dX3_isEmpty_0 : decode cX3_isEmpty 0 = .ok (.aload_n 0, 1) := by decide +kernel
theorem dX3_isEmpty_1 : decode cX3_isEmpty 1 = .ok (.getfield 9, 3) := by decide +kernel
theorem dX3_isEmpty_4 : decode cX3_isEmpty 4 = .ok (.bipush (-5), 2) := by decide +kernel
theorem dX3_isEmpty_6 : decode cX3_isEmpty 6 = .ok (.if_icmp .ne 7, 3) := by decide +kernel
theorem dX3_isEmpty_9 : decode cX3_isEmpty 9 = .ok (.iconst 1, 1) := by decide +kernel
theorem dX3_isEmpty_10 : decode cX3_isEmpty 10 = .ok (.goto 4, 3) := by decide +kernel
theorem dX3_isEmpty_13 : decode cX3_isEmpty 13 = .ok (.iconst 0, 1) := by decide +kernel
theorem dX3_isEmpty_14 : decode cX3_isEmpty 14 = .ok (.ireturn, 1) := by decide +kernel
set_option maxRecDepth 20000 in
theorem ggX3_put_X6_ticksOf : GoodIn wsX3_put wsX6_ticksOf := goodIn_r _ [6] (by decide +kernel) (by decide +kernel)
set_option maxRecDepth 20000 in
theorem gX3_put_X6_ticksOf_n21 : GoodIn wsX3_put (wsX6_ticksOf) := ggX3_put_X6_ticksOf
theorem dX3_put_0 : decode cX3_put 0 = .ok (.aload_n 0, 1) := by decide +kernel
theorem dX3_put_1 : decode cX3_put 1 = .ok (.iload_n 1, 1) := by decide +kernel
theorem dX3_put_2 : decode cX3_put 2 = .ok (.putfield 9, 3) := by decide +kernel
theorem dX3_put_5 : decode cX3_put 5 = .ok (.aload_n 0, 1) := by decide +kernel
theorem dX3_put_6 : decode cX3_put 6 = .ok (.iload_n 1, 1) := by decide +kernel
theorem dX3_put_7 : decode cX3_put 7 = .ok (.invokestatic 21, 3) := by decide +kernel
theorem dX3_put_10 : decode cX3_put 10 = .ok (.putfield 15, 3) := by decide +kernel
theorem dX3_put_13 : decode cX3_put 13 = .ok (.aload_n 0, 1) := by decide +kernel
theorem dX3_put_14 : decode cX3_put 14 = .ok (.iconst 0, 1) := by decide +kernel
theorem dX3_put_15 : decode cX3_put 15 = .ok (.putfield 18, 3) := by decide +kernel
theorem dX3_put_18 : decode cX3_put 18 = .ok (.return_, 1) := by decide +kernel
theorem dX3_clear_0 : decode cX3_clear 0 = .ok (.aload_n 0, 1) := by decide +kernel
theorem dX3_clear_1 : decode cX3_clear 1 = .ok (.bipush (-5), 2) := by decide +kernel
theorem dX3_clear_3 : decode cX3_clear 3 = .ok (.putfield 9, 3) := by decide +kernel
theorem dX3_clear_6 : decode cX3_clear 6 = .ok (.aload_n 0, 1) := by decide +kernel
theorem dX3_clear_7 : decode cX3_clear 7 = .ok (.iconst 0, 1) := by decide +kernel
theorem dX3_clear_8 : decode cX3_clear 8 = .ok (.putfield 15, 3) := by decide +kernel
theorem dX3_clear_11 : decode cX3_clear 11 = .ok (.aload_n 0, 1) := by decide +kernel
theorem dX3_clear_12 : decode cX3_clear 12 = .ok (.iconst 0, 1) := by decide +kernel
theorem dX3_clear_13 : decode cX3_clear 13 = .ok (.putfield 18, 3) := by decide +kernel
theorem dX3_clear_16 : decode cX3_clear 16 = .ok (.return_, 1) := by decide +kernel
theorem dX4_init_0 : decode cX4_init 0 = .ok (.aload_n 0, 1) := by decide +kernel
theorem dX4_init_1 : decode cX4_init 1 = .ok (.invokespecial 3, 3) := by decide +kernel
theorem dX4_init_4 : decode cX4_init 4 = .ok (.aload_n 0, 1) := by decide +kernel
theorem dX4_init_5 : decode cX4_init 5 = .ok (.bipush 80, 2) := by decide +kernel
theorem dX4_init_7 : decode cX4_init 7 = .ok (.newarray .char, 2) := by decide +kernel
theorem dX4_init_9 : decode cX4_init 9 = .ok (.putfield 9, 3) := by decide +kernel
theorem dX4_init_12 : decode cX4_init 12 = .ok (.return_, 1) := by decide +kernel
set_option maxRecDepth 20000 in
theorem ggX4_countOrders_X4_rewind : GoodIn wsX4_countOrders wsX4_rewind := goodIn_r _ [7, 1, 39, 40, 41, 42, 43, 44] (by decide +kernel) (by decide +kernel)
set_option maxRecDepth 20000 in
theorem gX4_countOrders_X4_rewind : GoodIn wsX4_countOrders (wsV RX4 19 RX4 yX4_rewind wsX4_rewind) := goodIn_app (goodIn_of _ (by decide +kernel)) ggX4_countOrders_X4_rewind
set_option maxRecDepth 20000 in
theorem ggX4_countOrders_X4_readOrder : GoodIn wsX4_countOrders wsX4_readOrder := goodIn_r _ [11, 12, 13, 14, 15, 6, 16, 1, 2, 17, 18, 19, 20, 21, 22, 23, 24, 25, 26, 27, 28, 29, 30, 31, 32, 33, 34, 35, 36, 37, 38, 39, 40, 41, 42, 43, 44] (by decide +kernel) (by decide +kernel)
set_option maxRecDepth 20000 in
theorem gX4_countOrders_X4_readOrder : GoodIn wsX4_countOrders (wsV RX4 22 RX4 yX4_readOrder wsX4_readOrder) := goodIn_app (goodIn_of _ (by decide +kernel)) ggX4_countOrders_X4_readOrder
set_option maxRecDepth 20000 in
theorem ggX4_countOrders_X4_accept : GoodIn wsX4_countOrders wsX4_accept := goodIn_r _ [21, 1, 13, 14, 15, 6, 16, 2, 17, 39, 40, 41, 42, 43, 44] (by decide +kernel) (by decide +kernel)
set_option maxRecDepth 20000 in
theorem gX4_countOrders_X4_accept : GoodIn wsX4_countOrders (wsV RX4 29 RX4 yX4_accept wsX4_accept) := goodIn_app (goodIn_of _ (by decide +kernel)) ggX4_countOrders_X4_accept
theorem dX4_countOrders_0 : decode cX4_countOrders 0 = .ok (.aload_n 0, 1) := by decide +kernel
theorem dX4_countOrders_1 : decode cX4_countOrders 1 = .ok (.invokevirtual 19, 3) := by decide +kernel
theorem dX4_countOrders_4 : decode cX4_countOrders 4 = .ok (.iconst 1, 1) := by decide +kernel
theorem dX4_countOrders_5 : decode cX4_countOrders 5 = .ok (.istore_n 1, 1) := by decide +kernel
theorem dX4_countOrders_6 : decode cX4_countOrders 6 = .ok (.iload_n 1, 1) := by decide +kernel

