theorem dX4_countOrders_7 : decode cX4_countOrders 7 = .ok (.bipush 80, 2) := by decide +kernel
theorem dX4_countOrders_9 : decode cX4_countOrders 9 = .ok (.if_icmp .gt 54, 3) := by decide +kernel
theorem dX4_countOrders_12 : decode cX4_countOrders 12 = .ok (.aload_n 0, 1) := by decide +kernel
theorem dX4_countOrders_13 : decode cX4_countOrders 13 = .ok (.invokevirtual 22, 3) := by decide +kernel
theorem dX4_countOrders_16 : decode cX4_countOrders 16 = .ok (.ifCond .ne 11, 3) := by decide +kernel
theorem dX4_countOrders_19 : decode cX4_countOrders 19 = .ok (.bipush (-100), 2) := by decide +kernel
theorem dX4_countOrders_21 : decode cX4_countOrders 21 = .ok (.aload_n 0, 1) := by decide +kernel
theorem dX4_countOrders_22 : decode cX4_countOrders 22 = .ok (.getfield 26, 3) := by decide +kernel
theorem dX4_countOrders_25 : decode cX4_countOrders 25 = .ok (.isub, 1) := by decide +kernel
theorem dX4_countOrders_26 : decode cX4_countOrders 26 = .ok (.ireturn, 1) := by decide +kernel
theorem dX4_countOrders_27 : decode cX4_countOrders 27 = .ok (.aload_n 0, 1) := by decide +kernel
theorem dX4_countOrders_28 : decode cX4_countOrders 28 = .ok (.getfield 26, 3) := by decide +kernel
theorem dX4_countOrders_31 : decode cX4_countOrders 31 = .ok (.aload_n 0, 1) := by decide +kernel
theorem dX4_countOrders_32 : decode cX4_countOrders 32 = .ok (.getfield 15, 3) := by decide +kernel
theorem dX4_countOrders_35 : decode cX4_countOrders 35 = .ok (.if_icmp .ne 5, 3) := by decide +kernel
theorem dX4_countOrders_38 : decode cX4_countOrders 38 = .ok (.iload_n 1, 1) := by decide +kernel
theorem dX4_countOrders_39 : decode cX4_countOrders 39 = .ok (.ireturn, 1) := by decide +kernel
theorem dX4_countOrders_40 : decode cX4_countOrders 40 = .ok (.aload_n 0, 1) := by decide +kernel
theorem dX4_countOrders_41 : decode cX4_countOrders 41 = .ok (.bipush 44, 2) := by decide +kernel
theorem dX4_countOrders_43 : decode cX4_countOrders 43 = .ok (.invokevirtual 29, 3) := by decide +kernel
theorem dX4_countOrders_46 : decode cX4_countOrders 46 = .ok (.ifCond .ne 11, 3) := by decide +kernel
theorem dX4_countOrders_49 : decode cX4_countOrders 49 = .ok (.bipush (-100), 2) := by decide +kernel
theorem dX4_countOrders_51 : decode cX4_countOrders 51 = .ok (.aload_n 0, 1) := by decide +kernel
theorem dX4_countOrders_52 : decode cX4_countOrders 52 = .ok (.getfield 26, 3) := by decide +kernel
theorem dX4_countOrders_55 : decode cX4_countOrders 55 = .ok (.isub, 1) := by decide +kernel
theorem dX4_countOrders_56 : decode cX4_countOrders 56 = .ok (.ireturn, 1) := by decide +kernel
theorem dX4_countOrders_57 : decode cX4_countOrders 57 = .ok (.iinc 1 1, 3) := by decide +kernel
theorem dX4_countOrders_60 : decode cX4_countOrders 60 = .ok (.goto (-54), 3) := by decide +kernel
theorem dX4_countOrders_63 : decode cX4_countOrders 63 = .ok (.bipush (-100), 2) := by decide +kernel
theorem dX4_countOrders_65 : decode cX4_countOrders 65 = .ok (.aload_n 0, 1) := by decide +kernel
theorem dX4_countOrders_66 : decode cX4_countOrders 66 = .ok (.getfield 26, 3) := by decide +kernel
theorem dX4_countOrders_69 : decode cX4_countOrders 69 = .ok (.isub, 1) := by decide +kernel
theorem dX4_countOrders_70 : decode cX4_countOrders 70 = .ok (.ireturn, 1) := by decide +kernel
theorem dX4_rewind_0 : decode cX4_rewind 0 = .ok (.aload_n 0, 1) := by decide +kernel
theorem dX4_rewind_1 : decode cX4_rewind 1 = .ok (.iconst 0, 1) := by decide +kernel
theorem dX4_rewind_2 : decode cX4_rewind 2 = .ok (.putfield 26, 3) := by decide +kernel
theorem dX4_rewind_5 : decode cX4_rewind 5 = .ok (.return_, 1) := by decide +kernel
set_option maxRecDepth 20000 in
theorem ggX4_readNextOrder_X4_accept : GoodIn wsX4_readNextOrder wsX4_accept := goodIn_r _ [5, 6, 7, 8, 9, 4, 10, 11, 12, 35, 36, 37, 38, 39, 40] (by decide +kernel) (by decide +kernel)
set_option maxRecDepth 20000 in
theorem gX4_readNextOrder_X4_accept : GoodIn wsX4_readNextOrder (wsV RX4 29 RX4 yX4_accept wsX4_accept) := goodIn_app (goodIn_of _ (by decide +kernel)) ggX4_readNextOrder_X4_accept
set_option maxRecDepth 20000 in
theorem ggX4_readNextOrder_X4_readOrder : GoodIn wsX4_readNextOrder wsX4_readOrder := goodIn_r _ [16, 17, 7, 8, 9, 4, 10, 6, 11, 12, 1, 2, 3, 5, 18, 19, 20, 21, 22, 23, 24, 25, 26, 27, 28, 29, 30, 31, 32, 33, 34, 35, 36, 37, 38, 39, 40] (by decide +kernel) (by decide +kernel)
set_option maxRecDepth 20000 in
theorem gX4_readNextOrder_X4_readOrder : GoodIn wsX4_readNextOrder (wsV RX4 22 RX4 yX4_readOrder wsX4_readOrder) := goodIn_app (goodIn_of _ (by decide +kernel)) ggX4_readNextOrder_X4_readOrder
theorem dX4_readNextOrder_0 : decode cX4_readNextOrder 0 = .ok (.aload_n 0, 1) := by decide +kernel
theorem dX4_readNextOrder_1 : decode cX4_readNextOrder 1 = .ok (.bipush 44, 2) := by decide +kernel
theorem dX4_readNextOrder_3 : decode cX4_readNextOrder 3 = .ok (.invokevirtual 29, 3) := by decide +kernel
theorem dX4_readNextOrder_6 : decode cX4_readNextOrder 6 = .ok (.pop, 1) := by decide +kernel
theorem dX4_readNextOrder_7 : decode cX4_readNextOrder 7 = .ok (.aload_n 0, 1) := by decide +kernel
theorem dX4_readNextOrder_8 : decode cX4_readNextOrder 8 = .ok (.invokevirtual 22, 3) := by decide +kernel
theorem dX4_readNextOrder_11 : decode cX4_readNextOrder 11 = .ok (.pop, 1) := by decide +kernel
theorem dX4_readNextOrder_12 : decode cX4_readNextOrder 12 = .ok (.return_, 1) := by decide +kernel
set_option maxRecDepth 20000 in
theorem ggX4_readOrder_X4_here : GoodIn wsX4_readOrder wsX4_here := goodIn_r _ [6, 7, 8, 9, 31, 32, 33, 34, 35, 36] (by decide +kernel) (by decide +kernel)
set_option maxRecDepth 20000 in
theorem gX4_readOrder_X4_here : GoodIn wsX4_readOrder (wsV RX4 33 RX4 yX4_here wsX4_here) := goodIn_app (goodIn_of _ (by decide +kernel)) ggX4_readOrder_X4_here
set_option maxRecDepth 20000 in
theorem ggX4_readOrder_X4_accept : GoodIn wsX4_readOrder wsX4_accept := goodIn_r _ [13, 7, 2, 3, 4, 5, 6, 8, 9, 31, 32, 33, 34, 35, 36] (by decide +kernel) (by decide +kernel)
set_option maxRecDepth 20000 in
theorem gX4_readOrder_X4_accept : GoodIn wsX4_readOrder (wsV RX4 29 RX4 yX4_accept wsX4_accept) := goodIn_app (goodIn_of _ (by decide +kernel)) ggX4_readOrder_X4_accept
set_option maxRecDepth 20000 in
theorem ggX4_readOrder_X4_readTarget : GoodIn wsX4_readOrder wsX4_readTarget := goodIn_r _ [17, 18, 19, 20, 21, 22, 5, 23, 7, 24, 25, 26, 27, 2, 3, 4, 6, 8, 9, 28, 29, 30, 10, 11, 12, 13, 31, 32, 33, 34, 35, 36] (by decide +kernel) (by decide +kernel)
set_option maxRecDepth 20000 in
theorem gX4_readOrder_X4_readTarget : GoodIn wsX4_readOrder (wsV RX4 40 RX4 yX4_readTarget wsX4_readTarget) := goodIn_app (goodIn_of _ (by decide +kernel)) ggX4_readOrder_X4_readTarget
set_option maxRecDepth 20000 in
theorem ggX4_readOrder_X4_readValue : GoodIn wsX4_readOrder wsX4_readValue := goodIn_r _ [23, 18, 7, 24, 25, 26, 5, 27, 2, 3, 4, 6, 8, 9, 28, 29, 30, 31, 32, 33, 34, 35, 36] (by decide +kernel) (by decide +kernel)
set_option maxRecDepth 20000 in
theorem gX4_readOrder_X4_readValue : GoodIn wsX4_readOrder (wsV RX4 44 RX4 yX4_readValue wsX4_readValue) := goodIn_app (goodIn_of _ (by decide +kernel)) ggX4_readOrder_X4_readValue
theorem dX4_readOrder_0 : decode cX4_readOrder 0 = .ok (.aload_n 0, 1) := by decide +kernel
theorem dX4_readOrder_1 : decode cX4_readOrder 1 = .ok (.aload_n 0, 1) := by decide +kernel
theorem dX4_readOrder_2 : decode cX4_readOrder 2 = .ok (.invokevirtual 33, 3) := by decide +kernel
theorem dX4_readOrder_5 : decode cX4_readOrder 5 = .ok (.putfield 37, 3) := by decide +kernel
theorem dX4_readOrder_8 : decode cX4_readOrder 8 = .ok (.aload_n 0, 1) := by decide +kernel
theorem dX4_readOrder_9 : decode cX4_readOrder 9 = .ok (.bipush 102, 2) := by decide +kernel
theorem dX4_readOrder_11 : decode cX4_readOrder 11 = .ok (.invokevirtual 29, 3) := by decide +kernel
theorem dX4_readOrder_14 : decode cX4_readOrder 14 = .ok (.ifCond .eq 26, 3) := by decide +kernel
theorem dX4_readOrder_17 : decode cX4_readOrder 17 = .ok (.aload_n 0, 1) := by decide +kernel
theorem dX4_readOrder_18 : decode cX4_readOrder 18 = .ok (.iconst 1, 1) := by decide +kernel
theorem dX4_readOrder_19 : decode cX4_readOrder 19 = .ok (.invokevirtual 40, 3) := by decide +kernel
theorem dX4_readOrder_22 : decode cX4_readOrder 22 = .ok (.ifCond .eq 16, 3) := by decide +kernel
theorem dX4_readOrder_25 : decode cX4_readOrder 25 = .ok (.aload_n 0, 1) := by decide +kernel
theorem dX4_readOrder_26 : decode cX4_readOrder 26 = .ok (.iconst 0, 1) := by decide +kernel
theorem dX4_readOrder_27 : decode cX4_readOrder 27 = .ok (.iconst 5, 1) := by decide +kernel
theorem dX4_readOrder_28 : decode cX4_readOrder 28 = .ok (.invokevirtual 44, 3) := by decide +kernel
theorem dX4_readOrder_31 : decode cX4_readOrder 31 = .ok (.ifCond .eq 7, 3) := by decide +kernel
theorem dX4_readOrder_34 : decode cX4_readOrder 34 = .ok (.iconst 1, 1) := by decide +kernel
theorem dX4_readOrder_35 : decode cX4_readOrder 35 = .ok (.goto 4, 3) := by decide +kernel
theorem dX4_readOrder_38 : decode cX4_readOrder 38 = .ok (.iconst 0, 1) := by decide +kernel
theorem dX4_readOrder_39 : decode cX4_readOrder 39 = .ok (.ireturn, 1) := by decide +kernel
theorem dX4_readOrder_40 : decode cX4_readOrder 40 = .ok (.aload_n 0, 1) := by decide +kernel
theorem dX4_readOrder_41 : decode cX4_readOrder 41 = .ok (.bipush 119, 2) := by decide +kernel
theorem dX4_readOrder_43 : decode cX4_readOrder 43 = .ok (.invokevirtual 29, 3) := by decide +kernel
theorem dX4_readOrder_46 : decode cX4_readOrder 46 = .ok (.ifCond .eq 28, 3) := by decide +kernel
theorem dX4_readOrder_49 : decode cX4_readOrder 49 = .ok (.aload_n 0, 1) := by decide +kernel
theorem dX4_readOrder_50 : decode cX4_readOrder 50 = .ok (.iconst 1, 1) := by decide +kernel
theorem dX4_readOrder_51 : decode cX4_readOrder 51 = .ok (.invokevirtual 40, 3) := by decide +kernel
theorem dX4_readOrder_54 : decode cX4_readOrder 54 = .ok (.ifCond .eq 18, 3) := by decide +kernel
theorem dX4_readOrder_57 : decode cX4_readOrder 57 = .ok (.aload_n 0, 1) := by decide +kernel
theorem dX4_readOrder_58 : decode cX4_readOrder 58 = .ok (.iconst 1, 1) := by decide +kernel
theorem dX4_readOrder_59 : decode cX4_readOrder 59 = .ok (.sipush 200, 3) := by decide +kernel
theorem dX4_readOrder_62 : decode cX4_readOrder 62 = .ok (.invokevirtual 44, 3) := by decide +kernel
theorem dX4_readOrder_65 : decode cX4_readOrder 65 = .ok (.ifCond .eq 7, 3) := by decide +kernel
theorem dX4_readOrder_68 : decode cX4_readOrder 68 = .ok (.iconst 1, 1) := by decide +kernel
theorem dX4_readOrder_69 : decode cX4_readOrder 69 = .ok (.goto 4, 3) := by decide +kernel
theorem dX4_readOrder_72 : decode cX4_readOrder 72 = .ok (.iconst 0, 1) := by decide +kernel
theorem dX4_readOrder_73 : decode cX4_readOrder 73 = .ok (.ireturn, 1) := by decide +kernel
theorem dX4_readOrder_74 : decode cX4_readOrder 74 = .ok (.aload_n 0, 1) := by decide +kernel
theorem dX4_readOrder_75 : decode cX4_readOrder 75 = .ok (.bipush 109, 2) := by decide +kernel
theorem dX4_readOrder_77 : decode cX4_readOrder 77 = .ok (.invokevirtual 29, 3) := by decide +kernel
theorem dX4_readOrder_80 : decode cX4_readOrder 80 = .ok (.ifCond .eq 26, 3) := by decide +kernel
theorem dX4_readOrder_83 : decode cX4_readOrder 83 = .ok (.aload_n 0, 1) := by decide +kernel
theorem dX4_readOrder_84 : decode cX4_readOrder 84 = .ok (.iconst 3, 1) := by decide +kernel
theorem dX4_readOrder_85 : decode cX4_readOrder 85 = .ok (.invokevirtual 40, 3) := by decide +kernel
theorem dX4_readOrder_88 : decode cX4_readOrder 88 = .ok (.ifCond .eq 16, 3) := by decide +kernel
theorem dX4_readOrder_91 : decode cX4_readOrder 91 = .ok (.aload_n 0, 1) := by decide +kernel
theorem dX4_readOrder_92 : decode cX4_readOrder 92 = .ok (.iconst 0, 1) := by decide +kernel
theorem dX4_readOrder_93 : decode cX4_readOrder 93 = .ok (.iconst 2, 1) := by decide +kernel
theorem dX4_readOrder_94 : decode cX4_readOrder 94 = .ok (.invokevirtual 44, 3) := by decide +kernel
theorem dX4_readOrder_97 : decode cX4_readOrder 97 = .ok (.ifCond .eq 7, 3) := by decide +kernel
theorem dX4_readOrder_100 : decode cX4_readOrder 100 = .ok (.iconst 1, 1) := by decide +kernel
theorem dX4_readOrder_101 : decode cX4_readOrder 101 = .ok (.goto 4, 3) := by decide +kernel
theorem dX4_readOrder_104 : decode cX4_readOrder 104 = .ok (.iconst 0, 1) := by decide +kernel
theorem dX4_readOrder_105 : decode cX4_readOrder 105 = .ok (.ireturn, 1) := by decide +kernel
theorem dX4_readOrder_106 : decode cX4_readOrder 106 = .ok (.aload_n 0, 1) := by decide +kernel
theorem dX4_readOrder_107 : decode cX4_readOrder 107 = .ok (.bipush 108, 2) := by decide +kernel
theorem dX4_readOrder_109 : decode cX4_readOrder 109 = .ok (.invokevirtual 29, 3) := by decide +kernel
theorem dX4_readOrder_112 : decode cX4_readOrder 112 = .ok (.ifCond .eq 10, 3) := by decide +kernel
theorem dX4_readOrder_115 : decode cX4_readOrder 115 = .ok (.aload_n 0, 1) := by decide +kernel
theorem dX4_readOrder_116 : decode cX4_readOrder 116 = .ok (.iconst 0, 1) := by decide +kernel
theorem dX4_readOrder_117 : decode cX4_readOrder 117 = .ok (.iconst 2, 1) := by decide +kernel
theorem dX4_readOrder_118 : decode cX4_readOrder 118 = .ok (.invokevirtual 44, 3) := by decide +kernel
theorem dX4_readOrder_121 : decode cX4_readOrder 121 = .ok (.ireturn, 1) := by decide +kernel
theorem dX4_readOrder_122 : decode cX4_readOrder 122 = .ok (.aload_n 0, 1) := by decide +kernel
theorem dX4_readOrder_123 : decode cX4_readOrder 123 = .ok (.bipush 116, 2) := by decide +kernel
theorem dX4_readOrder_125 : decode cX4_readOrder 125 = .ok (.invokevirtual 29, 3) := by decide +kernel
theorem dX4_readOrder_128 : decode cX4_readOrder 128 = .ok (.ifCond .eq 18, 3) := by decide +kernel
theorem dX4_readOrder_131 : decode cX4_readOrder 131 = .ok (.aload_n 0, 1) := by decide +kernel
theorem dX4_readOrder_132 : decode cX4_readOrder 132 = .ok (.iconst 1, 1) := by decide +kernel
theorem dX4_readOrder_133 : decode cX4_readOrder 133 = .ok (.sipush 200, 3) := by decide +kernel
theorem dX4_readOrder_136 : decode cX4_readOrder 136 = .ok (.invokevirtual 44, 3) := by decide +kernel
theorem dX4_readOrder_139 : decode cX4_readOrder 139 = .ok (.ifCond .eq 7, 3) := by decide +kernel
theorem dX4_readOrder_142 : decode cX4_readOrder 142 = .ok (.iconst 1, 1) := by decide +kernel
theorem dX4_readOrder_143 : decode cX4_readOrder 143 = .ok (.goto 4, 3) := by decide +kernel
theorem dX4_readOrder_146 : decode cX4_readOrder 146 = .ok (.iconst 0, 1) := by decide +kernel
theorem dX4_readOrder_147 : decode cX4_readOrder 147 = .ok (.ireturn, 1) := by decide +kernel
set_option maxRecDepth 20000 in
theorem ggX4_readTarget_X4_readValue : GoodIn wsX4_readTarget wsX4_readValue := goodIn_r _ [7, 1, 8, 9, 10, 11, 6, 12, 13, 14, 15, 16, 17, 18, 19, 20, 21, 26, 27, 28, 29, 30, 31] (by decide +kernel) (by decide +kernel)
set_option maxRecDepth 20000 in
theorem gX4_readTarget_X4_readValue : GoodIn wsX4_readTarget (wsV RX4 44 RX4 yX4_readValue wsX4_readValue) := goodIn_app (goodIn_of _ (by decide +kernel)) ggX4_readTarget_X4_readValue
set_option maxRecDepth 20000 in
theorem ggX4_readTarget_X4_accept : GoodIn wsX4_readTarget wsX4_accept := goodIn_r _ [25, 8, 13, 14, 15, 6, 16, 17, 18, 26, 27, 28, 29, 30, 31] (by decide +kernel) (by decide +kernel)
set_option maxRecDepth 20000 in
theorem gX4_readTarget_X4_accept : GoodIn wsX4_readTarget (wsV RX4 29 RX4 yX4_accept wsX4_accept) := goodIn_app (goodIn_of _ (by decide +kernel)) ggX4_readTarget_X4_accept
theorem dX4_readTarget_0 : decode cX4_readTarget 0 = .ok (.aload_n 0, 1) := by decide +kernel
theorem dX4_readTarget_1 : decode cX4_readTarget 1 = .ok (.iconst 0, 1) := by decide +kernel
theorem dX4_readTarget_2 : decode cX4_readTarget 2 = .ok (.iload_n 1, 1) := by decide +kernel
theorem dX4_readTarget_3 : decode cX4_readTarget 3 = .ok (.invokevirtual 44, 3) := by decide +kernel
theorem dX4_readTarget_6 : decode cX4_readTarget 6 = .ok (.ifCond .ne 5, 3) := by decide +kernel
theorem dX4_readTarget_9 : decode cX4_readTarget 9 = .ok (.iconst 0, 1) := by decide +kernel
theorem dX4_readTarget_10 : decode cX4_readTarget 10 = .ok (.ireturn, 1) := by decide +kernel
theorem dX4_readTarget_11 : decode cX4_readTarget 11 = .ok (.aload_n 0, 1) := by decide +kernel
theorem dX4_readTarget_12 : decode cX4_readTarget 12 = .ok (.aload_n 0, 1) := by decide +kernel
theorem dX4_readTarget_13 : decode cX4_readTarget 13 = .ok (.getfield 48, 3) := by decide +kernel
theorem dX4_readTarget_16 : decode cX4_readTarget 16 = .ok (.putfield 51, 3) := by decide +kernel
theorem dX4_readTarget_19 : decode cX4_readTarget 19 = .ok (.aload_n 0, 1) := by decide +kernel
theorem dX4_readTarget_20 : decode cX4_readTarget 20 = .ok (.bipush 58, 2) := by decide +kernel
theorem dX4_readTarget_22 : decode cX4_readTarget 22 = .ok (.invokevirtual 29, 3) := by decide +kernel
theorem dX4_readTarget_25 : decode cX4_readTarget 25 = .ok (.ireturn, 1) := by decide +kernel
set_option maxRecDepth 20000 in
theorem ggX4_readValue_X4_digitHere : GoodIn wsX4_readValue wsX4_digitHere := goodIn_r _ [7, 8, 9, 10, 6, 11, 2, 12, 13, 14, 15, 16, 17, 18, 19, 20, 21, 22] (by decide +kernel) (by decide +kernel)
set_option maxRecDepth 20000 in
theorem gX4_readValue_X4_digitHere : GoodIn wsX4_readValue (wsV RX4 54 RX4 yX4_digitHere wsX4_digitHere) := goodIn_app (goodIn_of _ (by decide +kernel)) ggX4_readValue_X4_digitHere
set_option maxRecDepth 20000 in
theorem ggX4_readValue_X6_isWithin : GoodIn wsX4_readValue wsX6_isWithin := goodIn_r _ [16] (by decide +kernel) (by decide +kernel)
set_option maxRecDepth 20000 in
theorem gX4_readValue_X6_isWithin_n57 : GoodIn wsX4_readValue (wsX6_isWithin) := ggX4_readValue_X6_isWithin
theorem dX4_readValue_0 : decode cX4_readValue 0 = .ok (.aload_n 0, 1) := by decide +kernel
theorem dX4_readValue_1 : decode cX4_readValue 1 = .ok (.invokevirtual 54, 3) := by decide +kernel
theorem dX4_readValue_4 : decode cX4_readValue 4 = .ok (.istore_n 3, 1) := by decide +kernel
theorem dX4_readValue_5 : decode cX4_readValue 5 = .ok (.iload_n 3, 1) := by decide +kernel
theorem dX4_readValue_6 : decode cX4_readValue 6 = .ok (.iload_n 1, 1) := by decide +kernel
theorem dX4_readValue_7 : decode cX4_readValue 7 = .ok (.iload_n 2, 1) := by decide +kernel
theorem dX4_readValue_8 : decode cX4_readValue 8 = .ok (.invokestatic 57, 3) := by decide +kernel
theorem dX4_readValue_11 : decode cX4_readValue 11 = .ok (.ifCond .ne 5, 3) := by decide +kernel
theorem dX4_readValue_14 : decode cX4_readValue 14 = .ok (.iconst 0, 1) := by decide +kernel
theorem dX4_readValue_15 : decode cX4_readValue 15 = .ok (.ireturn, 1) := by decide +kernel
theorem dX4_readValue_16 : decode cX4_readValue 16 = .ok (.aload_n 0, 1) := by decide +kernel
theorem dX4_readValue_17 : decode cX4_readValue 17 = .ok (.iload_n 3, 1) := by decide +kernel
theorem dX4_readValue_18 : decode cX4_readValue 18 = .ok (.putfield 48, 3) := by decide +kernel
theorem dX4_readValue_21 : decode cX4_readValue 21 = .ok (.aload_n 0, 1) := by decide +kernel
theorem dX4_readValue_22 : decode cX4_readValue 22 = .ok (.dup, 1) := by decide +kernel
theorem dX4_readValue_23 : decode cX4_readValue 23 = .ok (.getfield 26, 3) := by decide +kernel
theorem dX4_readValue_26 : decode cX4_readValue 26 = .ok (.iconst 1, 1) := by decide +kernel
theorem dX4_readValue_27 : decode cX4_readValue 27 = .ok (.iadd, 1) := by decide +kernel
theorem dX4_readValue_28 : decode cX4_readValue 28 = .ok (.putfield 26, 3) := by decide +kernel
theorem dX4_readValue_31 : decode cX4_readValue 31 = .ok (.iconst 1, 1) := by decide +kernel
theorem dX4_readValue_32 : decode cX4_readValue 32 = .ok (.istore 4, 2) := by decide +kernel
theorem dX4_readValue_34 : decode cX4_readValue 34 = .ok (.iload 4, 2) := by decide +kernel
theorem dX4_readValue_36 : decode cX4_readValue 36 = .ok (.iconst 3, 1) := by decide +kernel
theorem dX4_readValue_37 : decode cX4_readValue 37 = .ok (.if_icmp .ge 64, 3) := by decide +kernel
theorem dX4_readValue_40 : decode cX4_readValue 40 = .ok (.aload_n 0, 1) := by decide +kernel
theorem dX4_readValue_41 : decode cX4_readValue 41 = .ok (.getfield 48, 3) := by decide +kernel
theorem dX4_readValue_44 : decode cX4_readValue 44 = .ok (.ifCond .le 57, 3) := by decide +kernel
theorem dX4_readValue_47 : decode cX4_readValue 47 = .ok (.aload_n 0, 1) := by decide +kernel
theorem dX4_readValue_48 : decode cX4_readValue 48 = .ok (.invokevirtual 54, 3) := by decide +kernel
theorem dX4_readValue_51 : decode cX4_readValue 51 = .ok (.istore_n 3, 1) := by decide +kernel
theorem dX4_readValue_52 : decode cX4_readValue 52 = .ok (.iload_n 3, 1) := by decide +kernel
theorem dX4_readValue_53 : decode cX4_readValue 53 = .ok (.iconst (-1), 1) := by decide +kernel
theorem dX4_readValue_54 : decode cX4_readValue 54 = .ok (.if_icmp .eq 16, 3) := by decide +kernel
theorem dX4_readValue_57 : decode cX4_readValue 57 = .ok (.bipush 10, 2) := by decide +kernel
theorem dX4_readValue_59 : decode cX4_readValue 59 = .ok (.aload_n 0, 1) := by decide +kernel
theorem dX4_readValue_60 : decode cX4_readValue 60 = .ok (.getfield 48, 3) := by decide +kernel
theorem dX4_readValue_63 : decode cX4_readValue 63 = .ok (.imul, 1) := by decide +kernel
theorem dX4_readValue_64 : decode cX4_readValue 64 = .ok (.iload_n 3, 1) := by decide +kernel
theorem dX4_readValue_65 : decode cX4_readValue 65 = .ok (.iadd, 1) := by decide +kernel
theorem dX4_readValue_66 : decode cX4_readValue 66 = .ok (.iload_n 2, 1) := by decide +kernel
theorem dX4_readValue_67 : decode cX4_readValue 67 = .ok (.if_icmp .le 5, 3) := by decide +kernel
theorem dX4_readValue_70 : decode cX4_readValue 70 = .ok (.iconst 1, 1) := by decide +kernel
theorem dX4_readValue_71 : decode cX4_readValue 71 = .ok (.ireturn, 1) := by decide +kernel
theorem dX4_readValue_72 : decode cX4_readValue 72 = .ok (.aload_n 0, 1) := by decide +kernel
theorem dX4_readValue_73 : decode cX4_readValue 73 = .ok (.bipush 10, 2) := by decide +kernel
theorem dX4_readValue_75 : decode cX4_readValue 75 = .ok (.aload_n 0, 1) := by decide +kernel
theorem dX4_readValue_76 : decode cX4_readValue 76 = .ok (.getfield 48, 3) := by decide +kernel
theorem dX4_readValue_79 : decode cX4_readValue 79 = .ok (.imul, 1) := by decide +kernel
theorem dX4_readValue_80 : decode cX4_readValue 80 = .ok (.iload_n 3, 1) := by decide +kernel
theorem dX4_readValue_81 : decode cX4_readValue 81 = .ok (.iadd, 1) := by decide +kernel
theorem dX4_readValue_82 : decode cX4_readValue 82 = .ok (.putfield 48, 3) := by decide +kernel
theorem dX4_readValue_85 : decode cX4_readValue 85 = .ok (.aload_n 0, 1) := by decide +kernel
theorem dX4_readValue_86 : decode cX4_readValue 86 = .ok (.dup, 1) := by decide +kernel
theorem dX4_readValue_87 : decode cX4_readValue 87 = .ok (.getfield 26, 3) := by decide +kernel
theorem dX4_readValue_90 : decode cX4_readValue 90 = .ok (.iconst 1, 1) := by decide +kernel
theorem dX4_readValue_91 : decode cX4_readValue 91 = .ok (.iadd, 1) := by decide +kernel
theorem dX4_readValue_92 : decode cX4_readValue 92 = .ok (.putfield 26, 3) := by decide +kernel
theorem dX4_readValue_95 : decode cX4_readValue 95 = .ok (.iinc 4 1, 3) := by decide +kernel
theorem dX4_readValue_98 : decode cX4_readValue 98 = .ok (.goto (-64), 3) := by decide +kernel
theorem dX4_readValue_101 : decode cX4_readValue 101 = .ok (.iconst 1, 1) := by decide +kernel
theorem dX4_readValue_102 : decode cX4_readValue 102 = .ok (.ireturn, 1) := by decide +kernel
set_option maxRecDepth 20000 in
theorem ggX4_accept_X4_here : GoodIn wsX4_accept wsX4_here := goodIn_r _ [6, 1, 7, 8, 9, 10, 11, 12, 13, 14] (by decide +kernel) (by decide +kernel)
set_option maxRecDepth 20000 in
theorem gX4_accept_X4_here : GoodIn wsX4_accept (wsV RX4 33 RX4 yX4_here wsX4_here) := goodIn_app (goodIn_of _ (by decide +kernel)) ggX4_accept_X4_here
theorem dX4_accept_0 : decode cX4_accept 0 = .ok (.aload_n 0, 1) := by decide +kernel
theorem dX4_accept_1 : decode cX4_accept 1 = .ok (.invokevirtual 33, 3) := by decide +kernel
theorem dX4_accept_4 : decode cX4_accept 4 = .ok (.iload_n 1, 1) := by decide +kernel
theorem dX4_accept_5 : decode cX4_accept 5 = .ok (.if_icmp .eq 5, 3) := by decide +kernel
theorem dX4_accept_8 : decode cX4_accept 8 = .ok (.iconst 0, 1) := by decide +kernel
theorem dX4_accept_9 : decode cX4_accept 9 = .ok (.ireturn, 1) := by decide +kernel
theorem dX4_accept_10 : decode cX4_accept 10 = .ok (.aload_n 0, 1) := by decide +kernel
theorem dX4_accept_11 : decode cX4_accept 11 = .ok (.dup, 1) := by decide +kernel
theorem dX4_accept_12 : decode cX4_accept 12 = .ok (.getfield 26, 3) := by decide +kernel
theorem dX4_accept_15 : decode cX4_accept 15 = .ok (.iconst 1, 1) := by decide +kernel
theorem dX4_accept_16 : decode cX4_accept 16 = .ok (.iadd, 1) := by decide +kernel
theorem dX4_accept_17 : decode cX4_accept 17 = .ok (.putfield 26, 3) := by decide +kernel
theorem dX4_accept_20 : decode cX4_accept 20 = .ok (.iconst 1, 1) := by decide +kernel
theorem dX4_accept_21 : decode cX4_accept 21 = .ok (.ireturn, 1) := by decide +kernel
set_option maxRecDepth 20000 in
theorem ggX4_digitHere_X4_here : GoodIn wsX4_digitHere wsX4_here := goodIn_r _ [5, 6, 7, 8, 12, 13, 14, 15, 16, 17] (by decide +kernel) (by decide +kernel)
set_option maxRecDepth 20000 in
theorem gX4_digitHere_X4_here : GoodIn wsX4_digitHere (wsV RX4 33 RX4 yX4_here wsX4_here) := goodIn_app (goodIn_of _ (by decide +kernel)) ggX4_digitHere_X4_here
set_option maxRecDepth 20000 in
theorem ggX4_digitHere_X6_isWithin : GoodIn wsX4_digitHere wsX6_isWithin := goodIn_r _ [11] (by decide +kernel) (by decide +kernel)
set_option maxRecDepth 20000 in
theorem gX4_digitHere_X6_isWithin_n57 : GoodIn wsX4_digitHere (wsX6_isWithin) := ggX4_digitHere_X6_isWithin
theorem dX4_digitHere_0 : decode cX4_digitHere 0 = .ok (.aload_n 0, 1) := by decide +kernel
theorem dX4_digitHere_1 : decode cX4_digitHere 1 = .ok (.invokevirtual 33, 3) := by decide +kernel
theorem dX4_digitHere_4 : decode cX4_digitHere 4 = .ok (.istore_n 1, 1) := by decide +kernel
theorem dX4_digitHere_5 : decode cX4_digitHere 5 = .ok (.iload_n 1, 1) := by decide +kernel
theorem dX4_digitHere_6 : decode cX4_digitHere 6 = .ok (.bipush 48, 2) := by decide +kernel
theorem dX4_digitHere_8 : decode cX4_digitHere 8 = .ok (.bipush 57, 2) := by decide +kernel
theorem dX4_digitHere_10 : decode cX4_digitHere 10 = .ok (.invokestatic 57, 3) := by decide +kernel
theorem dX4_digitHere_13 : decode cX4_digitHere 13 = .ok (.ifCond .eq 10, 3) := by decide +kernel
theorem dX4_digitHere_16 : decode cX4_digitHere 16 = .ok (.iload_n 1, 1) := by decide +kernel
theorem dX4_digitHere_17 : decode cX4_digitHere 17 = .ok (.bipush 48, 2) := by decide +kernel
theorem dX4_digitHere_19 : decode cX4_digitHere 19 = .ok (.isub, 1) := by decide +kernel
theorem dX4_digitHere_20 : decode cX4_digitHere 20 = .ok (.goto 4, 3) := by decide +kernel
theorem dX4_digitHere_23 : decode cX4_digitHere 23 = .ok (.iconst (-1), 1) := by decide +kernel
theorem dX4_digitHere_24 : decode cX4_digitHere 24 = .ok (.ireturn, 1) := by decide +kernel
theorem dX4_here_0 : decode cX4_here 0 = .ok (.aload_n 0, 1) := by decide +kernel
theorem dX4_here_1 : decode cX4_here 1 = .ok (.getfield 26, 3) := by decide +kernel
theorem dX4_here_4 : decode cX4_here 4 = .ok (.ifCond .lt 26, 3) := by decide +kernel
theorem dX4_here_7 : decode cX4_here 7 = .ok (.aload_n 0, 1) := by decide +kernel
theorem dX4_here_8 : decode cX4_here 8 = .ok (.getfield 26, 3) := by decide +kernel
theorem dX4_here_11 : decode cX4_here 11 = .ok (.aload_n 0, 1) := by decide +kernel
theorem dX4_here_12 : decode cX4_here 12 = .ok (.getfield 15, 3) := by decide +kernel
theorem dX4_here_15 : decode cX4_here 15 = .ok (.if_icmp .ge 15, 3) := by decide +kernel
theorem dX4_here_18 : decode cX4_here 18 = .ok (.aload_n 0, 1) := by decide +kernel
theorem dX4_here_19 : decode cX4_here 19 = .ok (.getfield 26, 3) := by decide +kernel
theorem dX4_here_22 : decode cX4_here 22 = .ok (.aload_n 0, 1) := by decide +kernel
theorem dX4_here_23 : decode cX4_here 23 = .ok (.getfield 9, 3) := by decide +kernel
theorem dX4_here_26 : decode cX4_here 26 = .ok (.arraylength, 1) := by decide +kernel
theorem dX4_here_27 : decode cX4_here 27 = .ok (.if_icmp .lt 5, 3) := by decide +kernel
theorem dX4_here_30 : decode cX4_here 30 = .ok (.iconst (-1), 1) := by decide +kernel
theorem dX4_here_31 : decode cX4_here 31 = .ok (.ireturn, 1) := by decide +kernel
theorem dX4_here_32 : decode cX4_here 32 = .ok (.aload_n 0, 1) := by decide +kernel
theorem dX4_here_33 : decode cX4_here 33 = .ok (.getfield 9, 3) := by decide +kernel
theorem dX4_here_36 : decode cX4_here 36 = .ok (.aload_n 0, 1) := by decide +kernel
theorem dX4_here_37 : decode cX4_here 37 = .ok (.getfield 26, 3) := by decide +kernel
theorem dX4_here_40 : decode cX4_here 40 = .ok (.caload, 1) := by decide +kernel
theorem dX4_here_41 : decode cX4_here 41 = .ok (.ireturn, 1) := by decide +kernel
theorem dX5_init_0 : decode cX5_init 0 = .ok (.aload_n 0, 1) := by decide +kernel
theorem dX5_init_1 : decode cX5_init 1 = .ok (.invokespecial 3, 3) := by decide +kernel
theorem dX5_init_4 : decode cX5_init 4 = .ok (.aload_n 0, 1) := by decide +kernel
theorem dX5_init_5 : decode cX5_init 5 = .ok (.bipush 12, 2) := by decide +kernel
theorem dX5_init_7 : decode cX5_init 7 = .ok (.newarray .int, 2) := by decide +kernel
theorem dX5_init_9 : decode cX5_init 9 = .ok (.putfield 9, 3) := by decide +kernel
theorem dX5_init_12 : decode cX5_init 12 = .ok (.return_, 1) := by decide +kernel
theorem dX5_copyFrom_0 : decode cX5_copyFrom 0 = .ok (.aload_n 0, 1) := by decide +kernel
theorem dX5_copyFrom_1 : decode cX5_copyFrom 1 = .ok (.aload_n 1, 1) := by decide +kernel
theorem dX5_copyFrom_2 : decode cX5_copyFrom 2 = .ok (.getfield 15, 3) := by decide +kernel
theorem dX5_copyFrom_5 : decode cX5_copyFrom 5 = .ok (.putfield 15, 3) := by decide +kernel
theorem dX5_copyFrom_8 : decode cX5_copyFrom 8 = .ok (.iconst 0, 1) := by decide +kernel
theorem dX5_copyFrom_9 : decode cX5_copyFrom 9 = .ok (.istore_n 2, 1) := by decide +kernel
theorem dX5_copyFrom_10 : decode cX5_copyFrom 10 = .ok (.iload_n 2, 1) := by decide +kernel
theorem dX5_copyFrom_11 : decode cX5_copyFrom 11 = .ok (.aload_n 0, 1) := by decide +kernel
theorem dX5_copyFrom_12 : decode cX5_copyFrom 12 = .ok (.getfield 9, 3) := by decide +kernel
theorem dX5_copyFrom_15 : decode cX5_copyFrom 15 = .ok (.arraylength, 1) := by decide +kernel
theorem dX5_copyFrom_16 : decode cX5_copyFrom 16 = .ok (.if_icmp .ge 30, 3) := by decide +kernel
theorem dX5_copyFrom_19 : decode cX5_copyFrom 19 = .ok (.iload_n 2, 1) := by decide +kernel
theorem dX5_copyFrom_20 : decode cX5_copyFrom 20 = .ok (.aload_n 1, 1) := by decide +kernel
theorem dX5_copyFrom_21 : decode cX5_copyFrom 21 = .ok (.getfield 9, 3) := by decide +kernel
theorem dX5_copyFrom_24 : decode cX5_copyFrom 24 = .ok (.arraylength, 1) := by decide +kernel
theorem dX5_copyFrom_25 : decode cX5_copyFrom 25 = .ok (.if_icmp .ge 21, 3) := by decide +kernel
theorem dX5_copyFrom_28 : decode cX5_copyFrom 28 = .ok (.aload_n 0, 1) := by decide +kernel
theorem dX5_copyFrom_29 : decode cX5_copyFrom 29 = .ok (.getfield 9, 3) := by decide +kernel
theorem dX5_copyFrom_32 : decode cX5_copyFrom 32 = .ok (.iload_n 2, 1) := by decide +kernel
theorem dX5_copyFrom_33 : decode cX5_copyFrom 33 = .ok (.aload_n 1, 1) := by decide +kernel
theorem dX5_copyFrom_34 : decode cX5_copyFrom 34 = .ok (.getfield 9, 3) := by decide +kernel
theorem dX5_copyFrom_37 : decode cX5_copyFrom 37 = .ok (.iload_n 2, 1) := by decide +kernel
theorem dX5_copyFrom_38 : decode cX5_copyFrom 38 = .ok (.iaload, 1) := by decide +kernel
theorem dX5_copyFrom_39 : decode cX5_copyFrom 39 = .ok (.iastore, 1) := by decide +kernel
theorem dX5_copyFrom_40 : decode cX5_copyFrom 40 = .ok (.iinc 2 1, 3) := by decide +kernel
theorem dX5_copyFrom_43 : decode cX5_copyFrom 43 = .ok (.goto (-33), 3) := by decide +kernel
theorem dX5_copyFrom_46 : decode cX5_copyFrom 46 = .ok (.return_, 1) := by decide +kernel
theorem dX5_kindAt_0 : decode cX5_kindAt 0 = .ok (.iload_n 1, 1) := by decide +kernel
theorem dX5_kindAt_1 : decode cX5_kindAt 1 = .ok (.ifCond .lt 29, 3) := by decide +kernel
theorem dX5_kindAt_4 : decode cX5_kindAt 4 = .ok (.iload_n 1, 1) := by decide +kernel
theorem dX5_kindAt_5 : decode cX5_kindAt 5 = .ok (.aload_n 0, 1) := by decide +kernel
theorem dX5_kindAt_6 : decode cX5_kindAt 6 = .ok (.getfield 15, 3) := by decide +kernel
theorem dX5_kindAt_9 : decode cX5_kindAt 9 = .ok (.if_icmp .ge 21, 3) := by decide +kernel
theorem dX5_kindAt_12 : decode cX5_kindAt 12 = .ok (.iload_n 1, 1) := by decide +kernel
theorem dX5_kindAt_13 : decode cX5_kindAt 13 = .ok (.aload_n 0, 1) := by decide +kernel
theorem dX5_kindAt_14 : decode cX5_kindAt 14 = .ok (.getfield 9, 3) := by decide +kernel
theorem dX5_kindAt_17 : decode cX5_kindAt 17 = .ok (.arraylength, 1) := by decide +kernel
theorem dX5_kindAt_18 : decode cX5_kindAt 18 = .ok (.if_icmp .ge 12, 3) := by decide +kernel
theorem dX5_kindAt_21 : decode cX5_kindAt 21 = .ok (.aload_n 0, 1) := by decide +kernel
theorem dX5_kindAt_22 : decode cX5_kindAt 22 = .ok (.getfield 9, 3) := by decide +kernel
theorem dX5_kindAt_25 : decode cX5_kindAt 25 = .ok (.iload_n 1, 1) := by decide +kernel
theorem dX5_kindAt_26 : decode cX5_kindAt 26 = .ok (.iaload, 1) := by decide +kernel
theorem dX5_kindAt_27 : decode cX5_kindAt 27 = .ok (.goto 5, 3) := by decide +kernel
theorem dX5_kindAt_30 : decode cX5_kindAt 30 = .ok (.bipush (-5), 2) := by decide +kernel
theorem dX5_kindAt_32 : decode cX5_kindAt 32 = .ok (.ireturn, 1) := by decide +kernel
theorem dX5_add_0 : decode cX5_add 0 = .ok (.aload_n 0, 1) := by decide +kernel
theorem dX5_add_1 : decode cX5_add 1 = .ok (.getfield 15, 3) := by decide +kernel
theorem dX5_add_4 : decode cX5_add 4 = .ok (.ifCond .lt 15, 3) := by decide +kernel
theorem dX5_add_7 : decode cX5_add 7 = .ok (.aload_n 0, 1) := by decide +kernel
theorem dX5_add_8 : decode cX5_add 8 = .ok (.getfield 15, 3) := by decide +kernel
theorem dX5_add_11 : decode cX5_add 11 = .ok (.aload_n 0, 1) := by decide +kernel
theorem dX5_add_12 : decode cX5_add 12 = .ok (.getfield 9, 3) := by decide +kernel
theorem dX5_add_15 : decode cX5_add 15 = .ok (.arraylength, 1) := by decide +kernel
theorem dX5_add_16 : decode cX5_add 16 = .ok (.if_icmp .lt 6, 3) := by decide +kernel
theorem dX5_add_19 : decode cX5_add 19 = .ok (.bipush (-3), 2) := by decide +kernel
theorem dX5_add_21 : decode cX5_add 21 = .ok (.ireturn, 1) := by decide +kernel
theorem dX5_add_22 : decode cX5_add 22 = .ok (.aload_n 0, 1) := by decide +kernel
theorem dX5_add_23 : decode cX5_add 23 = .ok (.getfield 9, 3) := by decide +kernel
theorem dX5_add_26 : decode cX5_add 26 = .ok (.aload_n 0, 1) := by decide +kernel
theorem dX5_add_27 : decode cX5_add 27 = .ok (.getfield 15, 3) := by decide +kernel
theorem dX5_add_30 : decode cX5_add 30 = .ok (.iload_n 1, 1) := by decide +kernel
theorem dX5_add_31 : decode cX5_add 31 = .ok (.iastore, 1) := by decide +kernel
theorem dX5_add_32 : decode cX5_add 32 = .ok (.aload_n 0, 1) := by decide +kernel
theorem dX5_add_33 : decode cX5_add 33 = .ok (.dup, 1) := by decide +kernel
theorem dX5_add_34 : decode cX5_add 34 = .ok (.getfield 15, 3) := by decide +kernel
theorem dX5_add_37 : decode cX5_add 37 = .ok (.iconst 1, 1) := by decide +kernel
theorem dX5_add_38 : decode cX5_add 38 = .ok (.iadd, 1) := by decide +kernel
theorem dX5_add_39 : decode cX5_add 39 = .ok (.putfield 15, 3) := by decide +kernel
theorem dX5_add_42 : decode cX5_add 42 = .ok (.aload_n 0, 1) := by decide +kernel
theorem dX5_add_43 : decode cX5_add 43 = .ok (.getfield 15, 3) := by decide +kernel
theorem dX5_add_46 : decode cX5_add 46 = .ok (.iconst 1, 1) := by decide +kernel
theorem dX5_add_47 : decode cX5_add 47 = .ok (.isub, 1) := by decide +kernel
theorem dX5_add_48 : decode cX5_add 48 = .ok (.ireturn, 1) := by decide +kernel
set_option maxRecDepth 20000 in
theorem ggX5_remove_X5_kindAt : GoodIn wsX5_remove wsX5_kindAt := goodIn_r _ [7, 1, 2, 8, 9] (by decide +kernel) (by decide +kernel)
set_option maxRecDepth 20000 in
theorem gX5_remove_X5_kindAt : GoodIn wsX5_remove (wsV RX5 19 RX5 yX5_kindAt wsX5_kindAt) := goodIn_app (goodIn_of _ (by decide +kernel)) ggX5_remove_X5_kindAt
theorem dX5_remove_0 : decode cX5_remove 0 = .ok (.iload_n 1, 1) := by decide +kernel
theorem dX5_remove_1 : decode cX5_remove 1 = .ok (.ifCond .lt 11, 3) := by decide +kernel
theorem dX5_remove_4 : decode cX5_remove 4 = .ok (.iload_n 1, 1) := by decide +kernel
theorem dX5_remove_5 : decode cX5_remove 5 = .ok (.aload_n 0, 1) := by decide +kernel
theorem dX5_remove_6 : decode cX5_remove 6 = .ok (.getfield 15, 3) := by decide +kernel
theorem dX5_remove_9 : decode cX5_remove 9 = .ok (.if_icmp .lt 5, 3) := by decide +kernel
theorem dX5_remove_12 : decode cX5_remove 12 = .ok (.iconst (-1), 1) := by decide +kernel
theorem dX5_remove_13 : decode cX5_remove 13 = .ok (.ireturn, 1) := by decide +kernel
theorem dX5_remove_14 : decode cX5_remove 14 = .ok (.aload_n 0, 1) := by decide +kernel
theorem dX5_remove_15 : decode cX5_remove 15 = .ok (.iload_n 1, 1) := by decide +kernel
theorem dX5_remove_16 : decode cX5_remove 16 = .ok (.invokevirtual 19, 3) := by decide +kernel
theorem dX5_remove_19 : decode cX5_remove 19 = .ok (.istore_n 2, 1) := by decide +kernel
theorem dX5_remove_20 : decode cX5_remove 20 = .ok (.iload_n 1, 1) := by decide +kernel
theorem dX5_remove_21 : decode cX5_remove 21 = .ok (.iconst 1, 1) := by decide +kernel
theorem dX5_remove_22 : decode cX5_remove 22 = .ok (.iadd, 1) := by decide +kernel
theorem dX5_remove_23 : decode cX5_remove 23 = .ok (.istore_n 3, 1) := by decide +kernel
theorem dX5_remove_24 : decode cX5_remove 24 = .ok (.iload_n 3, 1) := by decide +kernel
theorem dX5_remove_25 : decode cX5_remove 25 = .ok (.aload_n 0, 1) := by decide +kernel
theorem dX5_remove_26 : decode cX5_remove 26 = .ok (.getfield 15, 3) := by decide +kernel
theorem dX5_remove_29 : decode cX5_remove 29 = .ok (.if_icmp .ge 32, 3) := by decide +kernel
theorem dX5_remove_32 : decode cX5_remove 32 = .ok (.iload_n 3, 1) := by decide +kernel
theorem dX5_remove_33 : decode cX5_remove 33 = .ok (.aload_n 0, 1) := by decide +kernel
theorem dX5_remove_34 : decode cX5_remove 34 = .ok (.getfield 9, 3) := by decide +kernel
theorem dX5_remove_37 : decode cX5_remove 37 = .ok (.arraylength, 1) := by decide +kernel
theorem dX5_remove_38 : decode cX5_remove 38 = .ok (.if_icmp .ge 23, 3) := by decide +kernel
theorem dX5_remove_41 : decode cX5_remove 41 = .ok (.aload_n 0, 1) := by decide +kernel
theorem dX5_remove_42 : decode cX5_remove 42 = .ok (.getfield 9, 3) := by decide +kernel
theorem dX5_remove_45 : decode cX5_remove 45 = .ok (.iload_n 3, 1) := by decide +kernel
theorem dX5_remove_46 : decode cX5_remove 46 = .ok (.iconst 1, 1) := by decide +kernel
theorem dX5_remove_47 : decode cX5_remove 47 = .ok (.isub, 1) := by decide +kernel
theorem dX5_remove_48 : decode cX5_remove 48 = .ok (.aload_n 0, 1) := by decide +kernel
theorem dX5_remove_49 : decode cX5_remove 49 = .ok (.getfield 9, 3) := by decide +kernel
theorem dX5_remove_52 : decode cX5_remove 52 = .ok (.iload_n 3, 1) := by decide +kernel
theorem dX5_remove_53 : decode cX5_remove 53 = .ok (.iaload, 1) := by decide +kernel
theorem dX5_remove_54 : decode cX5_remove 54 = .ok (.iastore, 1) := by decide +kernel
theorem dX5_remove_55 : decode cX5_remove 55 = .ok (.iinc 3 1, 3) := by decide +kernel
theorem dX5_remove_58 : decode cX5_remove 58 = .ok (.goto (-34), 3) := by decide +kernel
theorem dX5_remove_61 : decode cX5_remove 61 = .ok (.aload_n 0, 1) := by decide +kernel
theorem dX5_remove_62 : decode cX5_remove 62 = .ok (.dup, 1) := by decide +kernel
theorem dX5_remove_63 : decode cX5_remove 63 = .ok (.getfield 15, 3) := by decide +kernel
theorem dX5_remove_66 : decode cX5_remove 66 = .ok (.iconst 1, 1) := by decide +kernel
theorem dX5_remove_67 : decode cX5_remove 67 = .ok (.isub, 1) := by decide +kernel
theorem dX5_remove_68 : decode cX5_remove 68 = .ok (.putfield 15, 3) := by decide +kernel
theorem dX5_remove_71 : decode cX5_remove 71 = .ok (.iload_n 2, 1) := by decide +kernel
theorem dX5_remove_72 : decode cX5_remove 72 = .ok (.ireturn, 1) := by decide +kernel
set_option maxRecDepth 20000 in
theorem ggX6_init_X2_init : GoodIn wsX6_init wsX2_init := goodIn_r _ [25, 26, 2, 3, 27, 28, 29, 30, 31, 32, 33, 34, 35, 36, 37, 38, 39, 40, 41, 42, 43, 44, 45, 46, 47, 48, 49, 50, 51, 52, 53, 54, 55, 56, 102, 103, 104, 105, 106, 70, 71, 72, 73, 74, 75, 76, 77, 78, 79, 80, 81, 82, 83, 107, 108, 109, 110, 111] (by decide +kernel) (by decide +kernel)
set_option maxRecDepth 20000 in
theorem gX6_init_X2_init : GoodIn wsX6_init (wsX2_init) := ggX6_init_X2_init
set_option maxRecDepth 20000 in
theorem ggX6_init_X1_init : GoodIn wsX6_init wsX1_init := goodIn_r _ [59, 60, 2, 3, 61, 5, 6, 62, 63, 24, 25, 26, 27, 28, 29, 30, 31, 32, 33, 34, 35, 36, 37, 38, 39, 40, 41, 42, 43, 44, 45, 46, 47, 48, 49, 50, 51, 52, 53, 54, 55, 56, 70, 71, 72, 73, 74, 75, 76, 77, 78, 79, 80, 81, 82, 83, 94, 95, 102, 103, 104, 105, 106, 107, 108, 109, 110, 111] (by decide +kernel) (by decide +kernel)
set_option maxRecDepth 20000 in
theorem gX6_init_X1_init : GoodIn wsX6_init (wsX1_init) := ggX6_init_X1_init
set_option maxRecDepth 20000 in
theorem ggX6_init_X4_init : GoodIn wsX6_init wsX4_init := goodIn_r _ [66, 67, 2, 3, 68, 69, 96, 97, 98, 99, 100, 101] (by decide +kernel) (by decide +kernel)
set_option maxRecDepth 20000 in
theorem gX6_init_X4_init : GoodIn wsX6_init (wsX4_init) := ggX6_init_X4_init
theorem dX6_init_0 : decode cX6_init 0 = .ok (.aload_n 0, 1) := by decide +kernel
theorem dX6_init_1 : decode cX6_init 1 = .ok (.invokespecial 1, 3) := by decide +kernel
theorem dX6_init_4 : decode cX6_init 4 = .ok (.aload_n 0, 1) := by decide +kernel
theorem dX6_init_5 : decode cX6_init 5 = .ok (.new 7, 3) := by decide +kernel
theorem dX6_init_8 : decode cX6_init 8 = .ok (.dup, 1) := by decide +kernel
theorem dX6_init_9 : decode cX6_init 9 = .ok (.invokespecial 9, 3) := by decide +kernel
theorem dX6_init_12 : decode cX6_init 12 = .ok (.putfield 10, 3) := by decide +kernel
theorem dX6_init_15 : decode cX6_init 15 = .ok (.aload_n 0, 1) := by decide +kernel
theorem dX6_init_16 : decode cX6_init 16 = .ok (.new 7, 3) := by decide +kernel
theorem dX6_init_19 : decode cX6_init 19 = .ok (.dup, 1) := by decide +kernel
theorem dX6_init_20 : decode cX6_init 20 = .ok (.invokespecial 9, 3) := by decide +kernel
theorem dX6_init_23 : decode cX6_init 23 = .ok (.putfield 16, 3) := by decide +kernel
theorem dX6_init_26 : decode cX6_init 26 = .ok (.aload_n 0, 1) := by decide +kernel
theorem dX6_init_27 : decode cX6_init 27 = .ok (.new 7, 3) := by decide +kernel
theorem dX6_init_30 : decode cX6_init 30 = .ok (.dup, 1) := by decide +kernel
theorem dX6_init_31 : decode cX6_init 31 = .ok (.invokespecial 9, 3) := by decide +kernel
theorem dX6_init_34 : decode cX6_init 34 = .ok (.putfield 19, 3) := by decide +kernel
theorem dX6_init_37 : decode cX6_init 37 = .ok (.aload_n 0, 1) := by decide +kernel
theorem dX6_init_38 : decode cX6_init 38 = .ok (.new 7, 3) := by decide +kernel
theorem dX6_init_41 : decode cX6_init 41 = .ok (.dup, 1) := by decide +kernel
theorem dX6_init_42 : decode cX6_init 42 = .ok (.invokespecial 9, 3) := by decide +kernel
theorem dX6_init_45 : decode cX6_init 45 = .ok (.putfield 22, 3) := by decide +kernel
theorem dX6_init_48 : decode cX6_init 48 = .ok (.aload_n 0, 1) := by decide +kernel
theorem dX6_init_49 : decode cX6_init 49 = .ok (.new 7, 3) := by decide +kernel
theorem dX6_init_52 : decode cX6_init 52 = .ok (.dup, 1) := by decide +kernel
theorem dX6_init_53 : decode cX6_init 53 = .ok (.invokespecial 9, 3) := by decide +kernel
theorem dX6_init_56 : decode cX6_init 56 = .ok (.putfield 25, 3) := by decide +kernel
theorem dX6_init_59 : decode cX6_init 59 = .ok (.aload_n 0, 1) := by decide +kernel
theorem dX6_init_60 : decode cX6_init 60 = .ok (.new 28, 3) := by decide +kernel
theorem dX6_init_63 : decode cX6_init 63 = .ok (.dup, 1) := by decide +kernel
theorem dX6_init_64 : decode cX6_init 64 = .ok (.invokespecial 30, 3) := by decide +kernel
theorem dX6_init_67 : decode cX6_init 67 = .ok (.putfield 31, 3) := by decide +kernel
theorem dX6_init_70 : decode cX6_init 70 = .ok (.aload_n 0, 1) := by decide +kernel
theorem dX6_init_71 : decode cX6_init 71 = .ok (.new 35, 3) := by decide +kernel
theorem dX6_init_74 : decode cX6_init 74 = .ok (.dup, 1) := by decide +kernel
theorem dX6_init_75 : decode cX6_init 75 = .ok (.invokespecial 37, 3) := by decide +kernel
theorem dX6_init_78 : decode cX6_init 78 = .ok (.putfield 38, 3) := by decide +kernel
theorem dX6_init_81 : decode cX6_init 81 = .ok (.aload_n 0, 1) := by decide +kernel
theorem dX6_init_82 : decode cX6_init 82 = .ok (.iconst 0, 1) := by decide +kernel
theorem dX6_init_83 : decode cX6_init 83 = .ok (.putfield 42, 3) := by decide +kernel
theorem dX6_init_86 : decode cX6_init 86 = .ok (.aload_n 0, 1) := by decide +kernel
theorem dX6_init_87 : decode cX6_init 87 = .ok (.bipush (-5), 2) := by decide +kernel
theorem dX6_init_89 : decode cX6_init 89 = .ok (.putfield 46, 3) := by decide +kernel
theorem dX6_init_92 : decode cX6_init 92 = .ok (.aload_n 0, 1) := by decide +kernel
theorem dX6_init_93 : decode cX6_init 93 = .ok (.bipush (-5), 2) := by decide +kernel
theorem dX6_init_95 : decode cX6_init 95 = .ok (.putfield 50, 3) := by decide +kernel
theorem dX6_init_98 : decode cX6_init 98 = .ok (.return_, 1) := by decide +kernel
set_option maxRecDepth 20000 in
theorem ggX6_setFire_X2_copyFrom : GoodIn wsX6_setFire wsX2_copyFrom := goodIn_r _ [7, 8, 9, 10, 11, 12, 13, 14, 15, 16, 17, 18, 19, 20, 21, 22, 23, 24, 25, 26, 27, 28, 29, 30, 31, 32, 33, 34, 35, 36, 37, 38, 39, 40, 41, 42, 43, 44, 45, 46, 87, 88, 89, 90, 91, 92, 93, 94, 95, 96, 97, 98, 99, 100, 101, 102, 103, 104, 105, 106, 107, 108, 109, 110] (by decide +kernel) (by decide +kernel)
set_option maxRecDepth 20000 in
theorem gX6_setFire_X2_copyFrom : GoodIn wsX6_setFire (wsV RX6 53 RX2 yX2_copyFrom wsX2_copyFrom) := goodIn_app (goodIn_of _ (by decide +kernel)) ggX6_setFire_X2_copyFrom
set_option maxRecDepth 20000 in
theorem ggX6_setFire_X2_changeFire : GoodIn wsX6_setFire wsX2_changeFire := goodIn_r _ [50, 51, 52, 53, 54, 55, 6, 56, 8, 57, 58, 59, 101, 102, 103, 104, 105, 87, 88, 89, 90, 91, 92, 93, 94, 95, 96, 97, 98, 99, 100] (by decide +kernel) (by decide +kernel)
set_option maxRecDepth 20000 in
theorem gX6_setFire_X2_changeFire : GoodIn wsX6_setFire (wsV RX6 57 RX2 yX2_changeFire wsX2_changeFire) := goodIn_app (goodIn_of _ (by decide +kernel)) ggX6_setFire_X2_changeFire
set_option maxRecDepth 20000 in
theorem ggX6_setFire_X6_recorded : GoodIn wsX6_setFire wsX6_recorded := goodIn_r _ [63, 64, 1, 65, 66, 67, 68, 69, 70, 71, 72, 73, 74, 75, 76, 4, 5, 6, 7, 8, 9, 10, 11, 12, 13, 14, 15, 16, 17, 18, 19, 20, 21, 22, 23, 24, 25, 26, 27, 28, 29, 30, 31, 32, 33, 34, 35, 36, 37, 38, 39, 40, 41, 42, 43, 44, 45, 46, 77, 78, 79, 80, 81, 82, 83, 84, 85, 86, 111, 112, 87, 88, 89, 90, 91, 92, 93, 94, 95, 96, 97, 98, 99, 100, 101, 102, 103, 104, 105, 106, 107, 108, 109, 110] (by decide +kernel) (by decide +kernel)
set_option maxRecDepth 20000 in
theorem gX6_setFire_X6_recorded : GoodIn wsX6_setFire (wsV RX6 61 RX6 yX6_recorded wsX6_recorded) := goodIn_app (goodIn_of _ (by decide +kernel)) ggX6_setFire_X6_recorded
theorem dX6_setFire_0 : decode cX6_setFire 0 = .ok (.aload_n 0, 1) := by decide +kernel
theorem dX6_setFire_1 : decode cX6_setFire 1 = .ok (.getfield 16, 3) := by decide +kernel
theorem dX6_setFire_4 : decode cX6_setFire 4 = .ok (.aload_n 0, 1) := by decide +kernel
theorem dX6_setFire_5 : decode cX6_setFire 5 = .ok (.getfield 10, 3) := by decide +kernel
theorem dX6_setFire_8 : decode cX6_setFire 8 = .ok (.invokevirtual 53, 3) := by decide +kernel
theorem dX6_setFire_11 : decode cX6_setFire 11 = .ok (.aload_n 0, 1) := by decide +kernel
theorem dX6_setFire_12 : decode cX6_setFire 12 = .ok (.aload_n 0, 1) := by decide +kernel
theorem dX6_setFire_13 : decode cX6_setFire 13 = .ok (.getfield 10, 3) := by decide +kernel
theorem dX6_setFire_16 : decode cX6_setFire 16 = .ok (.iload_n 1, 1) := by decide +kernel
theorem dX6_setFire_17 : decode cX6_setFire 17 = .ok (.iload_n 2, 1) := by decide +kernel
theorem dX6_setFire_18 : decode cX6_setFire 18 = .ok (.invokevirtual 57, 3) := by decide +kernel
theorem dX6_setFire_21 : decode cX6_setFire 21 = .ok (.invokevirtual 61, 3) := by decide +kernel
theorem dX6_setFire_24 : decode cX6_setFire 24 = .ok (.ireturn, 1) := by decide +kernel
set_option maxRecDepth 20000 in
theorem ggX6_fill_X2_copyFrom : GoodIn wsX6_fill wsX2_copyFrom := goodIn_r _ [7, 8, 9, 10, 11, 12, 13, 14, 15, 16, 17, 18, 19, 20, 21, 22, 23, 24, 25, 26, 27, 28, 29, 30, 31, 32, 33, 34, 35, 36, 37, 38, 39, 40, 41, 42, 43, 44, 45, 46, 86, 87, 88, 89, 90, 91, 92, 93, 94, 95, 96, 97, 98, 99, 100, 101, 102, 103, 104, 105, 106, 107, 108, 109] (by decide +kernel) (by decide +kernel)
set_option maxRecDepth 20000 in
theorem gX6_fill_X2_copyFrom : GoodIn wsX6_fill (wsV RX6 53 RX2 yX2_copyFrom wsX2_copyFrom) := goodIn_app (goodIn_of _ (by decide +kernel)) ggX6_fill_X2_copyFrom
set_option maxRecDepth 20000 in
theorem ggX6_fill_X2_letWaterIn : GoodIn wsX6_fill wsX2_letWaterIn := goodIn_r _ [50, 51, 52, 53, 54, 6, 55, 8, 56, 57, 58, 100, 101, 102, 103, 104, 86, 87, 88, 89, 90, 91, 92, 93, 94, 95, 96, 97, 98, 99] (by decide +kernel) (by decide +kernel)
set_option maxRecDepth 20000 in
theorem gX6_fill_X2_letWaterIn : GoodIn wsX6_fill (wsV RX6 65 RX2 yX2_letWaterIn wsX2_letWaterIn) := goodIn_app (goodIn_of _ (by decide +kernel)) ggX6_fill_X2_letWaterIn
set_option maxRecDepth 20000 in
theorem ggX6_fill_X6_recorded : GoodIn wsX6_fill wsX6_recorded := goodIn_r _ [62, 63, 1, 64, 65, 66, 67, 68, 69, 70, 71, 72, 73, 74, 75, 4, 5, 6, 7, 8, 9, 10, 11, 12, 13, 14, 15, 16, 17, 18, 19, 20, 21, 22, 23, 24, 25, 26, 27, 28, 29, 30, 31, 32, 33, 34, 35, 36, 37, 38, 39, 40, 41, 42, 43, 44, 45, 46, 76, 77, 78, 79, 80, 81, 82, 83, 84, 85, 110, 111, 86, 87, 88, 89, 90, 91, 92, 93, 94, 95, 96, 97, 98, 99, 100, 101, 102, 103, 104, 105, 106, 107, 108, 109] (by decide +kernel) (by decide +kernel)
set_option maxRecDepth 20000 in
theorem gX6_fill_X6_recorded : GoodIn wsX6_fill (wsV RX6 61 RX6 yX6_recorded wsX6_recorded) := goodIn_app (goodIn_of _ (by decide +kernel)) ggX6_fill_X6_recorded
theorem dX6_fill_0 : decode cX6_fill 0 = .ok (.aload_n 0, 1) := by decide +kernel
theorem dX6_fill_1 : decode cX6_fill 1 = .ok (.getfield 16, 3) := by decide +kernel
theorem dX6_fill_4 : decode cX6_fill 4 = .ok (.aload_n 0, 1) := by decide +kernel
theorem dX6_fill_5 : decode cX6_fill 5 = .ok (.getfield 10, 3) := by decide +kernel
theorem dX6_fill_8 : decode cX6_fill 8 = .ok (.invokevirtual 53, 3) := by decide +kernel
theorem dX6_fill_11 : decode cX6_fill 11 = .ok (.aload_n 0, 1) := by decide +kernel
theorem dX6_fill_12 : decode cX6_fill 12 = .ok (.aload_n 0, 1) := by decide +kernel
theorem dX6_fill_13 : decode cX6_fill 13 = .ok (.getfield 10, 3) := by decide +kernel
theorem dX6_fill_16 : decode cX6_fill 16 = .ok (.iload_n 1, 1) := by decide +kernel
theorem dX6_fill_17 : decode cX6_fill 17 = .ok (.iload_n 2, 1) := by decide +kernel
theorem dX6_fill_18 : decode cX6_fill 18 = .ok (.invokevirtual 65, 3) := by decide +kernel
theorem dX6_fill_21 : decode cX6_fill 21 = .ok (.invokevirtual 61, 3) := by decide +kernel
theorem dX6_fill_24 : decode cX6_fill 24 = .ok (.ireturn, 1) := by decide +kernel
set_option maxRecDepth 20000 in
theorem ggX6_setRation_X2_copyFrom : GoodIn wsX6_setRation wsX2_copyFrom := goodIn_r _ [7, 8, 9, 10, 11, 12, 13, 14, 15, 16, 17, 18, 19, 20, 21, 22, 23, 24, 25, 26, 27, 28, 29, 30, 31, 32, 33, 34, 35, 36, 37, 38, 39, 40, 41, 42, 43, 44, 45, 46, 81, 82, 83, 84, 85, 86, 87, 88, 89, 90, 91, 92, 93, 94, 95, 96, 97, 98, 99, 100, 101, 102, 103, 104] (by decide +kernel) (by decide +kernel)
set_option maxRecDepth 20000 in
theorem gX6_setRation_X2_copyFrom : GoodIn wsX6_setRation (wsV RX6 53 RX2 yX2_copyFrom wsX2_copyFrom) := goodIn_app (goodIn_of _ (by decide +kernel)) ggX6_setRation_X2_copyFrom
set_option maxRecDepth 20000 in
theorem ggX6_setRation_X2_changeRation : GoodIn wsX6_setRation wsX2_changeRation := goodIn_r _ [50, 16, 51, 52, 53, 81, 82, 83, 84, 85, 86, 87, 88, 89, 90, 91, 92, 93, 94] (by decide +kernel) (by decide +kernel)
set_option maxRecDepth 20000 in
theorem gX6_setRation_X2_changeRation : GoodIn wsX6_setRation (wsV RX6 68 RX2 yX2_changeRation wsX2_changeRation) := goodIn_app (goodIn_of _ (by decide +kernel)) ggX6_setRation_X2_changeRation
set_option maxRecDepth 20000 in
theorem ggX6_setRation_X6_recorded : GoodIn wsX6_setRation wsX6_recorded := goodIn_r _ [57, 58, 1, 59, 60, 61, 62, 63, 64, 65, 66, 67, 68, 69, 70, 4, 5, 6, 7, 8, 9, 10, 11, 12, 13, 14, 15, 16, 17, 18, 19, 20, 21, 22, 23, 24, 25, 26, 27, 28, 29, 30, 31, 32, 33, 34, 35, 36, 37, 38, 39, 40, 41, 42, 43, 44, 45, 46, 71, 72, 73, 74, 75, 76, 77, 78, 79, 80, 105, 106, 81, 82, 83, 84, 85, 86, 87, 88, 89, 90, 91, 92, 93, 94, 95, 96, 97, 98, 99, 100, 101, 102, 103, 104] (by decide +kernel) (by decide +kernel)
set_option maxRecDepth 20000 in
theorem gX6_setRation_X6_recorded : GoodIn wsX6_setRation (wsV RX6 61 RX6 yX6_recorded wsX6_recorded) := goodIn_app (goodIn_of _ (by decide +kernel)) ggX6_setRation_X6_recorded
theorem dX6_setRation_0 : decode cX6_setRation 0 = .ok (.aload_n 0, 1) := by decide +kernel
theorem dX6_setRation_1 : decode cX6_setRation 1 = .ok (.getfield 16, 3) := by decide +kernel
theorem dX6_setRation_4 : decode cX6_setRation 4 = .ok (.aload_n 0, 1) := by decide +kernel
theorem dX6_setRation_5 : decode cX6_setRation 5 = .ok (.getfield 10, 3) := by decide +kernel
theorem dX6_setRation_8 : decode cX6_setRation 8 = .ok (.invokevirtual 53, 3) := by decide +kernel
theorem dX6_setRation_11 : decode cX6_setRation 11 = .ok (.aload_n 0, 1) := by decide +kernel
theorem dX6_setRation_12 : decode cX6_setRation 12 = .ok (.aload_n 0, 1) := by decide +kernel
theorem dX6_setRation_13 : decode cX6_setRation 13 = .ok (.getfield 10, 3) := by decide +kernel
theorem dX6_setRation_16 : decode cX6_setRation 16 = .ok (.iload_n 1, 1) := by decide +kernel
theorem dX6_setRation_17 : decode cX6_setRation 17 = .ok (.invokevirtual 68, 3) := by decide +kernel
theorem dX6_setRation_20 : decode cX6_setRation 20 = .ok (.invokevirtual 61, 3) := by decide +kernel
theorem dX6_setRation_23 : decode cX6_setRation 23 = .ok (.ireturn, 1) := by decide +kernel
set_option maxRecDepth 20000 in
theorem ggX6_start_X2_copyFrom : GoodIn wsX6_start wsX2_copyFrom := goodIn_r _ [8, 9, 10, 11, 12, 13, 14, 15, 16, 17, 18, 19, 20, 21, 22, 23, 24, 25, 26, 27, 28, 29, 30, 31, 32, 33, 34, 35, 36, 37, 38, 39, 40, 41, 42, 43, 44, 45, 46, 47, 157, 158, 159, 160, 161, 162, 163, 164, 165, 166, 167, 168, 169, 170, 171, 172, 173, 174, 175, 176, 177, 178, 179, 180] (by decide +kernel) (by decide +kernel)
set_option maxRecDepth 20000 in
theorem gX6_start_X2_copyFrom : GoodIn wsX6_start (wsV RX6 53 RX2 yX2_copyFrom wsX2_copyFrom) := goodIn_app (goodIn_of _ (by decide +kernel)) ggX6_start_X2_copyFrom
set_option maxRecDepth 20000 in
theorem ggX6_start_X2_startLoad : GoodIn wsX6_start wsX2_startLoad := goodIn_r _ [51, 19, 52, 53, 54, 55, 7, 56, 10, 57, 58, 59, 60, 61, 62, 36, 63, 38, 64, 65, 66, 67, 68, 69, 70, 71, 72, 73, 74, 75, 9, 76, 77, 5, 6, 8, 11, 12, 13, 14, 15, 16, 17, 18, 20, 21, 22, 23, 24, 25, 26, 27, 28, 29, 30, 31, 32, 33, 34, 35, 37, 39, 40, 41, 42, 43, 44, 45, 46, 47, 78, 79, 80, 81, 82, 83, 84, 85, 86, 87, 88, 89, 90, 91, 92, 93, 94, 95, 96, 97, 98, 99, 100, 101, 102, 103, 104, 105, 106, 107, 108, 109, 110, 111, 112, 113, 114, 115, 116, 117, 118, 119, 120, 121, 122, 123, 124, 125, 126, 127, 128, 129, 157, 158, 159, 160, 161, 162, 163, 164, 165, 166, 167, 168, 169, 170, 176, 177, 178, 171, 172, 173, 174, 175, 179, 180] (by decide +kernel) (by decide +kernel)
set_option maxRecDepth 20000 in
theorem gX6_start_X2_startLoad : GoodIn wsX6_start (wsV RX6 71 RX2 yX2_startLoad wsX2_startLoad) := goodIn_app (goodIn_of _ (by decide +kernel)) ggX6_start_X2_startLoad
set_option maxRecDepth 20000 in
theorem ggX6_start_X6_recorded : GoodIn wsX6_start wsX6_recorded := goodIn_r _ [133, 134, 1, 135, 136, 137, 138, 139, 140, 141, 142, 143, 144, 145, 146, 5, 6, 7, 8, 9, 10, 11, 12, 13, 14, 15, 16, 17, 18, 19, 20, 21, 22, 23, 24, 25, 26, 27, 28, 29, 30, 31, 32, 33, 34, 35, 36, 37, 38, 39, 40, 41, 42, 43, 44, 45, 46, 47, 147, 148, 149, 150, 151, 152, 153, 154, 155, 156, 181, 182, 157, 158, 159, 160, 161, 162, 163, 164, 165, 166, 167, 168, 169, 170, 171, 172, 173, 174, 175, 176, 177, 178, 179, 180] (by decide +kernel) (by decide +kernel)
set_option maxRecDepth 20000 in
theorem gX6_start_X6_recorded : GoodIn wsX6_start (wsV RX6 61 RX6 yX6_recorded wsX6_recorded) := goodIn_app (goodIn_of _ (by decide +kernel)) ggX6_start_X6_recorded
theorem dX6_start_0 : decode cX6_start 0 = .ok (.aload_n 0, 1) := by decide +kernel
theorem dX6_start_1 : decode cX6_start 1 = .ok (.getfield 16, 3) := by decide +kernel
theorem dX6_start_4 : decode cX6_start 4 = .ok (.aload_n 0, 1) := by decide +kernel
theorem dX6_start_5 : decode cX6_start 5 = .ok (.getfield 10, 3) := by decide +kernel
theorem dX6_start_8 : decode cX6_start 8 = .ok (.invokevirtual 53, 3) := by decide +kernel
theorem dX6_start_11 : decode cX6_start 11 = .ok (.aload_n 0, 1) := by decide +kernel
theorem dX6_start_12 : decode cX6_start 12 = .ok (.aload_n 0, 1) := by decide +kernel
theorem dX6_start_13 : decode cX6_start 13 = .ok (.getfield 10, 3) := by decide +kernel
theorem dX6_start_16 : decode cX6_start 16 = .ok (.iload_n 1, 1) := by decide +kernel
theorem dX6_start_17 : decode cX6_start 17 = .ok (.iload_n 2, 1) := by decide +kernel
theorem dX6_start_18 : decode cX6_start 18 = .ok (.aload_n 0, 1) := by decide +kernel
theorem dX6_start_19 : decode cX6_start 19 = .ok (.getfield 22, 3) := by decide +kernel
theorem dX6_start_22 : decode cX6_start 22 = .ok (.invokevirtual 71, 3) := by decide +kernel
theorem dX6_start_25 : decode cX6_start 25 = .ok (.invokevirtual 61, 3) := by decide +kernel
theorem dX6_start_28 : decode cX6_start 28 = .ok (.ireturn, 1) := by decide +kernel
set_option maxRecDepth 20000 in
theorem ggX6_queue_X2_copyFrom : GoodIn wsX6_queue wsX2_copyFrom := goodIn_r _ [7, 8, 9, 10, 11, 12, 13, 14, 15, 16, 17, 18, 19, 20, 21, 22, 23, 24, 25, 26, 27, 28, 29, 30, 31, 32, 33, 34, 35, 36, 37, 38, 39, 40, 41, 42, 43, 44, 45, 46, 85, 86, 87, 88, 89, 90, 91, 92, 93, 94, 95, 96, 97, 98, 99, 100, 101, 102, 103, 104, 105, 106, 107, 108] (by decide +kernel) (by decide +kernel)
set_option maxRecDepth 20000 in
theorem gX6_queue_X2_copyFrom : GoodIn wsX6_queue (wsV RX6 53 RX2 yX2_copyFrom wsX2_copyFrom) := goodIn_app (goodIn_of _ (by decide +kernel)) ggX6_queue_X2_copyFrom
set_option maxRecDepth 20000 in
theorem ggX6_queue_X2_addToLine : GoodIn wsX6_queue wsX2_addToLine := goodIn_r _ [50, 10, 51, 52, 53, 54, 55, 56, 43, 57, 45, 46, 85, 86, 87, 88, 89, 90, 91, 92, 93, 94, 95, 96, 97, 98, 107, 108] (by decide +kernel) (by decide +kernel)
set_option maxRecDepth 20000 in
theorem gX6_queue_X2_addToLine : GoodIn wsX6_queue (wsV RX6 75 RX2 yX2_addToLine wsX2_addToLine) := goodIn_app (goodIn_of _ (by decide +kernel)) ggX6_queue_X2_addToLine
set_option maxRecDepth 20000 in
theorem ggX6_queue_X6_recorded : GoodIn wsX6_queue wsX6_recorded := goodIn_r _ [61, 62, 1, 63, 64, 65, 66, 67, 68, 69, 70, 71, 72, 73, 74, 4, 5, 6, 7, 8, 9, 10, 11, 12, 13, 14, 15, 16, 17, 18, 19, 20, 21, 22, 23, 24, 25, 26, 27, 28, 29, 30, 31, 32, 33, 34, 35, 36, 37, 38, 39, 40, 41, 42, 43, 44, 45, 46, 75, 76, 77, 78, 79, 80, 81, 82, 83, 84, 109, 110, 85, 86, 87, 88, 89, 90, 91, 92, 93, 94, 95, 96, 97, 98, 99, 100, 101, 102, 103, 104, 105, 106, 107, 108] (by decide +kernel) (by decide +kernel)
set_option maxRecDepth 20000 in
theorem gX6_queue_X6_recorded : GoodIn wsX6_queue (wsV RX6 61 RX6 yX6_recorded wsX6_recorded) := goodIn_app (goodIn_of _ (by decide +kernel)) ggX6_queue_X6_recorded
theorem dX6_queue_0 : decode cX6_queue 0 = .ok (.aload_n 0, 1) := by decide +kernel
theorem dX6_queue_1 : decode cX6_queue 1 = .ok (.getfield 16, 3) := by decide +kernel
theorem dX6_queue_4 : decode cX6_queue 4 = .ok (.aload_n 0, 1) := by decide +kernel
theorem dX6_queue_5 : decode cX6_queue 5 = .ok (.getfield 10, 3) := by decide +kernel
theorem dX6_queue_8 : decode cX6_queue 8 = .ok (.invokevirtual 53, 3) := by decide +kernel
theorem dX6_queue_11 : decode cX6_queue 11 = .ok (.aload_n 0, 1) := by decide +kernel
theorem dX6_queue_12 : decode cX6_queue 12 = .ok (.aload_n 0, 1) := by decide +kernel
theorem dX6_queue_13 : decode cX6_queue 13 = .ok (.getfield 10, 3) := by decide +kernel
theorem dX6_queue_16 : decode cX6_queue 16 = .ok (.iload_n 1, 1) := by decide +kernel
theorem dX6_queue_17 : decode cX6_queue 17 = .ok (.invokevirtual 75, 3) := by decide +kernel
theorem dX6_queue_20 : decode cX6_queue 20 = .ok (.invokevirtual 61, 3) := by decide +kernel
theorem dX6_queue_23 : decode cX6_queue 23 = .ok (.ireturn, 1) := by decide +kernel
set_option maxRecDepth 20000 in
theorem ggX6_unqueue_X2_copyFrom : GoodIn wsX6_unqueue wsX2_copyFrom := goodIn_r _ [7, 8, 9, 10, 11, 12, 13, 14, 15, 16, 17, 18, 19, 20, 21, 22, 23, 24, 25, 26, 27, 28, 29, 30, 31, 32, 33, 34, 35, 36, 37, 38, 39, 40, 41, 42, 43, 44, 45, 46, 87, 88, 89, 90, 91, 92, 93, 94, 95, 96, 97, 98, 99, 100, 101, 102, 103, 104, 105, 106, 107, 108, 109, 110] (by decide +kernel) (by decide +kernel)
set_option maxRecDepth 20000 in
theorem gX6_unqueue_X2_copyFrom : GoodIn wsX6_unqueue (wsV RX6 53 RX2 yX2_copyFrom wsX2_copyFrom) := goodIn_app (goodIn_of _ (by decide +kernel)) ggX6_unqueue_X2_copyFrom
set_option maxRecDepth 20000 in
theorem ggX6_unqueue_X2_removeFromLine : GoodIn wsX6_unqueue wsX2_removeFromLine := goodIn_r _ [50, 10, 51, 52, 53, 43, 54, 45, 46, 55, 56, 57, 58, 87, 88, 89, 90, 91, 92, 93, 94, 95, 96, 97, 98, 99, 100, 109, 110] (by decide +kernel) (by decide +kernel)
set_option maxRecDepth 20000 in
theorem gX6_unqueue_X2_removeFromLine : GoodIn wsX6_unqueue (wsV RX6 78 RX2 yX2_removeFromLine wsX2_removeFromLine) := goodIn_app (goodIn_of _ (by decide +kernel)) ggX6_unqueue_X2_removeFromLine
set_option maxRecDepth 20000 in
theorem ggX6_unqueue_X6_recorded : GoodIn wsX6_unqueue wsX6_recorded := goodIn_r _ [63, 64, 1, 65, 66, 67, 68, 69, 70, 71, 72, 73, 74, 75, 76, 4, 5, 6, 7, 8, 9, 10, 11, 12, 13, 14, 15, 16, 17, 18, 19, 20, 21, 22, 23, 24, 25, 26, 27, 28, 29, 30, 31, 32, 33, 34, 35, 36, 37, 38, 39, 40, 41, 42, 43, 44, 45, 46, 77, 78, 79, 80, 81, 82, 83, 84, 85, 86, 111, 112, 87, 88, 89, 90, 91, 92, 93, 94, 95, 96, 97, 98, 99, 100, 101, 102, 103, 104, 105, 106, 107, 108, 109, 110] (by decide +kernel) (by decide +kernel)
set_option maxRecDepth 20000 in
theorem gX6_unqueue_X6_recorded : GoodIn wsX6_unqueue (wsV RX6 61 RX6 yX6_recorded wsX6_recorded) := goodIn_app (goodIn_of _ (by decide +kernel)) ggX6_unqueue_X6_recorded
theorem dX6_unqueue_0 : decode cX6_unqueue 0 = .ok (.aload_n 0, 1) := by decide +kernel
theorem dX6_unqueue_1 : decode cX6_unqueue 1 = .ok (.getfield 16, 3) := by decide +kernel
theorem dX6_unqueue_4 : decode cX6_unqueue 4 = .ok (.aload_n 0, 1) := by decide +kernel
theorem dX6_unqueue_5 : decode cX6_unqueue 5 = .ok (.getfield 10, 3) := by decide +kernel
theorem dX6_unqueue_8 : decode cX6_unqueue 8 = .ok (.invokevirtual 53, 3) := by decide +kernel
theorem dX6_unqueue_11 : decode cX6_unqueue 11 = .ok (.aload_n 0, 1) := by decide +kernel
theorem dX6_unqueue_12 : decode cX6_unqueue 12 = .ok (.aload_n 0, 1) := by decide +kernel
theorem dX6_unqueue_13 : decode cX6_unqueue 13 = .ok (.getfield 10, 3) := by decide +kernel
theorem dX6_unqueue_16 : decode cX6_unqueue 16 = .ok (.iload_n 1, 1) := by decide +kernel
theorem dX6_unqueue_17 : decode cX6_unqueue 17 = .ok (.invokevirtual 78, 3) := by decide +kernel
theorem dX6_unqueue_20 : decode cX6_unqueue 20 = .ok (.invokevirtual 61, 3) := by decide +kernel
theorem dX6_unqueue_23 : decode cX6_unqueue 23 = .ok (.ireturn, 1) := by decide +kernel
set_option maxRecDepth 20000 in
theorem ggX6_takeOut_X2_copyFrom : GoodIn wsX6_takeOut wsX2_copyFrom := goodIn_r _ [7, 8, 9, 10, 11, 12, 13, 14, 15, 16, 17, 18, 19, 20, 21, 22, 23, 24, 25, 26, 27, 28, 29, 30, 31, 32, 33, 34, 35, 36, 37, 38, 39, 40, 41, 42, 43, 44, 45, 46, 92, 93, 94, 95, 96, 97, 98, 99, 100, 101, 102, 103, 104, 105, 106, 107, 108, 109, 110, 111, 112, 113, 114, 115] (by decide +kernel) (by decide +kernel)
set_option maxRecDepth 20000 in
theorem gX6_takeOut_X2_copyFrom : GoodIn wsX6_takeOut (wsV RX6 53 RX2 yX2_copyFrom wsX2_copyFrom) := goodIn_app (goodIn_of _ (by decide +kernel)) ggX6_takeOut_X2_copyFrom
set_option maxRecDepth 20000 in
theorem ggX6_takeOut_X2_unload : GoodIn wsX6_takeOut wsX2_unload := goodIn_r _ [50, 51, 19, 52, 53, 54, 6, 55, 9, 56, 57, 58, 35, 59, 37, 60, 61, 62, 63, 38, 39, 111, 112, 113, 92, 93, 94, 95, 96, 97, 98, 99, 100, 101, 102, 103, 104, 105] (by decide +kernel) (by decide +kernel)
set_option maxRecDepth 20000 in
theorem gX6_takeOut_X2_unload : GoodIn wsX6_takeOut (wsV RX6 81 RX2 yX2_unload wsX2_unload) := goodIn_app (goodIn_of _ (by decide +kernel)) ggX6_takeOut_X2_unload
set_option maxRecDepth 20000 in
theorem ggX6_takeOut_X6_recorded : GoodIn wsX6_takeOut wsX6_recorded := goodIn_r _ [68, 69, 1, 70, 71, 72, 73, 74, 75, 76, 77, 78, 79, 80, 81, 4, 5, 6, 7, 8, 9, 10, 11, 12, 13, 14, 15, 16, 17, 18, 19, 20, 21, 22, 23, 24, 25, 26, 27, 28, 29, 30, 31, 32, 33, 34, 35, 36, 37, 38, 39, 40, 41, 42, 43, 44, 45, 46, 82, 83, 84, 85, 86, 87, 88, 89, 90, 91, 116, 117, 92, 93, 94, 95, 96, 97, 98, 99, 100, 101, 102, 103, 104, 105, 106, 107, 108, 109, 110, 111, 112, 113, 114, 115] (by decide +kernel) (by decide +kernel)
set_option maxRecDepth 20000 in
theorem gX6_takeOut_X6_recorded : GoodIn wsX6_takeOut (wsV RX6 61 RX6 yX6_recorded wsX6_recorded) := goodIn_app (goodIn_of _ (by decide +kernel)) ggX6_takeOut_X6_recorded
theorem dX6_takeOut_0 : decode cX6_takeOut 0 = .ok (.aload_n 0, 1) := by decide +kernel
theorem dX6_takeOut_1 : decode cX6_takeOut 1 = .ok (.getfield 16, 3) := by decide +kernel
theorem dX6_takeOut_4 : decode cX6_takeOut 4 = .ok (.aload_n 0, 1) := by decide +kernel
theorem dX6_takeOut_5 : decode cX6_takeOut 5 = .ok (.getfield 10, 3) := by decide +kernel
theorem dX6_takeOut_8 : decode cX6_takeOut 8 = .ok (.invokevirtual 53, 3) := by decide +kernel
theorem dX6_takeOut_11 : decode cX6_takeOut 11 = .ok (.aload_n 0, 1) := by decide +kernel
theorem dX6_takeOut_12 : decode cX6_takeOut 12 = .ok (.aload_n 0, 1) := by decide +kernel
theorem dX6_takeOut_13 : decode cX6_takeOut 13 = .ok (.getfield 10, 3) := by decide +kernel
theorem dX6_takeOut_16 : decode cX6_takeOut 16 = .ok (.iload_n 1, 1) := by decide +kernel
theorem dX6_takeOut_17 : decode cX6_takeOut 17 = .ok (.invokevirtual 81, 3) := by decide +kernel
theorem dX6_takeOut_20 : decode cX6_takeOut 20 = .ok (.invokevirtual 61, 3) := by decide +kernel
theorem dX6_takeOut_23 : decode cX6_takeOut 23 = .ok (.ireturn, 1) := by decide +kernel
set_option maxRecDepth 20000 in
theorem ggX6_run_X2_copyFrom : GoodIn wsX6_run wsX2_copyFrom := goodIn_r _ [8, 9, 10, 11, 12, 13, 14, 15, 16, 17, 18, 19, 20, 21, 22, 23, 24, 25, 26, 27, 28, 29, 30, 31, 32, 33, 34, 35, 36, 37, 38, 39, 40, 41, 42, 43, 44, 45, 46, 47, 167, 168, 169, 170, 171, 172, 173, 174, 175, 176, 177, 178, 179, 180, 181, 182, 183, 184, 185, 186, 187, 188, 189, 190] (by decide +kernel) (by decide +kernel)
set_option maxRecDepth 20000 in
theorem gX6_run_X2_copyFrom : GoodIn wsX6_run (wsV RX6 53 RX2 yX2_copyFrom wsX2_copyFrom) := goodIn_app (goodIn_of _ (by decide +kernel)) ggX6_run_X2_copyFrom
set_option maxRecDepth 20000 in
theorem ggX6_run_X2_letPass : GoodIn wsX6_run wsX2_letPass := goodIn_r _ [51, 12, 52, 13, 53, 54, 55, 56, 57, 58, 7, 59, 11, 19, 60, 61, 62, 63, 9, 16, 15, 64, 65, 66, 67, 17, 68, 69, 70, 71, 18, 72, 73, 74, 26, 75, 31, 28, 29, 30, 76, 77, 78, 79, 10, 80, 81, 82, 83, 84, 85, 86, 87, 88, 89, 90, 91, 22, 92, 14, 93, 94, 95, 36, 96, 38, 97, 98, 99, 100, 39, 40, 101, 102, 103, 104, 105, 106, 107, 108, 109, 21, 110, 111, 112, 113, 114, 115, 32, 116, 117, 118, 44, 119, 46, 47, 120, 121, 122, 123, 124, 125, 126, 127, 128, 5, 6, 8, 20, 23, 24, 25, 27, 33, 34, 35, 37, 41, 42, 43, 45, 129, 130, 131, 132, 133, 134, 135, 136, 137, 138, 139, 167, 168, 169, 170, 171, 172, 173, 174, 175, 176, 177, 178, 179, 180, 181, 182, 183, 184, 185, 186, 187, 188, 189, 190] (by decide +kernel) (by decide +kernel)
set_option maxRecDepth 20000 in
theorem gX6_run_X2_letPass : GoodIn wsX6_run (wsV RX6 84 RX2 yX2_letPass wsX2_letPass) := goodIn_app (goodIn_of _ (by decide +kernel)) ggX6_run_X2_letPass
set_option maxRecDepth 20000 in
theorem ggX6_run_X6_recorded : GoodIn wsX6_run wsX6_recorded := goodIn_r _ [143, 144, 1, 145, 146, 147, 148, 149, 150, 151, 152, 153, 154, 155, 156, 5, 6, 7, 8, 9, 10, 11, 12, 13, 14, 15, 16, 17, 18, 19, 20, 21, 22, 23, 24, 25, 26, 27, 28, 29, 30, 31, 32, 33, 34, 35, 36, 37, 38, 39, 40, 41, 42, 43, 44, 45, 46, 47, 157, 158, 159, 160, 161, 162, 163, 164, 165, 166, 191, 192, 167, 168, 169, 170, 171, 172, 173, 174, 175, 176, 177, 178, 179, 180, 181, 182, 183, 184, 185, 186, 187, 188, 189, 190] (by decide +kernel) (by decide +kernel)
set_option maxRecDepth 20000 in
theorem gX6_run_X6_recorded : GoodIn wsX6_run (wsV RX6 61 RX6 yX6_recorded wsX6_recorded) := goodIn_app (goodIn_of _ (by decide +kernel)) ggX6_run_X6_recorded
theorem dX6_run_0 : decode cX6_run 0 = .ok (.aload_n 0, 1) := by decide +kernel
theorem dX6_run_1 : decode cX6_run 1 = .ok (.getfield 16, 3) := by decide +kernel
theorem dX6_run_4 : decode cX6_run 4 = .ok (.aload_n 0, 1) := by decide +kernel
theorem dX6_run_5 : decode cX6_run 5 = .ok (.getfield 10, 3) := by decide +kernel
theorem dX6_run_8 : decode cX6_run 8 = .ok (.invokevirtual 53, 3) := by decide +kernel
theorem dX6_run_11 : decode cX6_run 11 = .ok (.aload_n 0, 1) := by decide +kernel
theorem dX6_run_12 : decode cX6_run 12 = .ok (.aload_n 0, 1) := by decide +kernel
theorem dX6_run_13 : decode cX6_run 13 = .ok (.getfield 10, 3) := by decide +kernel
theorem dX6_run_16 : decode cX6_run 16 = .ok (.iload_n 1, 1) := by decide +kernel
theorem dX6_run_17 : decode cX6_run 17 = .ok (.aload_n 0, 1) := by decide +kernel
theorem dX6_run_18 : decode cX6_run 18 = .ok (.getfield 22, 3) := by decide +kernel
theorem dX6_run_21 : decode cX6_run 21 = .ok (.invokevirtual 84, 3) := by decide +kernel
theorem dX6_run_24 : decode cX6_run 24 = .ok (.invokevirtual 61, 3) := by decide +kernel
theorem dX6_run_27 : decode cX6_run 27 = .ok (.ireturn, 1) := by decide +kernel
set_option maxRecDepth 20000 in
theorem ggX6_perform_X4_countOrders : GoodIn wsX6_perform wsX4_countOrders := goodIn_r _ [10, 11, 12, 13, 14, 15, 9, 16, 17, 18, 19, 20, 21, 22, 23, 24, 25, 26, 27, 28, 29, 30, 31, 32, 33, 34, 35, 36, 37, 38, 39, 40, 41, 42, 43, 44, 45, 46, 47, 252, 253, 254, 255, 256, 257] (by decide +kernel) (by decide +kernel)
set_option maxRecDepth 20000 in
theorem gX6_perform_X4_countOrders : GoodIn wsX6_perform (wsV RX6 96 RX4 yX4_countOrders wsX4_countOrders) := goodIn_app (goodIn_of _ (by decide +kernel)) ggX6_perform_X4_countOrders
set_option maxRecDepth 20000 in
theorem ggX6_perform_X2_copyFrom : GoodIn wsX6_perform wsX2_copyFrom := goodIn_r _ [52, 53, 54, 55, 56, 57, 58, 59, 60, 61, 62, 63, 64, 65, 66, 67, 68, 69, 70, 71, 72, 73, 74, 75, 76, 77, 78, 79, 80, 81, 82, 83, 84, 85, 86, 87, 88, 89, 90, 91, 258, 259, 260, 261, 262, 263, 264, 265, 266, 267, 268, 269, 270, 271, 272, 273, 274, 275, 276, 277, 278, 279, 280, 281] (by decide +kernel) (by decide +kernel)
set_option maxRecDepth 20000 in
theorem gX6_perform_X2_copyFrom : GoodIn wsX6_perform (wsV RX6 53 RX2 yX2_copyFrom wsX2_copyFrom) := goodIn_app (goodIn_of _ (by decide +kernel)) ggX6_perform_X2_copyFrom
set_option maxRecDepth 20000 in
theorem ggX6_perform_X4_rewind : GoodIn wsX6_perform wsX4_rewind := goodIn_r _ [16, 11, 252, 253, 254, 255, 256, 257] (by decide +kernel) (by decide +kernel)
set_option maxRecDepth 20000 in
theorem gX6_perform_X4_rewind : GoodIn wsX6_perform (wsV RX6 99 RX4 yX4_rewind wsX4_rewind) := goodIn_app (goodIn_of _ (by decide +kernel)) ggX6_perform_X4_rewind
set_option maxRecDepth 20000 in
theorem ggX6_perform_X6_obeyNextOrder : GoodIn wsX6_perform wsX6_obeyNextOrder := goodIn_r _ [96, 1, 97, 3, 98, 99, 100, 101, 102, 103, 9, 104, 27, 28, 29, 30, 11, 22, 23, 24, 25, 12, 26, 17, 18, 19, 20, 21, 31, 32, 33, 34, 35, 36, 37, 38, 39, 40, 41, 42, 43, 44, 45, 46, 47, 105, 106, 107, 51, 108, 109, 110, 111, 112, 113, 114, 53, 115, 116, 117, 118, 119, 120, 121, 122, 123, 63, 124, 125, 126, 127, 128, 54, 129, 130, 131, 80, 132, 82, 133, 134, 135, 136, 137, 138, 139, 140, 141, 142, 143, 144, 145, 146, 49, 50, 52, 55, 56, 57, 58, 59, 60, 61, 62, 64, 65, 66, 67, 68, 69, 70, 71, 72, 73, 74, 75, 76, 77, 78, 79, 81, 83, 84, 85, 86, 87, 88, 89, 90, 91, 147, 148, 149, 150, 151, 152, 153, 154, 155, 156, 157, 158, 159, 160, 161, 162, 163, 164, 165, 166, 167, 168, 169, 170, 171, 172, 173, 174, 175, 176, 177, 178, 179, 180, 181, 182, 183, 184, 185, 186, 187, 188, 189, 190, 191, 192, 193, 194, 195, 196, 197, 198, 199, 200, 201, 202, 203, 204, 205, 206, 207, 208, 209, 210, 211, 212, 213, 214, 215, 216, 217, 218, 219, 220, 221, 222, 223, 224, 242, 243, 244, 245, 246, 247, 248, 249, 250, 251, 252, 253, 254, 255, 256, 257, 272, 273, 274, 275, 276, 258, 259, 260, 261, 262, 263, 264, 265, 266, 267, 268, 269, 270, 271, 277, 278, 279, 280, 281] (by decide +kernel) (by decide +kernel)
set_option maxRecDepth 20000 in
theorem gX6_perform_X6_obeyNextOrder : GoodIn wsX6_perform (wsV RX6 102 RX6 yX6_obeyNextOrder wsX6_obeyNextOrder) := goodIn_app (goodIn_of _ (by decide +kernel)) ggX6_perform_X6_obeyNextOrder
set_option maxRecDepth 20000 in
theorem ggX6_perform_X6_recorded : GoodIn wsX6_perform wsX6_recorded := goodIn_r _ [228, 229, 2, 230, 231, 232, 233, 234, 235, 236, 237, 238, 239, 240, 241, 49, 50, 51, 52, 53, 54, 55, 56, 57, 58, 59, 60, 61, 62, 63, 64, 65, 66, 67, 68, 69, 70, 71, 72, 73, 74, 75, 76, 77, 78, 79, 80, 81, 82, 83, 84, 85, 86, 87, 88, 89, 90, 91, 242, 243, 244, 245, 246, 247, 248, 249, 250, 251, 282, 283, 258, 259, 260, 261, 262, 263, 264, 265, 266, 267, 268, 269, 270, 271, 272, 273, 274, 275, 276, 277, 278, 279, 280, 281] (by decide +kernel) (by decide +kernel)
set_option maxRecDepth 20000 in
theorem gX6_perform_X6_recorded : GoodIn wsX6_perform (wsV RX6 61 RX6 yX6_recorded wsX6_recorded) := goodIn_app (goodIn_of _ (by decide +kernel)) ggX6_perform_X6_recorded
theorem dX6_perform_0 : decode cX6_perform 0 = .ok (.aload_n 0, 1) := by decide +kernel
theorem dX6_perform_1 : decode cX6_perform 1 = .ok (.getfield 38, 3) := by decide +kernel
theorem dX6_perform_4 : decode cX6_perform 4 = .ok (.invokevirtual 96, 3) := by decide +kernel
theorem dX6_perform_7 : decode cX6_perform 7 = .ok (.istore_n 1, 1) := by decide +kernel
theorem dX6_perform_8 : decode cX6_perform 8 = .ok (.iload_n 1, 1) := by decide +kernel
theorem dX6_perform_9 : decode cX6_perform 9 = .ok (.ifCond .ge 5, 3) := by decide +kernel
theorem dX6_perform_12 : decode cX6_perform 12 = .ok (.iload_n 1, 1) := by decide +kernel
theorem dX6_perform_13 : decode cX6_perform 13 = .ok (.ireturn, 1) := by decide +kernel
theorem dX6_perform_14 : decode cX6_perform 14 = .ok (.aload_n 0, 1) := by decide +kernel
theorem dX6_perform_15 : decode cX6_perform 15 = .ok (.getfield 16, 3) := by decide +kernel
theorem dX6_perform_18 : decode cX6_perform 18 = .ok (.aload_n 0, 1) := by decide +kernel
theorem dX6_perform_19 : decode cX6_perform 19 = .ok (.getfield 10, 3) := by decide +kernel
theorem dX6_perform_22 : decode cX6_perform 22 = .ok (.invokevirtual 53, 3) := by decide +kernel
theorem dX6_perform_25 : decode cX6_perform 25 = .ok (.aload_n 0, 1) := by decide +kernel
theorem dX6_perform_26 : decode cX6_perform 26 = .ok (.getfield 38, 3) := by decide +kernel
theorem dX6_perform_29 : decode cX6_perform 29 = .ok (.invokevirtual 99, 3) := by decide +kernel
theorem dX6_perform_32 : decode cX6_perform 32 = .ok (.iconst 0, 1) := by decide +kernel
theorem dX6_perform_33 : decode cX6_perform 33 = .ok (.istore_n 2, 1) := by decide +kernel
theorem dX6_perform_34 : decode cX6_perform 34 = .ok (.iload_n 2, 1) := by decide +kernel
theorem dX6_perform_35 : decode cX6_perform 35 = .ok (.iload_n 1, 1) := by decide +kernel
theorem dX6_perform_36 : decode cX6_perform 36 = .ok (.if_icmp .ge 48, 3) := by decide +kernel
theorem dX6_perform_39 : decode cX6_perform 39 = .ok (.aload_n 0, 1) := by decide +kernel
theorem dX6_perform_40 : decode cX6_perform 40 = .ok (.invokevirtual 102, 3) := by decide +kernel
theorem dX6_perform_43 : decode cX6_perform 43 = .ok (.istore_n 3, 1) := by decide +kernel
theorem dX6_perform_44 : decode cX6_perform 44 = .ok (.iload_n 3, 1) := by decide +kernel
theorem dX6_perform_45 : decode cX6_perform 45 = .ok (.ifCond .ge 33, 3) := by decide +kernel

