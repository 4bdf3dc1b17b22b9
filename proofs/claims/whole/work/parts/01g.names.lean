theorem dX7_ticks_15 : decode cX7_ticks 15 = .ok (.iload_n 3, 1) := by decide +kernel
theorem dX7_ticks_16 : decode cX7_ticks 16 = .ok (.invokevirtual 64, 3) := by decide +kernel
theorem dX7_ticks_19 : decode cX7_ticks 19 = .ok (.aload_n 0, 1) := by decide +kernel
theorem dX7_ticks_20 : decode cX7_ticks 20 = .ok (.iload_n 3, 1) := by decide +kernel
theorem dX7_ticks_21 : decode cX7_ticks 21 = .ok (.invokevirtual 67, 3) := by decide +kernel
theorem dX7_ticks_24 : decode cX7_ticks 24 = .ok (.istore 5, 2) := by decide +kernel
theorem dX7_ticks_26 : decode cX7_ticks 26 = .ok (.aload_n 0, 1) := by decide +kernel
theorem dX7_ticks_27 : decode cX7_ticks 27 = .ok (.getfield 7, 3) := by decide +kernel
theorem dX7_ticks_30 : decode cX7_ticks 30 = .ok (.iload_n 3, 1) := by decide +kernel
theorem dX7_ticks_31 : decode cX7_ticks 31 = .ok (.bipush 25, 2) := by decide +kernel
theorem dX7_ticks_33 : decode cX7_ticks 33 = .ok (.iadd, 1) := by decide +kernel
theorem dX7_ticks_34 : decode cX7_ticks 34 = .ok (.iaload, 1) := by decide +kernel
theorem dX7_ticks_35 : decode cX7_ticks 35 = .ok (.ifCond .le 35, 3) := by decide +kernel
theorem dX7_ticks_38 : decode cX7_ticks 38 = .ok (.aload_n 0, 1) := by decide +kernel
theorem dX7_ticks_39 : decode cX7_ticks 39 = .ok (.iload_n 1, 1) := by decide +kernel
theorem dX7_ticks_40 : decode cX7_ticks 40 = .ok (.iload 5, 2) := by decide +kernel
theorem dX7_ticks_42 : decode cX7_ticks 42 = .ok (.aload_n 0, 1) := by decide +kernel
theorem dX7_ticks_43 : decode cX7_ticks 43 = .ok (.getfield 7, 3) := by decide +kernel
theorem dX7_ticks_46 : decode cX7_ticks 46 = .ok (.iload_n 3, 1) := by decide +kernel
theorem dX7_ticks_47 : decode cX7_ticks 47 = .ok (.bipush 26, 2) := by decide +kernel
theorem dX7_ticks_49 : decode cX7_ticks 49 = .ok (.iadd, 1) := by decide +kernel
theorem dX7_ticks_50 : decode cX7_ticks 50 = .ok (.iaload, 1) := by decide +kernel
theorem dX7_ticks_51 : decode cX7_ticks 51 = .ok (.invokevirtual 70, 3) := by decide +kernel
theorem dX7_ticks_54 : decode cX7_ticks 54 = .ok (.ifCond .ne 16, 3) := by decide +kernel
theorem dX7_ticks_57 : decode cX7_ticks 57 = .ok (.aload_n 0, 1) := by decide +kernel
theorem dX7_ticks_58 : decode cX7_ticks 58 = .ok (.iload_n 3, 1) := by decide +kernel
theorem dX7_ticks_59 : decode cX7_ticks 59 = .ok (.iload 5, 2) := by decide +kernel
theorem dX7_ticks_61 : decode cX7_ticks 61 = .ok (.aload_n 0, 1) := by decide +kernel
theorem dX7_ticks_62 : decode cX7_ticks 62 = .ok (.iload_n 3, 1) := by decide +kernel
theorem dX7_ticks_63 : decode cX7_ticks 63 = .ok (.iconst 0, 1) := by decide +kernel
theorem dX7_ticks_64 : decode cX7_ticks 64 = .ok (.invokevirtual 74, 3) := by decide +kernel
theorem dX7_ticks_67 : decode cX7_ticks 67 = .ok (.invokevirtual 60, 3) := by decide +kernel
theorem dX7_ticks_70 : decode cX7_ticks 70 = .ok (.iinc 4 1, 3) := by decide +kernel
theorem dX7_ticks_73 : decode cX7_ticks 73 = .ok (.goto (-65), 3) := by decide +kernel
theorem dX7_ticks_76 : decode cX7_ticks 76 = .ok (.return_, 1) := by decide +kernel
set_option maxRecDepth 20000 in
theorem ggX7_sets_X7_in : GoodIn wsX7_sets wsX7_in := goodIn_r _ [5] (by decide +kernel) (by decide +kernel)
set_option maxRecDepth 20000 in
theorem gX7_sets_X7_in : GoodIn wsX7_sets (va_wsS RX7 78 yX7_in wsX7_in) := goodIn_app (goodIn_of _ (by decide +kernel)) ggX7_sets_X7_in
theorem dX7_sets_0 : decode cX7_sets 0 = .ok (.iload_n 2, 1) := by decide +kernel
theorem dX7_sets_1 : decode cX7_sets 1 = .ok (.iconst 0, 1) := by decide +kernel
theorem dX7_sets_2 : decode cX7_sets 2 = .ok (.iconst 1, 1) := by decide +kernel
theorem dX7_sets_3 : decode cX7_sets 3 = .ok (.invokestatic 78, 3) := by decide +kernel
theorem dX7_sets_6 : decode cX7_sets 6 = .ok (.ifCond .ne 5, 3) := by decide +kernel
theorem dX7_sets_9 : decode cX7_sets 9 = .ok (.iconst (-1), 1) := by decide +kernel
theorem dX7_sets_10 : decode cX7_sets 10 = .ok (.ireturn, 1) := by decide +kernel
theorem dX7_sets_11 : decode cX7_sets 11 = .ok (.iload_n 3, 1) := by decide +kernel
theorem dX7_sets_12 : decode cX7_sets 12 = .ok (.iconst 0, 1) := by decide +kernel
theorem dX7_sets_13 : decode cX7_sets 13 = .ok (.iconst 5, 1) := by decide +kernel
theorem dX7_sets_14 : decode cX7_sets 14 = .ok (.invokestatic 78, 3) := by decide +kernel
theorem dX7_sets_17 : decode cX7_sets 17 = .ok (.ifCond .ne 6, 3) := by decide +kernel
theorem dX7_sets_20 : decode cX7_sets 20 = .ok (.bipush (-2), 2) := by decide +kernel
theorem dX7_sets_22 : decode cX7_sets 22 = .ok (.ireturn, 1) := by decide +kernel
theorem dX7_sets_23 : decode cX7_sets 23 = .ok (.bipush 46, 2) := by decide +kernel
theorem dX7_sets_25 : decode cX7_sets 25 = .ok (.iload_n 1, 1) := by decide +kernel
theorem dX7_sets_26 : decode cX7_sets 26 = .ok (.imul, 1) := by decide +kernel
theorem dX7_sets_27 : decode cX7_sets 27 = .ok (.iload_n 2, 1) := by decide +kernel
theorem dX7_sets_28 : decode cX7_sets 28 = .ok (.iadd, 1) := by decide +kernel
theorem dX7_sets_29 : decode cX7_sets 29 = .ok (.istore 4, 2) := by decide +kernel
theorem dX7_sets_31 : decode cX7_sets 31 = .ok (.aload_n 0, 1) := by decide +kernel
theorem dX7_sets_32 : decode cX7_sets 32 = .ok (.getfield 7, 3) := by decide +kernel
theorem dX7_sets_35 : decode cX7_sets 35 = .ok (.iload 4, 2) := by decide +kernel
theorem dX7_sets_37 : decode cX7_sets 37 = .ok (.bipush 6, 2) := by decide +kernel
theorem dX7_sets_39 : decode cX7_sets 39 = .ok (.iadd, 1) := by decide +kernel
theorem dX7_sets_40 : decode cX7_sets 40 = .ok (.iaload, 1) := by decide +kernel
theorem dX7_sets_41 : decode cX7_sets 41 = .ok (.ifCond .le 6, 3) := by decide +kernel
theorem dX7_sets_44 : decode cX7_sets 44 = .ok (.bipush (-4), 2) := by decide +kernel
theorem dX7_sets_46 : decode cX7_sets 46 = .ok (.ireturn, 1) := by decide +kernel
theorem dX7_sets_47 : decode cX7_sets 47 = .ok (.aload_n 0, 1) := by decide +kernel
theorem dX7_sets_48 : decode cX7_sets 48 = .ok (.getfield 7, 3) := by decide +kernel
theorem dX7_sets_51 : decode cX7_sets 51 = .ok (.iload 4, 2) := by decide +kernel
theorem dX7_sets_53 : decode cX7_sets 53 = .ok (.iaload, 1) := by decide +kernel
theorem dX7_sets_54 : decode cX7_sets 54 = .ok (.istore 5, 2) := by decide +kernel
theorem dX7_sets_56 : decode cX7_sets 56 = .ok (.iload 5, 2) := by decide +kernel
theorem dX7_sets_58 : decode cX7_sets 58 = .ok (.iload_n 3, 1) := by decide +kernel
theorem dX7_sets_59 : decode cX7_sets 59 = .ok (.if_icmp .ne 6, 3) := by decide +kernel
theorem dX7_sets_62 : decode cX7_sets 62 = .ok (.bipush (-5), 2) := by decide +kernel
theorem dX7_sets_64 : decode cX7_sets 64 = .ok (.ireturn, 1) := by decide +kernel
theorem dX7_sets_65 : decode cX7_sets 65 = .ok (.aload_n 0, 1) := by decide +kernel
theorem dX7_sets_66 : decode cX7_sets 66 = .ok (.getfield 7, 3) := by decide +kernel
theorem dX7_sets_69 : decode cX7_sets 69 = .ok (.iload 4, 2) := by decide +kernel
theorem dX7_sets_71 : decode cX7_sets 71 = .ok (.iload_n 3, 1) := by decide +kernel
theorem dX7_sets_72 : decode cX7_sets 72 = .ok (.iastore, 1) := by decide +kernel
theorem dX7_sets_73 : decode cX7_sets 73 = .ok (.iload 5, 2) := by decide +kernel
theorem dX7_sets_75 : decode cX7_sets 75 = .ok (.ireturn, 1) := by decide +kernel
set_option maxRecDepth 20000 in
theorem ggX7_fills_X7_in : GoodIn wsX7_fills wsX7_in := goodIn_r _ [5] (by decide +kernel) (by decide +kernel)
set_option maxRecDepth 20000 in
theorem gX7_fills_X7_in : GoodIn wsX7_fills (va_wsS RX7 78 yX7_in wsX7_in) := goodIn_app (goodIn_of _ (by decide +kernel)) ggX7_fills_X7_in
theorem dX7_fills_0 : decode cX7_fills 0 = .ok (.iload_n 2, 1) := by decide +kernel
theorem dX7_fills_1 : decode cX7_fills 1 = .ok (.iconst 0, 1) := by decide +kernel
theorem dX7_fills_2 : decode cX7_fills 2 = .ok (.iconst 1, 1) := by decide +kernel
theorem dX7_fills_3 : decode cX7_fills 3 = .ok (.invokestatic 78, 3) := by decide +kernel
theorem dX7_fills_6 : decode cX7_fills 6 = .ok (.ifCond .ne 5, 3) := by decide +kernel
theorem dX7_fills_9 : decode cX7_fills 9 = .ok (.iconst (-1), 1) := by decide +kernel
theorem dX7_fills_10 : decode cX7_fills 10 = .ok (.ireturn, 1) := by decide +kernel
theorem dX7_fills_11 : decode cX7_fills 11 = .ok (.iload_n 3, 1) := by decide +kernel
theorem dX7_fills_12 : decode cX7_fills 12 = .ok (.iconst 1, 1) := by decide +kernel
theorem dX7_fills_13 : decode cX7_fills 13 = .ok (.sipush 200, 3) := by decide +kernel
theorem dX7_fills_16 : decode cX7_fills 16 = .ok (.invokestatic 78, 3) := by decide +kernel
theorem dX7_fills_19 : decode cX7_fills 19 = .ok (.ifCond .ne 6, 3) := by decide +kernel
theorem dX7_fills_22 : decode cX7_fills 22 = .ok (.bipush (-2), 2) := by decide +kernel
theorem dX7_fills_24 : decode cX7_fills 24 = .ok (.ireturn, 1) := by decide +kernel
theorem dX7_fills_25 : decode cX7_fills 25 = .ok (.bipush 46, 2) := by decide +kernel
theorem dX7_fills_27 : decode cX7_fills 27 = .ok (.iload_n 1, 1) := by decide +kernel
theorem dX7_fills_28 : decode cX7_fills 28 = .ok (.imul, 1) := by decide +kernel
theorem dX7_fills_29 : decode cX7_fills 29 = .ok (.iconst 2, 1) := by decide +kernel
theorem dX7_fills_30 : decode cX7_fills 30 = .ok (.iadd, 1) := by decide +kernel
theorem dX7_fills_31 : decode cX7_fills 31 = .ok (.iload_n 2, 1) := by decide +kernel
theorem dX7_fills_32 : decode cX7_fills 32 = .ok (.iadd, 1) := by decide +kernel
theorem dX7_fills_33 : decode cX7_fills 33 = .ok (.istore 4, 2) := by decide +kernel
theorem dX7_fills_35 : decode cX7_fills 35 = .ok (.aload_n 0, 1) := by decide +kernel
theorem dX7_fills_36 : decode cX7_fills 36 = .ok (.getfield 7, 3) := by decide +kernel
theorem dX7_fills_39 : decode cX7_fills 39 = .ok (.iload 4, 2) := by decide +kernel
theorem dX7_fills_41 : decode cX7_fills 41 = .ok (.iaload, 1) := by decide +kernel
theorem dX7_fills_42 : decode cX7_fills 42 = .ok (.sipush 200, 3) := by decide +kernel
theorem dX7_fills_45 : decode cX7_fills 45 = .ok (.iload_n 3, 1) := by decide +kernel
theorem dX7_fills_46 : decode cX7_fills 46 = .ok (.isub, 1) := by decide +kernel
theorem dX7_fills_47 : decode cX7_fills 47 = .ok (.if_icmp .le 6, 3) := by decide +kernel
theorem dX7_fills_50 : decode cX7_fills 50 = .ok (.bipush (-3), 2) := by decide +kernel
theorem dX7_fills_52 : decode cX7_fills 52 = .ok (.ireturn, 1) := by decide +kernel
theorem dX7_fills_53 : decode cX7_fills 53 = .ok (.aload_n 0, 1) := by decide +kernel
theorem dX7_fills_54 : decode cX7_fills 54 = .ok (.getfield 7, 3) := by decide +kernel
theorem dX7_fills_57 : decode cX7_fills 57 = .ok (.iload 4, 2) := by decide +kernel
theorem dX7_fills_59 : decode cX7_fills 59 = .ok (.dup2, 1) := by decide +kernel
theorem dX7_fills_60 : decode cX7_fills 60 = .ok (.iaload, 1) := by decide +kernel
theorem dX7_fills_61 : decode cX7_fills 61 = .ok (.iload_n 3, 1) := by decide +kernel
theorem dX7_fills_62 : decode cX7_fills 62 = .ok (.iadd, 1) := by decide +kernel
theorem dX7_fills_63 : decode cX7_fills 63 = .ok (.iastore, 1) := by decide +kernel
theorem dX7_fills_64 : decode cX7_fills 64 = .ok (.aload_n 0, 1) := by decide +kernel
theorem dX7_fills_65 : decode cX7_fills 65 = .ok (.getfield 7, 3) := by decide +kernel
theorem dX7_fills_68 : decode cX7_fills 68 = .ok (.iload 4, 2) := by decide +kernel
theorem dX7_fills_70 : decode cX7_fills 70 = .ok (.iaload, 1) := by decide +kernel
theorem dX7_fills_71 : decode cX7_fills 71 = .ok (.ireturn, 1) := by decide +kernel
set_option maxRecDepth 20000 in
theorem ggX7_starts_X7_in : GoodIn wsX7_starts wsX7_in := goodIn_r _ [4] (by decide +kernel) (by decide +kernel)
set_option maxRecDepth 20000 in
theorem gX7_starts_X7_in : GoodIn wsX7_starts (va_wsS RX7 78 yX7_in wsX7_in) := goodIn_app (goodIn_of _ (by decide +kernel)) ggX7_starts_X7_in
set_option maxRecDepth 20000 in
theorem ggX7_starts_X7_why : GoodIn wsX7_starts wsX7_why := goodIn_r _ [8, 9, 10, 11, 12, 3, 13, 14, 15, 16, 17, 18, 19, 20, 21, 22, 23, 24, 25, 26, 27, 28, 29, 30, 31, 32, 33, 34, 35, 36, 37, 38, 39, 40, 41, 42, 43, 44, 45, 46, 47, 48, 49, 50, 51, 52, 53, 54, 55, 56, 57, 58, 59, 60, 61, 62, 63, 64, 65, 66] (by decide +kernel) (by decide +kernel)
set_option maxRecDepth 20000 in
theorem gX7_starts_X7_why : GoodIn wsX7_starts (wsV RX7 70 RX7 yX7_why wsX7_why) := goodIn_app (goodIn_of _ (by decide +kernel)) ggX7_starts_X7_why
set_option maxRecDepth 20000 in
theorem ggX7_starts_X7_puts : GoodIn wsX7_starts wsX7_puts := goodIn_r _ [21, 9, 22, 23, 3, 24, 56, 57, 58, 59, 60, 61, 62, 63, 64, 65, 66] (by decide +kernel) (by decide +kernel)
set_option maxRecDepth 20000 in
theorem gX7_starts_X7_puts : GoodIn wsX7_starts (wsV RX7 60 RX7 yX7_puts wsX7_puts) := goodIn_app (goodIn_of _ (by decide +kernel)) ggX7_starts_X7_puts
set_option maxRecDepth 20000 in
theorem ggX7_starts_X7_ticksOf : GoodIn wsX7_starts wsX7_ticksOf := goodIn_r _ [24] (by decide +kernel) (by decide +kernel)
set_option maxRecDepth 20000 in
theorem gX7_starts_X7_ticksOf : GoodIn wsX7_starts (va_wsS RX7 51 yX7_ticksOf wsX7_ticksOf) := goodIn_app (goodIn_of _ (by decide +kernel)) ggX7_starts_X7_ticksOf
theorem dX7_starts_0 : decode cX7_starts 0 = .ok (.iload_n 2, 1) := by decide +kernel
theorem dX7_starts_1 : decode cX7_starts 1 = .ok (.iconst 0, 1) := by decide +kernel
theorem dX7_starts_2 : decode cX7_starts 2 = .ok (.iconst 3, 1) := by decide +kernel
theorem dX7_starts_3 : decode cX7_starts 3 = .ok (.invokestatic 78, 3) := by decide +kernel
theorem dX7_starts_6 : decode cX7_starts 6 = .ok (.ifCond .eq 12, 3) := by decide +kernel
theorem dX7_starts_9 : decode cX7_starts 9 = .ok (.iload_n 3, 1) := by decide +kernel
theorem dX7_starts_10 : decode cX7_starts 10 = .ok (.iconst 0, 1) := by decide +kernel
theorem dX7_starts_11 : decode cX7_starts 11 = .ok (.iconst 2, 1) := by decide +kernel
theorem dX7_starts_12 : decode cX7_starts 12 = .ok (.invokestatic 78, 3) := by decide +kernel
theorem dX7_starts_15 : decode cX7_starts 15 = .ok (.ifCond .ne 5, 3) := by decide +kernel
theorem dX7_starts_18 : decode cX7_starts 18 = .ok (.iconst (-1), 1) := by decide +kernel
theorem dX7_starts_19 : decode cX7_starts 19 = .ok (.ireturn, 1) := by decide +kernel
theorem dX7_starts_20 : decode cX7_starts 20 = .ok (.aload_n 0, 1) := by decide +kernel
theorem dX7_starts_21 : decode cX7_starts 21 = .ok (.iload_n 1, 1) := by decide +kernel
theorem dX7_starts_22 : decode cX7_starts 22 = .ok (.iload_n 2, 1) := by decide +kernel
theorem dX7_starts_23 : decode cX7_starts 23 = .ok (.iload_n 3, 1) := by decide +kernel
theorem dX7_starts_24 : decode cX7_starts 24 = .ok (.invokevirtual 70, 3) := by decide +kernel
theorem dX7_starts_27 : decode cX7_starts 27 = .ok (.istore 4, 2) := by decide +kernel
theorem dX7_starts_29 : decode cX7_starts 29 = .ok (.iload 4, 2) := by decide +kernel
theorem dX7_starts_31 : decode cX7_starts 31 = .ok (.ifCond .le 9, 3) := by decide +kernel
theorem dX7_starts_34 : decode cX7_starts 34 = .ok (.bipush (-10), 2) := by decide +kernel
theorem dX7_starts_36 : decode cX7_starts 36 = .ok (.iload 4, 2) := by decide +kernel
theorem dX7_starts_38 : decode cX7_starts 38 = .ok (.isub, 1) := by decide +kernel
theorem dX7_starts_39 : decode cX7_starts 39 = .ok (.ireturn, 1) := by decide +kernel
theorem dX7_starts_40 : decode cX7_starts 40 = .ok (.aload_n 0, 1) := by decide +kernel
theorem dX7_starts_41 : decode cX7_starts 41 = .ok (.bipush 46, 2) := by decide +kernel
theorem dX7_starts_43 : decode cX7_starts 43 = .ok (.iload_n 1, 1) := by decide +kernel
theorem dX7_starts_44 : decode cX7_starts 44 = .ok (.imul, 1) := by decide +kernel
theorem dX7_starts_45 : decode cX7_starts 45 = .ok (.iload_n 2, 1) := by decide +kernel
theorem dX7_starts_46 : decode cX7_starts 46 = .ok (.iload_n 3, 1) := by decide +kernel
theorem dX7_starts_47 : decode cX7_starts 47 = .ok (.invokevirtual 60, 3) := by decide +kernel
theorem dX7_starts_50 : decode cX7_starts 50 = .ok (.iload_n 3, 1) := by decide +kernel
theorem dX7_starts_51 : decode cX7_starts 51 = .ok (.invokestatic 51, 3) := by decide +kernel
theorem dX7_starts_54 : decode cX7_starts 54 = .ok (.ireturn, 1) := by decide +kernel
set_option maxRecDepth 20000 in
theorem ggX7_queues_X7_in : GoodIn wsX7_queues wsX7_in := goodIn_r _ [5] (by decide +kernel) (by decide +kernel)
set_option maxRecDepth 20000 in
theorem gX7_queues_X7_in : GoodIn wsX7_queues (va_wsS RX7 78 yX7_in wsX7_in) := goodIn_app (goodIn_of _ (by decide +kernel)) ggX7_queues_X7_in
theorem dX7_queues_0 : decode cX7_queues 0 = .ok (.iload_n 2, 1) := by decide +kernel
theorem dX7_queues_1 : decode cX7_queues 1 = .ok (.iconst 0, 1) := by decide +kernel
theorem dX7_queues_2 : decode cX7_queues 2 = .ok (.iconst 2, 1) := by decide +kernel
theorem dX7_queues_3 : decode cX7_queues 3 = .ok (.invokestatic 78, 3) := by decide +kernel
theorem dX7_queues_6 : decode cX7_queues 6 = .ok (.ifCond .ne 5, 3) := by decide +kernel
theorem dX7_queues_9 : decode cX7_queues 9 = .ok (.iconst (-1), 1) := by decide +kernel
theorem dX7_queues_10 : decode cX7_queues 10 = .ok (.ireturn, 1) := by decide +kernel
theorem dX7_queues_11 : decode cX7_queues 11 = .ok (.bipush 46, 2) := by decide +kernel
theorem dX7_queues_13 : decode cX7_queues 13 = .ok (.iload_n 1, 1) := by decide +kernel
theorem dX7_queues_14 : decode cX7_queues 14 = .ok (.imul, 1) := by decide +kernel
theorem dX7_queues_15 : decode cX7_queues 15 = .ok (.istore_n 3, 1) := by decide +kernel
theorem dX7_queues_16 : decode cX7_queues 16 = .ok (.aload_n 0, 1) := by decide +kernel
theorem dX7_queues_17 : decode cX7_queues 17 = .ok (.getfield 7, 3) := by decide +kernel
theorem dX7_queues_20 : decode cX7_queues 20 = .ok (.iload_n 3, 1) := by decide +kernel
theorem dX7_queues_21 : decode cX7_queues 21 = .ok (.bipush 25, 2) := by decide +kernel
theorem dX7_queues_23 : decode cX7_queues 23 = .ok (.iadd, 1) := by decide +kernel
theorem dX7_queues_24 : decode cX7_queues 24 = .ok (.iaload, 1) := by decide +kernel
theorem dX7_queues_25 : decode cX7_queues 25 = .ok (.bipush 12, 2) := by decide +kernel
theorem dX7_queues_27 : decode cX7_queues 27 = .ok (.if_icmp .ne 6, 3) := by decide +kernel
theorem dX7_queues_30 : decode cX7_queues 30 = .ok (.bipush (-3), 2) := by decide +kernel
theorem dX7_queues_32 : decode cX7_queues 32 = .ok (.ireturn, 1) := by decide +kernel
theorem dX7_queues_33 : decode cX7_queues 33 = .ok (.aload_n 0, 1) := by decide +kernel
theorem dX7_queues_34 : decode cX7_queues 34 = .ok (.getfield 7, 3) := by decide +kernel
theorem dX7_queues_37 : decode cX7_queues 37 = .ok (.iload_n 3, 1) := by decide +kernel
theorem dX7_queues_38 : decode cX7_queues 38 = .ok (.bipush 26, 2) := by decide +kernel
theorem dX7_queues_40 : decode cX7_queues 40 = .ok (.iadd, 1) := by decide +kernel
theorem dX7_queues_41 : decode cX7_queues 41 = .ok (.aload_n 0, 1) := by decide +kernel
theorem dX7_queues_42 : decode cX7_queues 42 = .ok (.getfield 7, 3) := by decide +kernel
theorem dX7_queues_45 : decode cX7_queues 45 = .ok (.iload_n 3, 1) := by decide +kernel
theorem dX7_queues_46 : decode cX7_queues 46 = .ok (.bipush 25, 2) := by decide +kernel
theorem dX7_queues_48 : decode cX7_queues 48 = .ok (.iadd, 1) := by decide +kernel
theorem dX7_queues_49 : decode cX7_queues 49 = .ok (.iaload, 1) := by decide +kernel
theorem dX7_queues_50 : decode cX7_queues 50 = .ok (.iadd, 1) := by decide +kernel
theorem dX7_queues_51 : decode cX7_queues 51 = .ok (.iload_n 2, 1) := by decide +kernel
theorem dX7_queues_52 : decode cX7_queues 52 = .ok (.iastore, 1) := by decide +kernel
theorem dX7_queues_53 : decode cX7_queues 53 = .ok (.aload_n 0, 1) := by decide +kernel
theorem dX7_queues_54 : decode cX7_queues 54 = .ok (.getfield 7, 3) := by decide +kernel
theorem dX7_queues_57 : decode cX7_queues 57 = .ok (.iload_n 3, 1) := by decide +kernel
theorem dX7_queues_58 : decode cX7_queues 58 = .ok (.bipush 25, 2) := by decide +kernel
theorem dX7_queues_60 : decode cX7_queues 60 = .ok (.iadd, 1) := by decide +kernel
theorem dX7_queues_61 : decode cX7_queues 61 = .ok (.dup2, 1) := by decide +kernel
theorem dX7_queues_62 : decode cX7_queues 62 = .ok (.iaload, 1) := by decide +kernel
theorem dX7_queues_63 : decode cX7_queues 63 = .ok (.iconst 1, 1) := by decide +kernel
theorem dX7_queues_64 : decode cX7_queues 64 = .ok (.iadd, 1) := by decide +kernel
theorem dX7_queues_65 : decode cX7_queues 65 = .ok (.iastore, 1) := by decide +kernel
theorem dX7_queues_66 : decode cX7_queues 66 = .ok (.aload_n 0, 1) := by decide +kernel
theorem dX7_queues_67 : decode cX7_queues 67 = .ok (.getfield 7, 3) := by decide +kernel
theorem dX7_queues_70 : decode cX7_queues 70 = .ok (.iload_n 3, 1) := by decide +kernel
theorem dX7_queues_71 : decode cX7_queues 71 = .ok (.bipush 25, 2) := by decide +kernel
theorem dX7_queues_73 : decode cX7_queues 73 = .ok (.iadd, 1) := by decide +kernel
theorem dX7_queues_74 : decode cX7_queues 74 = .ok (.iaload, 1) := by decide +kernel
theorem dX7_queues_75 : decode cX7_queues 75 = .ok (.iconst 1, 1) := by decide +kernel
theorem dX7_queues_76 : decode cX7_queues 76 = .ok (.isub, 1) := by decide +kernel
theorem dX7_queues_77 : decode cX7_queues 77 = .ok (.ireturn, 1) := by decide +kernel
set_option maxRecDepth 20000 in
theorem ggX7_runs_X7_in : GoodIn wsX7_runs wsX7_in := goodIn_r _ [6] (by decide +kernel) (by decide +kernel)
set_option maxRecDepth 20000 in
theorem gX7_runs_X7_in : GoodIn wsX7_runs (va_wsS RX7 78 yX7_in wsX7_in) := goodIn_app (goodIn_of _ (by decide +kernel)) ggX7_runs_X7_in
set_option maxRecDepth 20000 in
theorem ggX7_runs_X7_ticks : GoodIn wsX7_runs wsX7_ticks := goodIn_r _ [10, 1, 11, 12, 13, 5, 14, 15, 16, 17, 18, 19, 20, 21, 22, 23, 24, 25, 26, 27, 28, 29, 30, 31, 32, 33, 34, 35, 36, 37, 38, 39, 40, 41, 42, 43, 44, 45, 46, 47, 48, 49, 50, 51, 52, 53, 54, 55, 56, 57, 58, 59, 60, 61, 62, 63, 64, 65, 66, 67, 68, 69, 70, 71, 72, 73, 74, 75, 76, 77, 78, 79] (by decide +kernel) (by decide +kernel)
set_option maxRecDepth 20000 in
theorem gX7_runs_X7_ticks : GoodIn wsX7_runs (wsV RX7 83 RX7 yX7_ticks wsX7_ticks) := goodIn_app (goodIn_of _ (by decide +kernel)) ggX7_runs_X7_ticks
theorem dX7_runs_0 : decode cX7_runs 0 = .ok (.iload_n 2, 1) := by decide +kernel
theorem dX7_runs_1 : decode cX7_runs 1 = .ok (.iconst 1, 1) := by decide +kernel
theorem dX7_runs_2 : decode cX7_runs 2 = .ok (.sipush 200, 3) := by decide +kernel
theorem dX7_runs_5 : decode cX7_runs 5 = .ok (.invokestatic 78, 3) := by decide +kernel
theorem dX7_runs_8 : decode cX7_runs 8 = .ok (.ifCond .ne 6, 3) := by decide +kernel
theorem dX7_runs_11 : decode cX7_runs 11 = .ok (.bipush (-2), 2) := by decide +kernel
theorem dX7_runs_13 : decode cX7_runs 13 = .ok (.ireturn, 1) := by decide +kernel
theorem dX7_runs_14 : decode cX7_runs 14 = .ok (.bipush 46, 2) := by decide +kernel
theorem dX7_runs_16 : decode cX7_runs 16 = .ok (.iload_n 1, 1) := by decide +kernel
theorem dX7_runs_17 : decode cX7_runs 17 = .ok (.imul, 1) := by decide +kernel
theorem dX7_runs_18 : decode cX7_runs 18 = .ok (.istore_n 3, 1) := by decide +kernel
theorem dX7_runs_19 : decode cX7_runs 19 = .ok (.aload_n 0, 1) := by decide +kernel
theorem dX7_runs_20 : decode cX7_runs 20 = .ok (.getfield 7, 3) := by decide +kernel
theorem dX7_runs_23 : decode cX7_runs 23 = .ok (.iload_n 3, 1) := by decide +kernel
theorem dX7_runs_24 : decode cX7_runs 24 = .ok (.bipush 12, 2) := by decide +kernel
theorem dX7_runs_26 : decode cX7_runs 26 = .ok (.iadd, 1) := by decide +kernel
theorem dX7_runs_27 : decode cX7_runs 27 = .ok (.iaload, 1) := by decide +kernel
theorem dX7_runs_28 : decode cX7_runs 28 = .ok (.ldc 82, 2) := by decide +kernel
theorem dX7_runs_30 : decode cX7_runs 30 = .ok (.iload_n 2, 1) := by decide +kernel
theorem dX7_runs_31 : decode cX7_runs 31 = .ok (.isub, 1) := by decide +kernel
theorem dX7_runs_32 : decode cX7_runs 32 = .ok (.if_icmp .le 6, 3) := by decide +kernel
theorem dX7_runs_35 : decode cX7_runs 35 = .ok (.bipush (-3), 2) := by decide +kernel
theorem dX7_runs_37 : decode cX7_runs 37 = .ok (.ireturn, 1) := by decide +kernel
theorem dX7_runs_38 : decode cX7_runs 38 = .ok (.aload_n 0, 1) := by decide +kernel
theorem dX7_runs_39 : decode cX7_runs 39 = .ok (.getfield 7, 3) := by decide +kernel
theorem dX7_runs_42 : decode cX7_runs 42 = .ok (.iload_n 3, 1) := by decide +kernel
theorem dX7_runs_43 : decode cX7_runs 43 = .ok (.bipush 41, 2) := by decide +kernel
theorem dX7_runs_45 : decode cX7_runs 45 = .ok (.iadd, 1) := by decide +kernel
theorem dX7_runs_46 : decode cX7_runs 46 = .ok (.iaload, 1) := by decide +kernel
theorem dX7_runs_47 : decode cX7_runs 47 = .ok (.istore 4, 2) := by decide +kernel
theorem dX7_runs_49 : decode cX7_runs 49 = .ok (.aload_n 0, 1) := by decide +kernel
theorem dX7_runs_50 : decode cX7_runs 50 = .ok (.iload_n 1, 1) := by decide +kernel
theorem dX7_runs_51 : decode cX7_runs 51 = .ok (.iload_n 2, 1) := by decide +kernel
theorem dX7_runs_52 : decode cX7_runs 52 = .ok (.invokevirtual 83, 3) := by decide +kernel
theorem dX7_runs_55 : decode cX7_runs 55 = .ok (.aload_n 0, 1) := by decide +kernel
theorem dX7_runs_56 : decode cX7_runs 56 = .ok (.getfield 7, 3) := by decide +kernel
theorem dX7_runs_59 : decode cX7_runs 59 = .ok (.iload_n 3, 1) := by decide +kernel
theorem dX7_runs_60 : decode cX7_runs 60 = .ok (.bipush 41, 2) := by decide +kernel
theorem dX7_runs_62 : decode cX7_runs 62 = .ok (.iadd, 1) := by decide +kernel
theorem dX7_runs_63 : decode cX7_runs 63 = .ok (.iaload, 1) := by decide +kernel
theorem dX7_runs_64 : decode cX7_runs 64 = .ok (.iload 4, 2) := by decide +kernel
theorem dX7_runs_66 : decode cX7_runs 66 = .ok (.isub, 1) := by decide +kernel
theorem dX7_runs_67 : decode cX7_runs 67 = .ok (.ireturn, 1) := by decide +kernel
set_option maxRecDepth 20000 in
theorem ggX7_settles_X7_records : GoodIn wsX7_settles wsX7_records := goodIn_r _ [5, 6, 7, 8, 9, 4, 10, 11, 12, 13, 14, 15, 16, 17, 18, 19, 20, 21, 22] (by decide +kernel) (by decide +kernel)
set_option maxRecDepth 20000 in
theorem gX7_settles_X7_records : GoodIn wsX7_settles (wsV RX7 86 RX7 yX7_records wsX7_records) := goodIn_app (goodIn_of _ (by decide +kernel)) ggX7_settles_X7_records
set_option maxRecDepth 20000 in
theorem ggX7_settles_X7_copies : GoodIn wsX7_settles wsX7_copies := goodIn_r _ [10, 11, 12, 13, 14, 15, 16, 17, 18, 19, 20, 21, 22] (by decide +kernel) (by decide +kernel)
set_option maxRecDepth 20000 in
theorem gX7_settles_X7_copies : GoodIn wsX7_settles (wsV RX7 27 RX7 yX7_copies wsX7_copies) := goodIn_app (goodIn_of _ (by decide +kernel)) ggX7_settles_X7_copies
theorem dX7_settles_0 : decode cX7_settles 0 = .ok (.iload_n 1, 1) := by decide +kernel
theorem dX7_settles_1 : decode cX7_settles 1 = .ok (.ifCond .lt 14, 3) := by decide +kernel
theorem dX7_settles_4 : decode cX7_settles 4 = .ok (.aload_n 0, 1) := by decide +kernel
theorem dX7_settles_5 : decode cX7_settles 5 = .ok (.invokevirtual 86, 3) := by decide +kernel
theorem dX7_settles_8 : decode cX7_settles 8 = .ok (.aload_n 0, 1) := by decide +kernel
theorem dX7_settles_9 : decode cX7_settles 9 = .ok (.bipush 6, 2) := by decide +kernel
theorem dX7_settles_11 : decode cX7_settles 11 = .ok (.iconst 0, 1) := by decide +kernel
theorem dX7_settles_12 : decode cX7_settles 12 = .ok (.invokevirtual 27, 3) := by decide +kernel
theorem dX7_settles_15 : decode cX7_settles 15 = .ok (.iload_n 1, 1) := by decide +kernel
theorem dX7_settles_16 : decode cX7_settles 16 = .ok (.ireturn, 1) := by decide +kernel
set_option maxRecDepth 20000 in
theorem ggX7_setFire_X7_copies : GoodIn wsX7_setFire wsX7_copies := goodIn_r _ [5, 6, 23, 24, 25, 26, 27, 28, 29, 30, 31, 32, 33] (by decide +kernel) (by decide +kernel)
set_option maxRecDepth 20000 in
theorem gX7_setFire_X7_copies : GoodIn wsX7_setFire (wsV RX7 27 RX7 yX7_copies wsX7_copies) := goodIn_app (goodIn_of _ (by decide +kernel)) ggX7_setFire_X7_copies
set_option maxRecDepth 20000 in
theorem ggX7_setFire_X7_sets : GoodIn wsX7_setFire wsX7_sets := goodIn_r _ [10, 6, 11, 12, 4, 13, 23, 24, 25, 26, 27, 28, 29, 30, 31, 32, 33] (by decide +kernel) (by decide +kernel)
set_option maxRecDepth 20000 in
theorem gX7_setFire_X7_sets : GoodIn wsX7_setFire (wsV RX7 89 RX7 yX7_sets wsX7_sets) := goodIn_app (goodIn_of _ (by decide +kernel)) ggX7_setFire_X7_sets
set_option maxRecDepth 20000 in
theorem ggX7_setFire_X7_settles : GoodIn wsX7_setFire wsX7_settles := goodIn_r _ [17, 18, 19, 20, 4, 21, 22, 1, 2, 3, 5, 6, 23, 24, 25, 26, 27, 28, 29, 30, 31, 32, 33] (by decide +kernel) (by decide +kernel)
set_option maxRecDepth 20000 in
theorem gX7_setFire_X7_settles : GoodIn wsX7_setFire (wsV RX7 92 RX7 yX7_settles wsX7_settles) := goodIn_app (goodIn_of _ (by decide +kernel)) ggX7_setFire_X7_settles
theorem dX7_setFire_0 : decode cX7_setFire 0 = .ok (.aload_n 0, 1) := by decide +kernel
theorem dX7_setFire_1 : decode cX7_setFire 1 = .ok (.iconst 0, 1) := by decide +kernel
theorem dX7_setFire_2 : decode cX7_setFire 2 = .ok (.bipush 6, 2) := by decide +kernel
theorem dX7_setFire_4 : decode cX7_setFire 4 = .ok (.invokevirtual 27, 3) := by decide +kernel
theorem dX7_setFire_7 : decode cX7_setFire 7 = .ok (.aload_n 0, 1) := by decide +kernel
theorem dX7_setFire_8 : decode cX7_setFire 8 = .ok (.aload_n 0, 1) := by decide +kernel
theorem dX7_setFire_9 : decode cX7_setFire 9 = .ok (.bipush 6, 2) := by decide +kernel
theorem dX7_setFire_11 : decode cX7_setFire 11 = .ok (.iload_n 1, 1) := by decide +kernel
theorem dX7_setFire_12 : decode cX7_setFire 12 = .ok (.iload_n 2, 1) := by decide +kernel
theorem dX7_setFire_13 : decode cX7_setFire 13 = .ok (.invokevirtual 89, 3) := by decide +kernel
theorem dX7_setFire_16 : decode cX7_setFire 16 = .ok (.invokevirtual 92, 3) := by decide +kernel
theorem dX7_setFire_19 : decode cX7_setFire 19 = .ok (.ireturn, 1) := by decide +kernel
set_option maxRecDepth 20000 in
theorem ggX7_fill_X7_copies : GoodIn wsX7_fill wsX7_copies := goodIn_r _ [5, 6, 23, 24, 25, 26, 27, 28, 29, 30, 31, 32, 33] (by decide +kernel) (by decide +kernel)
set_option maxRecDepth 20000 in
theorem gX7_fill_X7_copies : GoodIn wsX7_fill (wsV RX7 27 RX7 yX7_copies wsX7_copies) := goodIn_app (goodIn_of _ (by decide +kernel)) ggX7_fill_X7_copies
set_option maxRecDepth 20000 in
theorem ggX7_fill_X7_fills : GoodIn wsX7_fill wsX7_fills := goodIn_r _ [10, 6, 11, 12, 4, 13, 23, 24, 25, 26, 27, 28, 29, 30, 31, 32, 33] (by decide +kernel) (by decide +kernel)
set_option maxRecDepth 20000 in
theorem gX7_fill_X7_fills : GoodIn wsX7_fill (wsV RX7 95 RX7 yX7_fills wsX7_fills) := goodIn_app (goodIn_of _ (by decide +kernel)) ggX7_fill_X7_fills
set_option maxRecDepth 20000 in
theorem ggX7_fill_X7_settles : GoodIn wsX7_fill wsX7_settles := goodIn_r _ [17, 18, 19, 20, 4, 21, 22, 1, 2, 3, 5, 6, 23, 24, 25, 26, 27, 28, 29, 30, 31, 32, 33] (by decide +kernel) (by decide +kernel)
set_option maxRecDepth 20000 in
theorem gX7_fill_X7_settles : GoodIn wsX7_fill (wsV RX7 92 RX7 yX7_settles wsX7_settles) := goodIn_app (goodIn_of _ (by decide +kernel)) ggX7_fill_X7_settles
theorem dX7_fill_0 : decode cX7_fill 0 = .ok (.aload_n 0, 1) := by decide +kernel
theorem dX7_fill_1 : decode cX7_fill 1 = .ok (.iconst 0, 1) := by decide +kernel
theorem dX7_fill_2 : decode cX7_fill 2 = .ok (.bipush 6, 2) := by decide +kernel
theorem dX7_fill_4 : decode cX7_fill 4 = .ok (.invokevirtual 27, 3) := by decide +kernel
theorem dX7_fill_7 : decode cX7_fill 7 = .ok (.aload_n 0, 1) := by decide +kernel
theorem dX7_fill_8 : decode cX7_fill 8 = .ok (.aload_n 0, 1) := by decide +kernel
theorem dX7_fill_9 : decode cX7_fill 9 = .ok (.bipush 6, 2) := by decide +kernel
theorem dX7_fill_11 : decode cX7_fill 11 = .ok (.iload_n 1, 1) := by decide +kernel
theorem dX7_fill_12 : decode cX7_fill 12 = .ok (.iload_n 2, 1) := by decide +kernel
theorem dX7_fill_13 : decode cX7_fill 13 = .ok (.invokevirtual 95, 3) := by decide +kernel
theorem dX7_fill_16 : decode cX7_fill 16 = .ok (.invokevirtual 92, 3) := by decide +kernel
theorem dX7_fill_19 : decode cX7_fill 19 = .ok (.ireturn, 1) := by decide +kernel
set_option maxRecDepth 20000 in
theorem ggX7_setRation_X7_in : GoodIn wsX7_setRation wsX7_in := goodIn_r _ [5] (by decide +kernel) (by decide +kernel)
set_option maxRecDepth 20000 in
theorem gX7_setRation_X7_in : GoodIn wsX7_setRation (va_wsS RX7 78 yX7_in wsX7_in) := goodIn_app (goodIn_of _ (by decide +kernel)) ggX7_setRation_X7_in
set_option maxRecDepth 20000 in
theorem ggX7_setRation_X7_records : GoodIn wsX7_setRation wsX7_records := goodIn_r _ [9, 10, 11, 12, 13, 4, 14, 1, 15, 16, 17, 18, 19, 20, 21, 22, 23, 24, 25] (by decide +kernel) (by decide +kernel)
set_option maxRecDepth 20000 in
theorem gX7_setRation_X7_records : GoodIn wsX7_setRation (wsV RX7 86 RX7 yX7_records wsX7_records) := goodIn_app (goodIn_of _ (by decide +kernel)) ggX7_setRation_X7_records
theorem dX7_setRation_0 : decode cX7_setRation 0 = .ok (.iload_n 1, 1) := by decide +kernel
theorem dX7_setRation_1 : decode cX7_setRation 1 = .ok (.iconst 0, 1) := by decide +kernel
theorem dX7_setRation_2 : decode cX7_setRation 2 = .ok (.sipush 200, 3) := by decide +kernel
theorem dX7_setRation_5 : decode cX7_setRation 5 = .ok (.invokestatic 78, 3) := by decide +kernel
theorem dX7_setRation_8 : decode cX7_setRation 8 = .ok (.ifCond .ne 6, 3) := by decide +kernel
theorem dX7_setRation_11 : decode cX7_setRation 11 = .ok (.bipush (-2), 2) := by decide +kernel
theorem dX7_setRation_13 : decode cX7_setRation 13 = .ok (.ireturn, 1) := by decide +kernel
theorem dX7_setRation_14 : decode cX7_setRation 14 = .ok (.aload_n 0, 1) := by decide +kernel
theorem dX7_setRation_15 : decode cX7_setRation 15 = .ok (.getfield 7, 3) := by decide +kernel
theorem dX7_setRation_18 : decode cX7_setRation 18 = .ok (.bipush 11, 2) := by decide +kernel
theorem dX7_setRation_20 : decode cX7_setRation 20 = .ok (.iaload, 1) := by decide +kernel
theorem dX7_setRation_21 : decode cX7_setRation 21 = .ok (.iload_n 1, 1) := by decide +kernel
theorem dX7_setRation_22 : decode cX7_setRation 22 = .ok (.if_icmp .ne 6, 3) := by decide +kernel
theorem dX7_setRation_25 : decode cX7_setRation 25 = .ok (.bipush (-5), 2) := by decide +kernel
theorem dX7_setRation_27 : decode cX7_setRation 27 = .ok (.ireturn, 1) := by decide +kernel
theorem dX7_setRation_28 : decode cX7_setRation 28 = .ok (.aload_n 0, 1) := by decide +kernel
theorem dX7_setRation_29 : decode cX7_setRation 29 = .ok (.invokevirtual 86, 3) := by decide +kernel
theorem dX7_setRation_32 : decode cX7_setRation 32 = .ok (.aload_n 0, 1) := by decide +kernel
theorem dX7_setRation_33 : decode cX7_setRation 33 = .ok (.getfield 7, 3) := by decide +kernel
theorem dX7_setRation_36 : decode cX7_setRation 36 = .ok (.bipush 11, 2) := by decide +kernel
theorem dX7_setRation_38 : decode cX7_setRation 38 = .ok (.iaload, 1) := by decide +kernel
theorem dX7_setRation_39 : decode cX7_setRation 39 = .ok (.istore_n 2, 1) := by decide +kernel
theorem dX7_setRation_40 : decode cX7_setRation 40 = .ok (.aload_n 0, 1) := by decide +kernel
theorem dX7_setRation_41 : decode cX7_setRation 41 = .ok (.getfield 7, 3) := by decide +kernel
theorem dX7_setRation_44 : decode cX7_setRation 44 = .ok (.bipush 11, 2) := by decide +kernel
theorem dX7_setRation_46 : decode cX7_setRation 46 = .ok (.iload_n 1, 1) := by decide +kernel
theorem dX7_setRation_47 : decode cX7_setRation 47 = .ok (.iastore, 1) := by decide +kernel
theorem dX7_setRation_48 : decode cX7_setRation 48 = .ok (.iload_n 2, 1) := by decide +kernel
theorem dX7_setRation_49 : decode cX7_setRation 49 = .ok (.ireturn, 1) := by decide +kernel
set_option maxRecDepth 20000 in
theorem ggX7_start_X7_copies : GoodIn wsX7_start wsX7_copies := goodIn_r _ [5, 6, 69, 70, 71, 72, 73, 74, 75, 76, 77, 78, 79] (by decide +kernel) (by decide +kernel)
set_option maxRecDepth 20000 in
theorem gX7_start_X7_copies : GoodIn wsX7_start (wsV RX7 27 RX7 yX7_copies wsX7_copies) := goodIn_app (goodIn_of _ (by decide +kernel)) ggX7_start_X7_copies
set_option maxRecDepth 20000 in
theorem ggX7_start_X7_starts : GoodIn wsX7_start wsX7_starts := goodIn_r _ [10, 11, 12, 4, 13, 14, 15, 16, 17, 6, 18, 19, 20, 21, 1, 2, 3, 5, 22, 23, 24, 25, 26, 27, 28, 29, 30, 31, 32, 33, 34, 35, 36, 37, 38, 39, 40, 41, 42, 43, 44, 45, 46, 47, 48, 49, 50, 51, 52, 53, 54, 55, 56, 57, 58, 59, 69, 70, 71, 72, 73, 74, 75, 76, 77, 78, 79] (by decide +kernel) (by decide +kernel)
set_option maxRecDepth 20000 in
theorem gX7_start_X7_starts : GoodIn wsX7_start (wsV RX7 98 RX7 yX7_starts wsX7_starts) := goodIn_app (goodIn_of _ (by decide +kernel)) ggX7_start_X7_starts
set_option maxRecDepth 20000 in
theorem ggX7_start_X7_settles : GoodIn wsX7_start wsX7_settles := goodIn_r _ [63, 64, 65, 66, 4, 67, 68, 1, 2, 3, 5, 6, 69, 70, 71, 72, 73, 74, 75, 76, 77, 78, 79] (by decide +kernel) (by decide +kernel)
set_option maxRecDepth 20000 in
theorem gX7_start_X7_settles : GoodIn wsX7_start (wsV RX7 92 RX7 yX7_settles wsX7_settles) := goodIn_app (goodIn_of _ (by decide +kernel)) ggX7_start_X7_settles
theorem dX7_start_0 : decode cX7_start 0 = .ok (.aload_n 0, 1) := by decide +kernel
theorem dX7_start_1 : decode cX7_start 1 = .ok (.iconst 0, 1) := by decide +kernel
theorem dX7_start_2 : decode cX7_start 2 = .ok (.bipush 6, 2) := by decide +kernel
theorem dX7_start_4 : decode cX7_start 4 = .ok (.invokevirtual 27, 3) := by decide +kernel
theorem dX7_start_7 : decode cX7_start 7 = .ok (.aload_n 0, 1) := by decide +kernel
theorem dX7_start_8 : decode cX7_start 8 = .ok (.aload_n 0, 1) := by decide +kernel
theorem dX7_start_9 : decode cX7_start 9 = .ok (.bipush 6, 2) := by decide +kernel
theorem dX7_start_11 : decode cX7_start 11 = .ok (.iload_n 1, 1) := by decide +kernel
theorem dX7_start_12 : decode cX7_start 12 = .ok (.iload_n 2, 1) := by decide +kernel
theorem dX7_start_13 : decode cX7_start 13 = .ok (.invokevirtual 98, 3) := by decide +kernel
theorem dX7_start_16 : decode cX7_start 16 = .ok (.invokevirtual 92, 3) := by decide +kernel
theorem dX7_start_19 : decode cX7_start 19 = .ok (.ireturn, 1) := by decide +kernel
set_option maxRecDepth 20000 in
theorem ggX7_queue_X7_copies : GoodIn wsX7_queue wsX7_copies := goodIn_r _ [5, 6, 23, 24, 25, 26, 27, 28, 29, 30, 31, 32, 33] (by decide +kernel) (by decide +kernel)
set_option maxRecDepth 20000 in
theorem gX7_queue_X7_copies : GoodIn wsX7_queue (wsV RX7 27 RX7 yX7_copies wsX7_copies) := goodIn_app (goodIn_of _ (by decide +kernel)) ggX7_queue_X7_copies
set_option maxRecDepth 20000 in
theorem ggX7_queue_X7_queues : GoodIn wsX7_queue wsX7_queues := goodIn_r _ [10, 6, 11, 12, 4, 13, 23, 24, 25, 26, 27, 28, 29, 30, 31, 32, 33] (by decide +kernel) (by decide +kernel)
set_option maxRecDepth 20000 in
theorem gX7_queue_X7_queues : GoodIn wsX7_queue (wsV RX7 101 RX7 yX7_queues wsX7_queues) := goodIn_app (goodIn_of _ (by decide +kernel)) ggX7_queue_X7_queues
set_option maxRecDepth 20000 in
theorem ggX7_queue_X7_settles : GoodIn wsX7_queue wsX7_settles := goodIn_r _ [17, 18, 19, 20, 4, 21, 22, 1, 2, 3, 5, 6, 23, 24, 25, 26, 27, 28, 29, 30, 31, 32, 33] (by decide +kernel) (by decide +kernel)
set_option maxRecDepth 20000 in
theorem gX7_queue_X7_settles : GoodIn wsX7_queue (wsV RX7 92 RX7 yX7_settles wsX7_settles) := goodIn_app (goodIn_of _ (by decide +kernel)) ggX7_queue_X7_settles
theorem dX7_queue_0 : decode cX7_queue 0 = .ok (.aload_n 0, 1) := by decide +kernel
theorem dX7_queue_1 : decode cX7_queue 1 = .ok (.iconst 0, 1) := by decide +kernel
theorem dX7_queue_2 : decode cX7_queue 2 = .ok (.bipush 6, 2) := by decide +kernel
theorem dX7_queue_4 : decode cX7_queue 4 = .ok (.invokevirtual 27, 3) := by decide +kernel
theorem dX7_queue_7 : decode cX7_queue 7 = .ok (.aload_n 0, 1) := by decide +kernel
theorem dX7_queue_8 : decode cX7_queue 8 = .ok (.aload_n 0, 1) := by decide +kernel
theorem dX7_queue_9 : decode cX7_queue 9 = .ok (.bipush 6, 2) := by decide +kernel
theorem dX7_queue_11 : decode cX7_queue 11 = .ok (.iload_n 1, 1) := by decide +kernel
theorem dX7_queue_12 : decode cX7_queue 12 = .ok (.invokevirtual 101, 3) := by decide +kernel
theorem dX7_queue_15 : decode cX7_queue 15 = .ok (.invokevirtual 92, 3) := by decide +kernel
theorem dX7_queue_18 : decode cX7_queue 18 = .ok (.ireturn, 1) := by decide +kernel
set_option maxRecDepth 20000 in
theorem ggX7_unqueue_X7_in : GoodIn wsX7_unqueue wsX7_in := goodIn_r _ [5] (by decide +kernel) (by decide +kernel)
set_option maxRecDepth 20000 in
theorem gX7_unqueue_X7_in : GoodIn wsX7_unqueue (va_wsS RX7 78 yX7_in wsX7_in) := goodIn_app (goodIn_of _ (by decide +kernel)) ggX7_unqueue_X7_in
set_option maxRecDepth 20000 in
theorem ggX7_unqueue_X7_records : GoodIn wsX7_unqueue wsX7_records := goodIn_r _ [9, 10, 11, 12, 13, 4, 14, 1, 19, 20, 21, 22, 23, 24, 25, 26, 27, 28, 29] (by decide +kernel) (by decide +kernel)
set_option maxRecDepth 20000 in
theorem gX7_unqueue_X7_records : GoodIn wsX7_unqueue (wsV RX7 86 RX7 yX7_records wsX7_records) := goodIn_app (goodIn_of _ (by decide +kernel)) ggX7_unqueue_X7_records
set_option maxRecDepth 20000 in
theorem ggX7_unqueue_X7_leaves : GoodIn wsX7_unqueue wsX7_leaves := goodIn_r _ [18, 1, 19, 20, 21, 22, 23, 24, 25, 26, 27, 28, 29] (by decide +kernel) (by decide +kernel)
set_option maxRecDepth 20000 in
theorem gX7_unqueue_X7_leaves : GoodIn wsX7_unqueue (wsV RX7 74 RX7 yX7_leaves wsX7_leaves) := goodIn_app (goodIn_of _ (by decide +kernel)) ggX7_unqueue_X7_leaves
theorem dX7_unqueue_0 : decode cX7_unqueue 0 = .ok (.iload_n 1, 1) := by decide +kernel
theorem dX7_unqueue_1 : decode cX7_unqueue 1 = .ok (.iconst 0, 1) := by decide +kernel
theorem dX7_unqueue_2 : decode cX7_unqueue 2 = .ok (.aload_n 0, 1) := by decide +kernel
theorem dX7_unqueue_3 : decode cX7_unqueue 3 = .ok (.getfield 7, 3) := by decide +kernel
theorem dX7_unqueue_6 : decode cX7_unqueue 6 = .ok (.bipush 25, 2) := by decide +kernel
theorem dX7_unqueue_8 : decode cX7_unqueue 8 = .ok (.iaload, 1) := by decide +kernel
theorem dX7_unqueue_9 : decode cX7_unqueue 9 = .ok (.iconst 1, 1) := by decide +kernel
theorem dX7_unqueue_10 : decode cX7_unqueue 10 = .ok (.isub, 1) := by decide +kernel
theorem dX7_unqueue_11 : decode cX7_unqueue 11 = .ok (.invokestatic 78, 3) := by decide +kernel
theorem dX7_unqueue_14 : decode cX7_unqueue 14 = .ok (.ifCond .ne 5, 3) := by decide +kernel
theorem dX7_unqueue_17 : decode cX7_unqueue 17 = .ok (.iconst (-1), 1) := by decide +kernel
theorem dX7_unqueue_18 : decode cX7_unqueue 18 = .ok (.ireturn, 1) := by decide +kernel
theorem dX7_unqueue_19 : decode cX7_unqueue 19 = .ok (.aload_n 0, 1) := by decide +kernel
theorem dX7_unqueue_20 : decode cX7_unqueue 20 = .ok (.invokevirtual 86, 3) := by decide +kernel
theorem dX7_unqueue_23 : decode cX7_unqueue 23 = .ok (.aload_n 0, 1) := by decide +kernel
theorem dX7_unqueue_24 : decode cX7_unqueue 24 = .ok (.iconst 0, 1) := by decide +kernel
theorem dX7_unqueue_25 : decode cX7_unqueue 25 = .ok (.iload_n 1, 1) := by decide +kernel
theorem dX7_unqueue_26 : decode cX7_unqueue 26 = .ok (.invokevirtual 74, 3) := by decide +kernel
theorem dX7_unqueue_29 : decode cX7_unqueue 29 = .ok (.ireturn, 1) := by decide +kernel
set_option maxRecDepth 20000 in
theorem ggX7_takeOut_X7_in : GoodIn wsX7_takeOut wsX7_in := goodIn_r _ [5] (by decide +kernel) (by decide +kernel)
set_option maxRecDepth 20000 in
theorem gX7_takeOut_X7_in : GoodIn wsX7_takeOut (va_wsS RX7 78 yX7_in wsX7_in) := goodIn_app (goodIn_of _ (by decide +kernel)) ggX7_takeOut_X7_in
set_option maxRecDepth 20000 in
theorem ggX7_takeOut_X7_records : GoodIn wsX7_takeOut wsX7_records := goodIn_r _ [9, 10, 11, 12, 13, 4, 14, 1, 19, 20, 21, 22, 23, 24, 25, 26, 27, 28, 29] (by decide +kernel) (by decide +kernel)
set_option maxRecDepth 20000 in
theorem gX7_takeOut_X7_records : GoodIn wsX7_takeOut (wsV RX7 86 RX7 yX7_records wsX7_records) := goodIn_app (goodIn_of _ (by decide +kernel)) ggX7_takeOut_X7_records
set_option maxRecDepth 20000 in
theorem ggX7_takeOut_X7_empties : GoodIn wsX7_takeOut wsX7_empties := goodIn_r _ [18, 1, 19, 20, 21, 22, 23, 24, 25, 26, 27, 28, 29] (by decide +kernel) (by decide +kernel)
set_option maxRecDepth 20000 in
theorem gX7_takeOut_X7_empties : GoodIn wsX7_takeOut (wsV RX7 35 RX7 yX7_empties wsX7_empties) := goodIn_app (goodIn_of _ (by decide +kernel)) ggX7_takeOut_X7_empties
theorem dX7_takeOut_0 : decode cX7_takeOut 0 = .ok (.iload_n 1, 1) := by decide +kernel
theorem dX7_takeOut_1 : decode cX7_takeOut 1 = .ok (.iconst 0, 1) := by decide +kernel
theorem dX7_takeOut_2 : decode cX7_takeOut 2 = .ok (.iconst 3, 1) := by decide +kernel
theorem dX7_takeOut_3 : decode cX7_takeOut 3 = .ok (.invokestatic 78, 3) := by decide +kernel
theorem dX7_takeOut_6 : decode cX7_takeOut 6 = .ok (.ifCond .ne 5, 3) := by decide +kernel
theorem dX7_takeOut_9 : decode cX7_takeOut 9 = .ok (.iconst (-1), 1) := by decide +kernel
theorem dX7_takeOut_10 : decode cX7_takeOut 10 = .ok (.ireturn, 1) := by decide +kernel
theorem dX7_takeOut_11 : decode cX7_takeOut 11 = .ok (.aload_n 0, 1) := by decide +kernel
theorem dX7_takeOut_12 : decode cX7_takeOut 12 = .ok (.getfield 7, 3) := by decide +kernel
theorem dX7_takeOut_15 : decode cX7_takeOut 15 = .ok (.bipush 13, 2) := by decide +kernel
theorem dX7_takeOut_17 : decode cX7_takeOut 17 = .ok (.iload_n 1, 1) := by decide +kernel
theorem dX7_takeOut_18 : decode cX7_takeOut 18 = .ok (.iadd, 1) := by decide +kernel
theorem dX7_takeOut_19 : decode cX7_takeOut 19 = .ok (.iaload, 1) := by decide +kernel
theorem dX7_takeOut_20 : decode cX7_takeOut 20 = .ok (.ifCond .ge 6, 3) := by decide +kernel
theorem dX7_takeOut_23 : decode cX7_takeOut 23 = .ok (.bipush (-4), 2) := by decide +kernel
theorem dX7_takeOut_25 : decode cX7_takeOut 25 = .ok (.ireturn, 1) := by decide +kernel
theorem dX7_takeOut_26 : decode cX7_takeOut 26 = .ok (.aload_n 0, 1) := by decide +kernel
theorem dX7_takeOut_27 : decode cX7_takeOut 27 = .ok (.invokevirtual 86, 3) := by decide +kernel
theorem dX7_takeOut_30 : decode cX7_takeOut 30 = .ok (.aload_n 0, 1) := by decide +kernel
theorem dX7_takeOut_31 : decode cX7_takeOut 31 = .ok (.getfield 7, 3) := by decide +kernel
theorem dX7_takeOut_34 : decode cX7_takeOut 34 = .ok (.bipush 17, 2) := by decide +kernel
theorem dX7_takeOut_36 : decode cX7_takeOut 36 = .ok (.iload_n 1, 1) := by decide +kernel
theorem dX7_takeOut_37 : decode cX7_takeOut 37 = .ok (.iadd, 1) := by decide +kernel
theorem dX7_takeOut_38 : decode cX7_takeOut 38 = .ok (.iaload, 1) := by decide +kernel
theorem dX7_takeOut_39 : decode cX7_takeOut 39 = .ok (.istore_n 2, 1) := by decide +kernel
theorem dX7_takeOut_40 : decode cX7_takeOut 40 = .ok (.aload_n 0, 1) := by decide +kernel
theorem dX7_takeOut_41 : decode cX7_takeOut 41 = .ok (.iconst 0, 1) := by decide +kernel
theorem dX7_takeOut_42 : decode cX7_takeOut 42 = .ok (.iload_n 1, 1) := by decide +kernel
theorem dX7_takeOut_43 : decode cX7_takeOut 43 = .ok (.invokevirtual 35, 3) := by decide +kernel
theorem dX7_takeOut_46 : decode cX7_takeOut 46 = .ok (.aload_n 0, 1) := by decide +kernel
theorem dX7_takeOut_47 : decode cX7_takeOut 47 = .ok (.getfield 7, 3) := by decide +kernel
theorem dX7_takeOut_50 : decode cX7_takeOut 50 = .ok (.bipush 43, 2) := by decide +kernel
theorem dX7_takeOut_52 : decode cX7_takeOut 52 = .ok (.dup2, 1) := by decide +kernel
theorem dX7_takeOut_53 : decode cX7_takeOut 53 = .ok (.iaload, 1) := by decide +kernel
theorem dX7_takeOut_54 : decode cX7_takeOut 54 = .ok (.iconst 1, 1) := by decide +kernel
theorem dX7_takeOut_55 : decode cX7_takeOut 55 = .ok (.iadd, 1) := by decide +kernel
theorem dX7_takeOut_56 : decode cX7_takeOut 56 = .ok (.iastore, 1) := by decide +kernel
theorem dX7_takeOut_57 : decode cX7_takeOut 57 = .ok (.iload_n 2, 1) := by decide +kernel
theorem dX7_takeOut_58 : decode cX7_takeOut 58 = .ok (.ireturn, 1) := by decide +kernel
set_option maxRecDepth 20000 in
theorem ggX7_run_X7_copies : GoodIn wsX7_run wsX7_copies := goodIn_r _ [5, 6, 82, 83, 84, 85, 86, 87, 88, 89, 90, 91, 92] (by decide +kernel) (by decide +kernel)
set_option maxRecDepth 20000 in
theorem gX7_run_X7_copies : GoodIn wsX7_run (wsV RX7 27 RX7 yX7_copies wsX7_copies) := goodIn_app (goodIn_of _ (by decide +kernel)) ggX7_run_X7_copies
set_option maxRecDepth 20000 in
theorem ggX7_run_X7_runs : GoodIn wsX7_run wsX7_runs := goodIn_r _ [10, 6, 11, 12, 13, 4, 14, 15, 16, 17, 18, 19, 20, 21, 22, 23, 24, 25, 26, 27, 28, 29, 30, 31, 32, 33, 34, 35, 36, 37, 38, 39, 40, 41, 42, 43, 44, 45, 46, 47, 48, 49, 50, 51, 52, 53, 54, 55, 56, 57, 58, 59, 60, 61, 1, 2, 3, 5, 62, 63, 64, 65, 66, 67, 68, 69, 70, 71, 72, 82, 83, 84, 85, 86, 87, 88, 89, 90, 91, 92] (by decide +kernel) (by decide +kernel)
set_option maxRecDepth 20000 in
theorem gX7_run_X7_runs : GoodIn wsX7_run (wsV RX7 104 RX7 yX7_runs wsX7_runs) := goodIn_app (goodIn_of _ (by decide +kernel)) ggX7_run_X7_runs
set_option maxRecDepth 20000 in
theorem ggX7_run_X7_settles : GoodIn wsX7_run wsX7_settles := goodIn_r _ [76, 77, 78, 79, 4, 80, 81, 1, 2, 3, 5, 6, 82, 83, 84, 85, 86, 87, 88, 89, 90, 91, 92] (by decide +kernel) (by decide +kernel)
set_option maxRecDepth 20000 in
theorem gX7_run_X7_settles : GoodIn wsX7_run (wsV RX7 92 RX7 yX7_settles wsX7_settles) := goodIn_app (goodIn_of _ (by decide +kernel)) ggX7_run_X7_settles
theorem dX7_run_0 : decode cX7_run 0 = .ok (.aload_n 0, 1) := by decide +kernel
theorem dX7_run_1 : decode cX7_run 1 = .ok (.iconst 0, 1) := by decide +kernel
theorem dX7_run_2 : decode cX7_run 2 = .ok (.bipush 6, 2) := by decide +kernel
theorem dX7_run_4 : decode cX7_run 4 = .ok (.invokevirtual 27, 3) := by decide +kernel
theorem dX7_run_7 : decode cX7_run 7 = .ok (.aload_n 0, 1) := by decide +kernel
theorem dX7_run_8 : decode cX7_run 8 = .ok (.aload_n 0, 1) := by decide +kernel
theorem dX7_run_9 : decode cX7_run 9 = .ok (.bipush 6, 2) := by decide +kernel
theorem dX7_run_11 : decode cX7_run 11 = .ok (.iload_n 1, 1) := by decide +kernel
theorem dX7_run_12 : decode cX7_run 12 = .ok (.invokevirtual 104, 3) := by decide +kernel
theorem dX7_run_15 : decode cX7_run 15 = .ok (.invokevirtual 92, 3) := by decide +kernel
theorem dX7_run_18 : decode cX7_run 18 = .ok (.ireturn, 1) := by decide +kernel
set_option maxRecDepth 20000 in
theorem ggX7_isNext_X7_in : GoodIn wsX7_isNext wsX7_in := goodIn_r _ [8] (by decide +kernel) (by decide +kernel)
set_option maxRecDepth 20000 in
theorem gX7_isNext_X7_in : GoodIn wsX7_isNext (va_wsS RX7 78 yX7_in wsX7_in) := goodIn_app (goodIn_of _ (by decide +kernel)) ggX7_isNext_X7_in
theorem dX7_isNext_0 : decode cX7_isNext 0 = .ok (.aload_n 0, 1) := by decide +kernel
theorem dX7_isNext_1 : decode cX7_isNext 1 = .ok (.getfield 107, 3) := by decide +kernel
theorem dX7_isNext_4 : decode cX7_isNext 4 = .ok (.ifCond .eq 35, 3) := by decide +kernel
theorem dX7_isNext_7 : decode cX7_isNext 7 = .ok (.aload_n 0, 1) := by decide +kernel
theorem dX7_isNext_8 : decode cX7_isNext 8 = .ok (.getfield 111, 3) := by decide +kernel
theorem dX7_isNext_11 : decode cX7_isNext 11 = .ok (.aload_n 0, 1) := by decide +kernel
theorem dX7_isNext_12 : decode cX7_isNext 12 = .ok (.getfield 114, 3) := by decide +kernel
theorem dX7_isNext_15 : decode cX7_isNext 15 = .ok (.if_icmp .ge 24, 3) := by decide +kernel
theorem dX7_isNext_18 : decode cX7_isNext 18 = .ok (.aload_n 0, 1) := by decide +kernel
theorem dX7_isNext_19 : decode cX7_isNext 19 = .ok (.getfield 13, 3) := by decide +kernel
theorem dX7_isNext_22 : decode cX7_isNext 22 = .ok (.aload_n 0, 1) := by decide +kernel
theorem dX7_isNext_23 : decode cX7_isNext 23 = .ok (.getfield 111, 3) := by decide +kernel
theorem dX7_isNext_26 : decode cX7_isNext 26 = .ok (.caload, 1) := by decide +kernel
theorem dX7_isNext_27 : decode cX7_isNext 27 = .ok (.iload_n 1, 1) := by decide +kernel
theorem dX7_isNext_28 : decode cX7_isNext 28 = .ok (.iload_n 2, 1) := by decide +kernel
theorem dX7_isNext_29 : decode cX7_isNext 29 = .ok (.invokestatic 78, 3) := by decide +kernel
theorem dX7_isNext_32 : decode cX7_isNext 32 = .ok (.ifCond .eq 7, 3) := by decide +kernel
theorem dX7_isNext_35 : decode cX7_isNext 35 = .ok (.iconst 1, 1) := by decide +kernel
theorem dX7_isNext_36 : decode cX7_isNext 36 = .ok (.goto 4, 3) := by decide +kernel
theorem dX7_isNext_39 : decode cX7_isNext 39 = .ok (.iconst 0, 1) := by decide +kernel
theorem dX7_isNext_40 : decode cX7_isNext 40 = .ok (.ireturn, 1) := by decide +kernel
set_option maxRecDepth 20000 in
theorem ggX7_digit_X7_isNext : GoodIn wsX7_digit wsX7_isNext := goodIn_r _ [8, 1, 2, 9, 3, 10, 11, 7, 12, 13, 14, 15, 16, 17, 18, 19, 20, 21, 22, 23] (by decide +kernel) (by decide +kernel)
set_option maxRecDepth 20000 in
theorem gX7_digit_X7_isNext : GoodIn wsX7_digit (wsV RX7 117 RX7 yX7_isNext wsX7_isNext) := goodIn_app (goodIn_of _ (by decide +kernel)) ggX7_digit_X7_isNext
theorem dX7_digit_0 : decode cX7_digit 0 = .ok (.aload_n 0, 1) := by decide +kernel
theorem dX7_digit_1 : decode cX7_digit 1 = .ok (.aload_n 0, 1) := by decide +kernel
theorem dX7_digit_2 : decode cX7_digit 2 = .ok (.bipush 48, 2) := by decide +kernel
theorem dX7_digit_4 : decode cX7_digit 4 = .ok (.bipush 48, 2) := by decide +kernel
theorem dX7_digit_6 : decode cX7_digit 6 = .ok (.iload_n 1, 1) := by decide +kernel
theorem dX7_digit_7 : decode cX7_digit 7 = .ok (.iadd, 1) := by decide +kernel
theorem dX7_digit_8 : decode cX7_digit 8 = .ok (.invokevirtual 117, 3) := by decide +kernel
theorem dX7_digit_11 : decode cX7_digit 11 = .ok (.putfield 107, 3) := by decide +kernel
theorem dX7_digit_14 : decode cX7_digit 14 = .ok (.aload_n 0, 1) := by decide +kernel
theorem dX7_digit_15 : decode cX7_digit 15 = .ok (.dup, 1) := by decide +kernel
theorem dX7_digit_16 : decode cX7_digit 16 = .ok (.getfield 111, 3) := by decide +kernel
theorem dX7_digit_19 : decode cX7_digit 19 = .ok (.aload_n 0, 1) := by decide +kernel
theorem dX7_digit_20 : decode cX7_digit 20 = .ok (.getfield 107, 3) := by decide +kernel
theorem dX7_digit_23 : decode cX7_digit 23 = .ok (.ifCond .eq 7, 3) := by decide +kernel
theorem dX7_digit_26 : decode cX7_digit 26 = .ok (.iconst 1, 1) := by decide +kernel
theorem dX7_digit_27 : decode cX7_digit 27 = .ok (.goto 4, 3) := by decide +kernel
theorem dX7_digit_30 : decode cX7_digit 30 = .ok (.iconst 0, 1) := by decide +kernel
theorem dX7_digit_31 : decode cX7_digit 31 = .ok (.iadd, 1) := by decide +kernel
theorem dX7_digit_32 : decode cX7_digit 32 = .ok (.putfield 111, 3) := by decide +kernel
theorem dX7_digit_35 : decode cX7_digit 35 = .ok (.aload_n 0, 1) := by decide +kernel
theorem dX7_digit_36 : decode cX7_digit 36 = .ok (.getfield 107, 3) := by decide +kernel
theorem dX7_digit_39 : decode cX7_digit 39 = .ok (.ifCond .eq 20, 3) := by decide +kernel
theorem dX7_digit_42 : decode cX7_digit 42 = .ok (.aload_n 0, 1) := by decide +kernel
theorem dX7_digit_43 : decode cX7_digit 43 = .ok (.getfield 13, 3) := by decide +kernel
theorem dX7_digit_46 : decode cX7_digit 46 = .ok (.aload_n 0, 1) := by decide +kernel
theorem dX7_digit_47 : decode cX7_digit 47 = .ok (.getfield 111, 3) := by decide +kernel
theorem dX7_digit_50 : decode cX7_digit 50 = .ok (.iconst 1, 1) := by decide +kernel
theorem dX7_digit_51 : decode cX7_digit 51 = .ok (.isub, 1) := by decide +kernel
theorem dX7_digit_52 : decode cX7_digit 52 = .ok (.caload, 1) := by decide +kernel
theorem dX7_digit_53 : decode cX7_digit 53 = .ok (.bipush 48, 2) := by decide +kernel
theorem dX7_digit_55 : decode cX7_digit 55 = .ok (.isub, 1) := by decide +kernel
theorem dX7_digit_56 : decode cX7_digit 56 = .ok (.goto 4, 3) := by decide +kernel
theorem dX7_digit_59 : decode cX7_digit 59 = .ok (.iconst 0, 1) := by decide +kernel
theorem dX7_digit_60 : decode cX7_digit 60 = .ok (.ireturn, 1) := by decide +kernel
set_option maxRecDepth 20000 in
theorem ggX7_number_X7_isNext : GoodIn wsX7_number wsX7_isNext := goodIn_r _ [8, 1, 3, 9, 2, 10, 11, 7, 12, 13, 14, 15, 16, 17, 18, 19, 20, 21, 22, 23] (by decide +kernel) (by decide +kernel)
set_option maxRecDepth 20000 in
theorem gX7_number_X7_isNext : GoodIn wsX7_number (wsV RX7 117 RX7 yX7_isNext wsX7_isNext) := goodIn_app (goodIn_of _ (by decide +kernel)) ggX7_number_X7_isNext
theorem dX7_number_0 : decode cX7_number 0 = .ok (.aload_n 0, 1) := by decide +kernel
theorem dX7_number_1 : decode cX7_number 1 = .ok (.aload_n 0, 1) := by decide +kernel
theorem dX7_number_2 : decode cX7_number 2 = .ok (.bipush 49, 2) := by decide +kernel
theorem dX7_number_4 : decode cX7_number 4 = .ok (.bipush 57, 2) := by decide +kernel
theorem dX7_number_6 : decode cX7_number 6 = .ok (.invokevirtual 117, 3) := by decide +kernel
theorem dX7_number_9 : decode cX7_number 9 = .ok (.putfield 107, 3) := by decide +kernel
theorem dX7_number_12 : decode cX7_number 12 = .ok (.iconst 0, 1) := by decide +kernel
theorem dX7_number_13 : decode cX7_number 13 = .ok (.istore_n 1, 1) := by decide +kernel
theorem dX7_number_14 : decode cX7_number 14 = .ok (.aload_n 0, 1) := by decide +kernel
theorem dX7_number_15 : decode cX7_number 15 = .ok (.bipush 48, 2) := by decide +kernel
theorem dX7_number_17 : decode cX7_number 17 = .ok (.bipush 57, 2) := by decide +kernel
theorem dX7_number_19 : decode cX7_number 19 = .ok (.invokevirtual 117, 3) := by decide +kernel
theorem dX7_number_22 : decode cX7_number 22 = .ok (.ifCond .eq 57, 3) := by decide +kernel
theorem dX7_number_25 : decode cX7_number 25 = .ok (.bipush 10, 2) := by decide +kernel
theorem dX7_number_27 : decode cX7_number 27 = .ok (.iload_n 1, 1) := by decide +kernel
theorem dX7_number_28 : decode cX7_number 28 = .ok (.imul, 1) := by decide +kernel
theorem dX7_number_29 : decode cX7_number 29 = .ok (.aload_n 0, 1) := by decide +kernel
theorem dX7_number_30 : decode cX7_number 30 = .ok (.getfield 13, 3) := by decide +kernel
theorem dX7_number_33 : decode cX7_number 33 = .ok (.aload_n 0, 1) := by decide +kernel
theorem dX7_number_34 : decode cX7_number 34 = .ok (.getfield 111, 3) := by decide +kernel
theorem dX7_number_37 : decode cX7_number 37 = .ok (.caload, 1) := by decide +kernel
theorem dX7_number_38 : decode cX7_number 38 = .ok (.iadd, 1) := by decide +kernel
theorem dX7_number_39 : decode cX7_number 39 = .ok (.bipush 48, 2) := by decide +kernel
theorem dX7_number_41 : decode cX7_number 41 = .ok (.isub, 1) := by decide +kernel
theorem dX7_number_42 : decode cX7_number 42 = .ok (.sipush 200, 3) := by decide +kernel
theorem dX7_number_45 : decode cX7_number 45 = .ok (.if_icmp .gt 34, 3) := by decide +kernel
theorem dX7_number_48 : decode cX7_number 48 = .ok (.bipush 10, 2) := by decide +kernel
theorem dX7_number_50 : decode cX7_number 50 = .ok (.iload_n 1, 1) := by decide +kernel
theorem dX7_number_51 : decode cX7_number 51 = .ok (.imul, 1) := by decide +kernel
theorem dX7_number_52 : decode cX7_number 52 = .ok (.aload_n 0, 1) := by decide +kernel
theorem dX7_number_53 : decode cX7_number 53 = .ok (.getfield 13, 3) := by decide +kernel
theorem dX7_number_56 : decode cX7_number 56 = .ok (.aload_n 0, 1) := by decide +kernel
theorem dX7_number_57 : decode cX7_number 57 = .ok (.getfield 111, 3) := by decide +kernel
theorem dX7_number_60 : decode cX7_number 60 = .ok (.caload, 1) := by decide +kernel
theorem dX7_number_61 : decode cX7_number 61 = .ok (.iadd, 1) := by decide +kernel
theorem dX7_number_62 : decode cX7_number 62 = .ok (.bipush 48, 2) := by decide +kernel
theorem dX7_number_64 : decode cX7_number 64 = .ok (.isub, 1) := by decide +kernel
theorem dX7_number_65 : decode cX7_number 65 = .ok (.istore_n 1, 1) := by decide +kernel
theorem dX7_number_66 : decode cX7_number 66 = .ok (.aload_n 0, 1) := by decide +kernel
theorem dX7_number_67 : decode cX7_number 67 = .ok (.dup, 1) := by decide +kernel
theorem dX7_number_68 : decode cX7_number 68 = .ok (.getfield 111, 3) := by decide +kernel
theorem dX7_number_71 : decode cX7_number 71 = .ok (.iconst 1, 1) := by decide +kernel
theorem dX7_number_72 : decode cX7_number 72 = .ok (.iadd, 1) := by decide +kernel
theorem dX7_number_73 : decode cX7_number 73 = .ok (.putfield 111, 3) := by decide +kernel
theorem dX7_number_76 : decode cX7_number 76 = .ok (.goto (-62), 3) := by decide +kernel
theorem dX7_number_79 : decode cX7_number 79 = .ok (.iload_n 1, 1) := by decide +kernel
theorem dX7_number_80 : decode cX7_number 80 = .ok (.ireturn, 1) := by decide +kernel
set_option maxRecDepth 20000 in
theorem ggX7_reads_X7_number : GoodIn wsX7_reads wsX7_number := goodIn_r _ [11, 1, 4, 2, 12, 13, 14, 10, 15, 3, 16, 17, 18, 23, 24, 25, 26, 27, 28, 29, 30, 31, 32, 33] (by decide +kernel) (by decide +kernel)
set_option maxRecDepth 20000 in
theorem gX7_reads_X7_number : GoodIn wsX7_reads (wsV RX7 121 RX7 yX7_number wsX7_number) := goodIn_app (goodIn_of _ (by decide +kernel)) ggX7_reads_X7_number
set_option maxRecDepth 20000 in
theorem ggX7_reads_X7_digit : GoodIn wsX7_reads wsX7_digit := goodIn_r _ [22, 1, 2, 4, 12, 13, 14, 10, 15, 3, 16, 17, 18, 23, 24, 25, 26, 27, 28, 29, 30, 31, 32, 33] (by decide +kernel) (by decide +kernel)
set_option maxRecDepth 20000 in
theorem gX7_reads_X7_digit : GoodIn wsX7_reads (wsV RX7 125 RX7 yX7_digit wsX7_digit) := goodIn_app (goodIn_of _ (by decide +kernel)) ggX7_reads_X7_digit
set_option maxRecDepth 20000 in
theorem ggX7_reads_X7_isNext : GoodIn wsX7_reads wsX7_isNext := goodIn_r _ [15, 1, 2, 3, 4, 16, 17, 10, 18, 23, 24, 25, 26, 27, 28, 29, 30, 31, 32, 33] (by decide +kernel) (by decide +kernel)
set_option maxRecDepth 20000 in
theorem gX7_reads_X7_isNext : GoodIn wsX7_reads (wsV RX7 117 RX7 yX7_isNext wsX7_isNext) := goodIn_app (goodIn_of _ (by decide +kernel)) ggX7_reads_X7_isNext
theorem dX7_reads_0 : decode cX7_reads 0 = .ok (.aload_n 0, 1) := by decide +kernel
theorem dX7_reads_1 : decode cX7_reads 1 = .ok (.getfield 107, 3) := by decide +kernel
theorem dX7_reads_4 : decode cX7_reads 4 = .ok (.ifCond .eq 26, 3) := by decide +kernel
theorem dX7_reads_7 : decode cX7_reads 7 = .ok (.aload_n 0, 1) := by decide +kernel
theorem dX7_reads_8 : decode cX7_reads 8 = .ok (.getfield 111, 3) := by decide +kernel
theorem dX7_reads_11 : decode cX7_reads 11 = .ok (.aload_n 0, 1) := by decide +kernel
theorem dX7_reads_12 : decode cX7_reads 12 = .ok (.getfield 114, 3) := by decide +kernel
theorem dX7_reads_15 : decode cX7_reads 15 = .ok (.if_icmp .ge 15, 3) := by decide +kernel
theorem dX7_reads_18 : decode cX7_reads 18 = .ok (.aload_n 0, 1) := by decide +kernel
theorem dX7_reads_19 : decode cX7_reads 19 = .ok (.getfield 13, 3) := by decide +kernel
theorem dX7_reads_22 : decode cX7_reads 22 = .ok (.aload_n 0, 1) := by decide +kernel
theorem dX7_reads_23 : decode cX7_reads 23 = .ok (.getfield 111, 3) := by decide +kernel
theorem dX7_reads_26 : decode cX7_reads 26 = .ok (.caload, 1) := by decide +kernel
theorem dX7_reads_27 : decode cX7_reads 27 = .ok (.goto 4, 3) := by decide +kernel
theorem dX7_reads_30 : decode cX7_reads 30 = .ok (.iconst 0, 1) := by decide +kernel
theorem dX7_reads_31 : decode cX7_reads 31 = .ok (.istore_n 1, 1) := by decide +kernel
theorem dX7_reads_32 : decode cX7_reads 32 = .ok (.aload_n 0, 1) := by decide +kernel
theorem dX7_reads_33 : decode cX7_reads 33 = .ok (.aload_n 0, 1) := by decide +kernel
theorem dX7_reads_34 : decode cX7_reads 34 = .ok (.getfield 107, 3) := by decide +kernel
theorem dX7_reads_37 : decode cX7_reads 37 = .ok (.ifCond .eq 37, 3) := by decide +kernel
theorem dX7_reads_40 : decode cX7_reads 40 = .ok (.iload_n 1, 1) := by decide +kernel
theorem dX7_reads_41 : decode cX7_reads 41 = .ok (.bipush 102, 2) := by decide +kernel
theorem dX7_reads_43 : decode cX7_reads 43 = .ok (.if_icmp .eq 27, 3) := by decide +kernel
theorem dX7_reads_46 : decode cX7_reads 46 = .ok (.iload_n 1, 1) := by decide +kernel
theorem dX7_reads_47 : decode cX7_reads 47 = .ok (.bipush 119, 2) := by decide +kernel
theorem dX7_reads_49 : decode cX7_reads 49 = .ok (.if_icmp .eq 21, 3) := by decide +kernel
theorem dX7_reads_52 : decode cX7_reads 52 = .ok (.iload_n 1, 1) := by decide +kernel
theorem dX7_reads_53 : decode cX7_reads 53 = .ok (.bipush 109, 2) := by decide +kernel
theorem dX7_reads_55 : decode cX7_reads 55 = .ok (.if_icmp .eq 15, 3) := by decide +kernel
theorem dX7_reads_58 : decode cX7_reads 58 = .ok (.iload_n 1, 1) := by decide +kernel
theorem dX7_reads_59 : decode cX7_reads 59 = .ok (.bipush 108, 2) := by decide +kernel
theorem dX7_reads_61 : decode cX7_reads 61 = .ok (.if_icmp .eq 9, 3) := by decide +kernel
theorem dX7_reads_64 : decode cX7_reads 64 = .ok (.iload_n 1, 1) := by decide +kernel
theorem dX7_reads_65 : decode cX7_reads 65 = .ok (.bipush 116, 2) := by decide +kernel
theorem dX7_reads_67 : decode cX7_reads 67 = .ok (.if_icmp .ne 7, 3) := by decide +kernel
theorem dX7_reads_70 : decode cX7_reads 70 = .ok (.iconst 1, 1) := by decide +kernel
theorem dX7_reads_71 : decode cX7_reads 71 = .ok (.goto 4, 3) := by decide +kernel
theorem dX7_reads_74 : decode cX7_reads 74 = .ok (.iconst 0, 1) := by decide +kernel
theorem dX7_reads_75 : decode cX7_reads 75 = .ok (.putfield 107, 3) := by decide +kernel
theorem dX7_reads_78 : decode cX7_reads 78 = .ok (.aload_n 0, 1) := by decide +kernel
theorem dX7_reads_79 : decode cX7_reads 79 = .ok (.dup, 1) := by decide +kernel
theorem dX7_reads_80 : decode cX7_reads 80 = .ok (.getfield 111, 3) := by decide +kernel
theorem dX7_reads_83 : decode cX7_reads 83 = .ok (.aload_n 0, 1) := by decide +kernel
theorem dX7_reads_84 : decode cX7_reads 84 = .ok (.getfield 107, 3) := by decide +kernel
theorem dX7_reads_87 : decode cX7_reads 87 = .ok (.ifCond .eq 7, 3) := by decide +kernel
theorem dX7_reads_90 : decode cX7_reads 90 = .ok (.iconst 1, 1) := by decide +kernel
theorem dX7_reads_91 : decode cX7_reads 91 = .ok (.goto 4, 3) := by decide +kernel
theorem dX7_reads_94 : decode cX7_reads 94 = .ok (.iconst 0, 1) := by decide +kernel
theorem dX7_reads_95 : decode cX7_reads 95 = .ok (.iadd, 1) := by decide +kernel
theorem dX7_reads_96 : decode cX7_reads 96 = .ok (.putfield 111, 3) := by decide +kernel
theorem dX7_reads_99 : decode cX7_reads 99 = .ok (.iload_n 1, 1) := by decide +kernel
theorem dX7_reads_100 : decode cX7_reads 100 = .ok (.bipush 116, 2) := by decide +kernel
theorem dX7_reads_102 : decode cX7_reads 102 = .ok (.if_icmp .ne 10, 3) := by decide +kernel
theorem dX7_reads_105 : decode cX7_reads 105 = .ok (.aload_n 0, 1) := by decide +kernel
theorem dX7_reads_106 : decode cX7_reads 106 = .ok (.invokevirtual 121, 3) := by decide +kernel
theorem dX7_reads_109 : decode cX7_reads 109 = .ok (.goto 28, 3) := by decide +kernel
theorem dX7_reads_112 : decode cX7_reads 112 = .ok (.aload_n 0, 1) := by decide +kernel
theorem dX7_reads_113 : decode cX7_reads 113 = .ok (.iload_n 1, 1) := by decide +kernel
theorem dX7_reads_114 : decode cX7_reads 114 = .ok (.bipush 109, 2) := by decide +kernel
theorem dX7_reads_116 : decode cX7_reads 116 = .ok (.if_icmp .ne 7, 3) := by decide +kernel
theorem dX7_reads_119 : decode cX7_reads 119 = .ok (.iconst 3, 1) := by decide +kernel
theorem dX7_reads_120 : decode cX7_reads 120 = .ok (.goto 14, 3) := by decide +kernel
theorem dX7_reads_123 : decode cX7_reads 123 = .ok (.iload_n 1, 1) := by decide +kernel
theorem dX7_reads_124 : decode cX7_reads 124 = .ok (.bipush 108, 2) := by decide +kernel
theorem dX7_reads_126 : decode cX7_reads 126 = .ok (.if_icmp .ne 7, 3) := by decide +kernel
theorem dX7_reads_129 : decode cX7_reads 129 = .ok (.iconst 2, 1) := by decide +kernel
theorem dX7_reads_130 : decode cX7_reads 130 = .ok (.goto 4, 3) := by decide +kernel
theorem dX7_reads_133 : decode cX7_reads 133 = .ok (.iconst 1, 1) := by decide +kernel
theorem dX7_reads_134 : decode cX7_reads 134 = .ok (.invokevirtual 125, 3) := by decide +kernel
theorem dX7_reads_137 : decode cX7_reads 137 = .ok (.istore_n 2, 1) := by decide +kernel
theorem dX7_reads_138 : decode cX7_reads 138 = .ok (.iconst 0, 1) := by decide +kernel
theorem dX7_reads_139 : decode cX7_reads 139 = .ok (.istore_n 3, 1) := by decide +kernel
theorem dX7_reads_140 : decode cX7_reads 140 = .ok (.iload_n 1, 1) := by decide +kernel
theorem dX7_reads_141 : decode cX7_reads 141 = .ok (.bipush 102, 2) := by decide +kernel
theorem dX7_reads_143 : decode cX7_reads 143 = .ok (.if_icmp .eq 15, 3) := by decide +kernel
theorem dX7_reads_146 : decode cX7_reads 146 = .ok (.iload_n 1, 1) := by decide +kernel

