theorem dX6_perform_48 : decode cX6_perform 48 = .ok (.iload_n 3, 1) := by decide +kernel
theorem dX6_perform_49 : decode cX6_perform 49 = .ok (.bipush (-5), 2) := by decide +kernel
theorem dX6_perform_51 : decode cX6_perform 51 = .ok (.if_icmp .eq 27, 3) := by decide +kernel
theorem dX6_perform_54 : decode cX6_perform 54 = .ok (.aload_n 0, 1) := by decide +kernel
theorem dX6_perform_55 : decode cX6_perform 55 = .ok (.getfield 10, 3) := by decide +kernel
theorem dX6_perform_58 : decode cX6_perform 58 = .ok (.aload_n 0, 1) := by decide +kernel
theorem dX6_perform_59 : decode cX6_perform 59 = .ok (.getfield 16, 3) := by decide +kernel
theorem dX6_perform_62 : decode cX6_perform 62 = .ok (.invokevirtual 53, 3) := by decide +kernel
theorem dX6_perform_65 : decode cX6_perform 65 = .ok (.aload_n 0, 1) := by decide +kernel
theorem dX6_perform_66 : decode cX6_perform 66 = .ok (.iload_n 2, 1) := by decide +kernel
theorem dX6_perform_67 : decode cX6_perform 67 = .ok (.putfield 46, 3) := by decide +kernel
theorem dX6_perform_70 : decode cX6_perform 70 = .ok (.aload_n 0, 1) := by decide +kernel
theorem dX6_perform_71 : decode cX6_perform 71 = .ok (.iload_n 3, 1) := by decide +kernel
theorem dX6_perform_72 : decode cX6_perform 72 = .ok (.putfield 50, 3) := by decide +kernel
theorem dX6_perform_75 : decode cX6_perform 75 = .ok (.bipush (-4), 2) := by decide +kernel
theorem dX6_perform_77 : decode cX6_perform 77 = .ok (.ireturn, 1) := by decide +kernel
theorem dX6_perform_78 : decode cX6_perform 78 = .ok (.iinc 2 1, 3) := by decide +kernel
theorem dX6_perform_81 : decode cX6_perform 81 = .ok (.goto (-47), 3) := by decide +kernel
theorem dX6_perform_84 : decode cX6_perform 84 = .ok (.aload_n 0, 1) := by decide +kernel
theorem dX6_perform_85 : decode cX6_perform 85 = .ok (.iload_n 1, 1) := by decide +kernel
theorem dX6_perform_86 : decode cX6_perform 86 = .ok (.invokevirtual 61, 3) := by decide +kernel
theorem dX6_perform_89 : decode cX6_perform 89 = .ok (.ireturn, 1) := by decide +kernel
theorem dX6_stopped_0 : decode cX6_stopped 0 = .ok (.iload_n 1, 1) := by decide +kernel
theorem dX6_stopped_1 : decode cX6_stopped 1 = .ok (.lookupswitch 37 #[(0, 27), (1, 32)], 27) := by decide +kernel
theorem dX6_stopped_28 : decode cX6_stopped 28 = .ok (.aload_n 0, 1) := by decide +kernel
theorem dX6_stopped_29 : decode cX6_stopped 29 = .ok (.getfield 46, 3) := by decide +kernel
theorem dX6_stopped_32 : decode cX6_stopped 32 = .ok (.ireturn, 1) := by decide +kernel
theorem dX6_stopped_33 : decode cX6_stopped 33 = .ok (.aload_n 0, 1) := by decide +kernel
theorem dX6_stopped_34 : decode cX6_stopped 34 = .ok (.getfield 50, 3) := by decide +kernel
theorem dX6_stopped_37 : decode cX6_stopped 37 = .ok (.ireturn, 1) := by decide +kernel
theorem dX6_stopped_38 : decode cX6_stopped 38 = .ok (.bipush (-2), 2) := by decide +kernel
theorem dX6_stopped_40 : decode cX6_stopped 40 = .ok (.ireturn, 1) := by decide +kernel
set_option maxRecDepth 20000 in
theorem ggX6_undo_X1_takeBack : GoodIn wsX6_undo wsX1_takeBack := goodIn_r _ [7, 8, 9, 10, 11, 12, 13, 14, 15, 16, 17, 18, 19, 20, 21, 22, 23, 24, 25, 26, 27, 28, 29, 30, 31, 32, 33, 34, 35, 36, 37, 38, 39, 40, 41, 42, 43, 44, 45, 46, 47, 48, 49, 50, 51, 52, 53, 64, 65, 66, 67, 68, 69, 70, 71, 72, 73, 74, 75, 76, 77, 78, 79, 80, 81, 82, 83, 84, 85, 86, 87, 88, 89] (by decide +kernel) (by decide +kernel)
set_option maxRecDepth 20000 in
theorem gX6_undo_X1_takeBack : GoodIn wsX6_undo (wsV RX6 105 RX1 yX1_takeBack wsX1_takeBack) := goodIn_app (goodIn_of _ (by decide +kernel)) ggX6_undo_X1_takeBack
theorem dX6_undo_0 : decode cX6_undo 0 = .ok (.aload_n 0, 1) := by decide +kernel
theorem dX6_undo_1 : decode cX6_undo 1 = .ok (.getfield 31, 3) := by decide +kernel
theorem dX6_undo_4 : decode cX6_undo 4 = .ok (.aload_n 0, 1) := by decide +kernel
theorem dX6_undo_5 : decode cX6_undo 5 = .ok (.getfield 10, 3) := by decide +kernel
theorem dX6_undo_8 : decode cX6_undo 8 = .ok (.invokevirtual 105, 3) := by decide +kernel
theorem dX6_undo_11 : decode cX6_undo 11 = .ok (.ireturn, 1) := by decide +kernel
set_option maxRecDepth 20000 in
theorem ggX6_restore_X2_copyFrom : GoodIn wsX6_restore wsX2_copyFrom := goodIn_r _ [10, 11, 12, 13, 14, 15, 16, 17, 18, 19, 20, 21, 22, 23, 24, 25, 26, 27, 28, 29, 30, 31, 32, 33, 34, 35, 36, 37, 38, 39, 40, 41, 42, 43, 44, 45, 46, 47, 48, 49, 78, 79, 80, 81, 82, 83, 84, 85, 86, 87, 88, 89, 90, 91, 92, 93, 94, 95, 96, 97, 98, 99, 100, 101] (by decide +kernel) (by decide +kernel)
set_option maxRecDepth 20000 in
theorem gX6_restore_X2_copyFrom : GoodIn wsX6_restore (wsV RX6 53 RX2 yX2_copyFrom wsX2_copyFrom) := goodIn_app (goodIn_of _ (by decide +kernel)) ggX6_restore_X2_copyFrom
set_option maxRecDepth 20000 in
theorem ggX6_restore_X6_recorded : GoodIn wsX6_restore wsX6_recorded := goodIn_r _ [54, 55, 2, 56, 57, 58, 59, 60, 61, 62, 63, 64, 65, 66, 67, 7, 8, 9, 10, 11, 12, 13, 14, 15, 16, 17, 18, 19, 20, 21, 22, 23, 24, 25, 26, 27, 28, 29, 30, 31, 32, 33, 34, 35, 36, 37, 38, 39, 40, 41, 42, 43, 44, 45, 46, 47, 48, 49, 68, 69, 70, 71, 72, 73, 74, 75, 76, 77, 102, 103, 78, 79, 80, 81, 82, 83, 84, 85, 86, 87, 88, 89, 90, 91, 92, 93, 94, 95, 96, 97, 98, 99, 100, 101] (by decide +kernel) (by decide +kernel)
set_option maxRecDepth 20000 in
theorem gX6_restore_X6_recorded : GoodIn wsX6_restore (wsV RX6 61 RX6 yX6_recorded wsX6_recorded) := goodIn_app (goodIn_of _ (by decide +kernel)) ggX6_restore_X6_recorded
theorem dX6_restore_0 : decode cX6_restore 0 = .ok (.aload_n 0, 1) := by decide +kernel
theorem dX6_restore_1 : decode cX6_restore 1 = .ok (.getfield 42, 3) := by decide +kernel
theorem dX6_restore_4 : decode cX6_restore 4 = .ok (.ifCond .ne 6, 3) := by decide +kernel
theorem dX6_restore_7 : decode cX6_restore 7 = .ok (.bipush (-5), 2) := by decide +kernel
theorem dX6_restore_9 : decode cX6_restore 9 = .ok (.ireturn, 1) := by decide +kernel
theorem dX6_restore_10 : decode cX6_restore 10 = .ok (.aload_n 0, 1) := by decide +kernel
theorem dX6_restore_11 : decode cX6_restore 11 = .ok (.getfield 16, 3) := by decide +kernel
theorem dX6_restore_14 : decode cX6_restore 14 = .ok (.aload_n 0, 1) := by decide +kernel
theorem dX6_restore_15 : decode cX6_restore 15 = .ok (.getfield 10, 3) := by decide +kernel
theorem dX6_restore_18 : decode cX6_restore 18 = .ok (.invokevirtual 53, 3) := by decide +kernel
theorem dX6_restore_21 : decode cX6_restore 21 = .ok (.aload_n 0, 1) := by decide +kernel
theorem dX6_restore_22 : decode cX6_restore 22 = .ok (.getfield 10, 3) := by decide +kernel
theorem dX6_restore_25 : decode cX6_restore 25 = .ok (.aload_n 0, 1) := by decide +kernel
theorem dX6_restore_26 : decode cX6_restore 26 = .ok (.getfield 25, 3) := by decide +kernel
theorem dX6_restore_29 : decode cX6_restore 29 = .ok (.invokevirtual 53, 3) := by decide +kernel
theorem dX6_restore_32 : decode cX6_restore 32 = .ok (.aload_n 0, 1) := by decide +kernel
theorem dX6_restore_33 : decode cX6_restore 33 = .ok (.aload_n 0, 1) := by decide +kernel
theorem dX6_restore_34 : decode cX6_restore 34 = .ok (.getfield 10, 3) := by decide +kernel
theorem dX6_restore_37 : decode cX6_restore 37 = .ok (.getfield 109, 3) := by decide +kernel
theorem dX6_restore_40 : decode cX6_restore 40 = .ok (.invokevirtual 61, 3) := by decide +kernel
theorem dX6_restore_43 : decode cX6_restore 43 = .ok (.ireturn, 1) := by decide +kernel
set_option maxRecDepth 20000 in
theorem ggX6_boiler_X2_boilerAt : GoodIn wsX6_boiler wsX2_boilerAt := goodIn_r _ [11, 12, 28, 29, 30, 31, 32, 33, 34, 35, 36, 37, 38, 39, 40, 41] (by decide +kernel) (by decide +kernel)
set_option maxRecDepth 20000 in
theorem gX6_boiler_X2_boilerAt : GoodIn wsX6_boiler (wsV RX6 112 RX2 yX2_boilerAt wsX2_boilerAt) := goodIn_app (goodIn_of _ (by decide +kernel)) ggX6_boiler_X2_boilerAt
theorem dX6_boiler_0 : decode cX6_boiler 0 = .ok (.aload_n 0, 1) := by decide +kernel
theorem dX6_boiler_1 : decode cX6_boiler 1 = .ok (.getfield 10, 3) := by decide +kernel
theorem dX6_boiler_4 : decode cX6_boiler 4 = .ok (.iload_n 1, 1) := by decide +kernel
theorem dX6_boiler_5 : decode cX6_boiler 5 = .ok (.invokevirtual 112, 3) := by decide +kernel
theorem dX6_boiler_8 : decode cX6_boiler 8 = .ok (.astore_n 3, 1) := by decide +kernel
theorem dX6_boiler_9 : decode cX6_boiler 9 = .ok (.aload_n 3, 1) := by decide +kernel
theorem dX6_boiler_10 : decode cX6_boiler 10 = .ok (.ifnonnull 5, 3) := by decide +kernel
theorem dX6_boiler_13 : decode cX6_boiler 13 = .ok (.iconst (-1), 1) := by decide +kernel
theorem dX6_boiler_14 : decode cX6_boiler 14 = .ok (.ireturn, 1) := by decide +kernel
theorem dX6_boiler_15 : decode cX6_boiler 15 = .ok (.iload_n 2, 1) := by decide +kernel
theorem dX6_boiler_16 : decode cX6_boiler 16 = .ok (.tableswitch 61 0 4 #[36, 41, 46, 51, 56], 36) := by decide +kernel
theorem dX6_boiler_52 : decode cX6_boiler 52 = .ok (.aload_n 3, 1) := by decide +kernel
theorem dX6_boiler_53 : decode cX6_boiler 53 = .ok (.getfield 116, 3) := by decide +kernel
theorem dX6_boiler_56 : decode cX6_boiler 56 = .ok (.ireturn, 1) := by decide +kernel
theorem dX6_boiler_57 : decode cX6_boiler 57 = .ok (.aload_n 3, 1) := by decide +kernel
theorem dX6_boiler_58 : decode cX6_boiler 58 = .ok (.getfield 121, 3) := by decide +kernel
theorem dX6_boiler_61 : decode cX6_boiler 61 = .ok (.ireturn, 1) := by decide +kernel
theorem dX6_boiler_62 : decode cX6_boiler 62 = .ok (.aload_n 3, 1) := by decide +kernel
theorem dX6_boiler_63 : decode cX6_boiler 63 = .ok (.getfield 124, 3) := by decide +kernel
theorem dX6_boiler_66 : decode cX6_boiler 66 = .ok (.ireturn, 1) := by decide +kernel
theorem dX6_boiler_67 : decode cX6_boiler 67 = .ok (.aload_n 3, 1) := by decide +kernel
theorem dX6_boiler_68 : decode cX6_boiler 68 = .ok (.getfield 127, 3) := by decide +kernel
theorem dX6_boiler_71 : decode cX6_boiler 71 = .ok (.ireturn, 1) := by decide +kernel
theorem dX6_boiler_72 : decode cX6_boiler 72 = .ok (.aload_n 3, 1) := by decide +kernel
theorem dX6_boiler_73 : decode cX6_boiler 73 = .ok (.getfield 130, 3) := by decide +kernel
theorem dX6_boiler_76 : decode cX6_boiler 76 = .ok (.ireturn, 1) := by decide +kernel
theorem dX6_boiler_77 : decode cX6_boiler 77 = .ok (.bipush (-2), 2) := by decide +kernel
theorem dX6_boiler_79 : decode cX6_boiler 79 = .ok (.ireturn, 1) := by decide +kernel
set_option maxRecDepth 20000 in
theorem ggX6_machine_X2_machineAt : GoodIn wsX6_machine wsX2_machineAt := goodIn_r _ [9, 10, 24, 25, 26, 27, 28, 29, 30, 31, 32, 33, 34, 35, 36, 37] (by decide +kernel) (by decide +kernel)
set_option maxRecDepth 20000 in
theorem gX6_machine_X2_machineAt : GoodIn wsX6_machine (wsV RX6 133 RX2 yX2_machineAt wsX2_machineAt) := goodIn_app (goodIn_of _ (by decide +kernel)) ggX6_machine_X2_machineAt
theorem dX6_machine_0 : decode cX6_machine 0 = .ok (.aload_n 0, 1) := by decide +kernel
theorem dX6_machine_1 : decode cX6_machine 1 = .ok (.getfield 10, 3) := by decide +kernel
theorem dX6_machine_4 : decode cX6_machine 4 = .ok (.iload_n 1, 1) := by decide +kernel
theorem dX6_machine_5 : decode cX6_machine 5 = .ok (.invokevirtual 133, 3) := by decide +kernel
theorem dX6_machine_8 : decode cX6_machine 8 = .ok (.astore_n 3, 1) := by decide +kernel
theorem dX6_machine_9 : decode cX6_machine 9 = .ok (.aload_n 3, 1) := by decide +kernel
theorem dX6_machine_10 : decode cX6_machine 10 = .ok (.ifnonnull 5, 3) := by decide +kernel
theorem dX6_machine_13 : decode cX6_machine 13 = .ok (.iconst (-1), 1) := by decide +kernel
theorem dX6_machine_14 : decode cX6_machine 14 = .ok (.ireturn, 1) := by decide +kernel
theorem dX6_machine_15 : decode cX6_machine 15 = .ok (.iload_n 2, 1) := by decide +kernel
theorem dX6_machine_16 : decode cX6_machine 16 = .ok (.tableswitch 43 0 2 #[28, 33, 38], 28) := by decide +kernel
theorem dX6_machine_44 : decode cX6_machine 44 = .ok (.aload_n 3, 1) := by decide +kernel
theorem dX6_machine_45 : decode cX6_machine 45 = .ok (.getfield 137, 3) := by decide +kernel
theorem dX6_machine_48 : decode cX6_machine 48 = .ok (.ireturn, 1) := by decide +kernel
theorem dX6_machine_49 : decode cX6_machine 49 = .ok (.aload_n 3, 1) := by decide +kernel
theorem dX6_machine_50 : decode cX6_machine 50 = .ok (.getfield 142, 3) := by decide +kernel
theorem dX6_machine_53 : decode cX6_machine 53 = .ok (.ireturn, 1) := by decide +kernel
theorem dX6_machine_54 : decode cX6_machine 54 = .ok (.aload_n 3, 1) := by decide +kernel
theorem dX6_machine_55 : decode cX6_machine 55 = .ok (.getfield 145, 3) := by decide +kernel
theorem dX6_machine_58 : decode cX6_machine 58 = .ok (.ireturn, 1) := by decide +kernel
theorem dX6_machine_59 : decode cX6_machine 59 = .ok (.bipush (-2), 2) := by decide +kernel
theorem dX6_machine_61 : decode cX6_machine 61 = .ok (.ireturn, 1) := by decide +kernel
set_option maxRecDepth 20000 in
theorem ggX6_line_X5_kindAt : GoodIn wsX6_line wsX5_kindAt := goodIn_r _ [7, 8, 9, 34, 35] (by decide +kernel) (by decide +kernel)
set_option maxRecDepth 20000 in
theorem gX6_line_X5_kindAt : GoodIn wsX6_line (wsV RX6 152 RX5 yX5_kindAt wsX5_kindAt) := goodIn_app (goodIn_of _ (by decide +kernel)) ggX6_line_X5_kindAt
theorem dX6_line_0 : decode cX6_line 0 = .ok (.iload_n 1, 1) := by decide +kernel
theorem dX6_line_1 : decode cX6_line 1 = .ok (.ifCond .ge 8, 3) := by decide +kernel
theorem dX6_line_4 : decode cX6_line 4 = .ok (.bipush (-2), 2) := by decide +kernel
theorem dX6_line_6 : decode cX6_line 6 = .ok (.goto 14, 3) := by decide +kernel
theorem dX6_line_9 : decode cX6_line 9 = .ok (.aload_n 0, 1) := by decide +kernel
theorem dX6_line_10 : decode cX6_line 10 = .ok (.getfield 10, 3) := by decide +kernel
theorem dX6_line_13 : decode cX6_line 13 = .ok (.getfield 148, 3) := by decide +kernel
theorem dX6_line_16 : decode cX6_line 16 = .ok (.iload_n 1, 1) := by decide +kernel
theorem dX6_line_17 : decode cX6_line 17 = .ok (.invokevirtual 152, 3) := by decide +kernel
theorem dX6_line_20 : decode cX6_line 20 = .ok (.ireturn, 1) := by decide +kernel
set_option maxRecDepth 20000 in
theorem ggX6_reason_X6_isWithin : GoodIn wsX6_reason wsX6_isWithin := goodIn_r _ [6] (by decide +kernel) (by decide +kernel)
set_option maxRecDepth 20000 in
theorem gX6_reason_X6_isWithin : GoodIn wsX6_reason (va_wsS RX6 157 yX6_isWithin wsX6_isWithin) := goodIn_app (goodIn_of _ (by decide +kernel)) ggX6_reason_X6_isWithin
set_option maxRecDepth 20000 in
theorem ggX6_reason_X2_reasonAgainst : GoodIn wsX6_reason wsX2_reasonAgainst := goodIn_r _ [11, 12, 13, 14, 10, 15, 16, 17, 18, 19, 20, 21, 22, 23, 24, 25, 26, 27, 28, 29, 30, 31, 32, 33, 34, 35, 36, 37, 38, 39, 40, 41, 42, 43, 44, 45, 46, 47, 48, 49, 50, 51, 52, 53, 54, 55, 56, 57, 58, 59, 60, 61, 62, 63, 64, 65, 66, 67, 68, 69, 70, 71, 72, 5, 73, 74, 75, 76, 77, 78, 79, 80, 81, 82, 83, 84, 85, 86, 87, 88, 89, 90, 91, 92, 93, 94, 95, 96, 97, 98, 99, 100, 101, 102, 103, 104, 105, 106, 107, 108, 109, 110, 111, 112, 113, 114, 115, 116, 117, 118, 119, 120, 131, 132, 133, 134, 135, 136, 137, 138, 139, 140, 141, 142, 143, 144, 145, 146, 147, 148, 149, 150, 151, 152, 153, 154] (by decide +kernel) (by decide +kernel)
set_option maxRecDepth 20000 in
theorem gX6_reason_X2_reasonAgainst : GoodIn wsX6_reason (wsV RX6 161 RX2 yX2_reasonAgainst wsX2_reasonAgainst) := goodIn_app (goodIn_of _ (by decide +kernel)) ggX6_reason_X2_reasonAgainst
theorem dX6_reason_0 : decode cX6_reason 0 = .ok (.iload_n 1, 1) := by decide +kernel
theorem dX6_reason_1 : decode cX6_reason 1 = .ok (.iconst 0, 1) := by decide +kernel
theorem dX6_reason_2 : decode cX6_reason 2 = .ok (.iconst 2, 1) := by decide +kernel
theorem dX6_reason_3 : decode cX6_reason 3 = .ok (.invokestatic 157, 3) := by decide +kernel
theorem dX6_reason_6 : decode cX6_reason 6 = .ok (.ifCond .eq 18, 3) := by decide +kernel
theorem dX6_reason_9 : decode cX6_reason 9 = .ok (.aload_n 0, 1) := by decide +kernel
theorem dX6_reason_10 : decode cX6_reason 10 = .ok (.getfield 10, 3) := by decide +kernel
theorem dX6_reason_13 : decode cX6_reason 13 = .ok (.iload_n 1, 1) := by decide +kernel
theorem dX6_reason_14 : decode cX6_reason 14 = .ok (.aload_n 0, 1) := by decide +kernel
theorem dX6_reason_15 : decode cX6_reason 15 = .ok (.getfield 22, 3) := by decide +kernel
theorem dX6_reason_18 : decode cX6_reason 18 = .ok (.invokevirtual 161, 3) := by decide +kernel
theorem dX6_reason_21 : decode cX6_reason 21 = .ok (.goto 4, 3) := by decide +kernel
theorem dX6_reason_24 : decode cX6_reason 24 = .ok (.iconst (-1), 1) := by decide +kernel
theorem dX6_reason_25 : decode cX6_reason 25 = .ok (.ireturn, 1) := by decide +kernel
set_option maxRecDepth 20000 in
theorem ggX6_doneIn_X2_copyFrom : GoodIn wsX6_doneIn wsX2_copyFrom := goodIn_r _ [8, 9, 10, 11, 12, 13, 14, 15, 16, 17, 18, 19, 20, 21, 22, 23, 24, 25, 26, 27, 28, 29, 30, 31, 32, 33, 34, 35, 36, 37, 38, 39, 40, 41, 42, 43, 44, 45, 46, 47, 152, 153, 154, 155, 156, 157, 158, 159, 160, 161, 162, 163, 164, 165, 166, 167, 168, 169, 170, 171, 172, 173, 174, 175] (by decide +kernel) (by decide +kernel)
set_option maxRecDepth 20000 in
theorem gX6_doneIn_X2_copyFrom : GoodIn wsX6_doneIn (wsV RX6 53 RX2 yX2_copyFrom wsX2_copyFrom) := goodIn_app (goodIn_of _ (by decide +kernel)) ggX6_doneIn_X2_copyFrom
set_option maxRecDepth 20000 in
theorem ggX6_doneIn_X2_isIdle : GoodIn wsX6_doneIn wsX2_isIdle := goodIn_r _ [51, 11, 52, 53, 54, 55, 7, 56, 10, 57, 58, 59, 36, 60, 38, 152, 153, 154, 155, 156, 157, 158, 159, 160, 161, 162, 163, 164, 165, 174, 175, 171, 172, 173] (by decide +kernel) (by decide +kernel)
set_option maxRecDepth 20000 in
theorem gX6_doneIn_X2_isIdle : GoodIn wsX6_doneIn (wsV RX6 164 RX2 yX2_isIdle wsX2_isIdle) := goodIn_app (goodIn_of _ (by decide +kernel)) ggX6_doneIn_X2_isIdle
set_option maxRecDepth 20000 in
theorem ggX6_doneIn_X2_passTick : GoodIn wsX6_doneIn wsX2_passTick := goodIn_r _ [64, 11, 19, 65, 66, 67, 7, 68, 12, 9, 16, 15, 69, 70, 71, 72, 17, 73, 74, 75, 76, 18, 77, 78, 79, 26, 80, 31, 28, 29, 30, 81, 82, 83, 84, 10, 85, 86, 87, 88, 89, 90, 91, 92, 93, 94, 95, 96, 97, 22, 98, 14, 57, 58, 59, 36, 60, 38, 99, 100, 101, 102, 39, 40, 103, 104, 105, 106, 107, 108, 109, 110, 111, 13, 21, 112, 113, 114, 115, 116, 117, 32, 118, 119, 120, 44, 121, 46, 47, 122, 123, 124, 125, 126, 127, 128, 129, 130, 5, 6, 8, 20, 23, 24, 25, 27, 33, 34, 35, 37, 41, 42, 43, 45, 131, 132, 133, 134, 135, 136, 137, 138, 139, 140, 141, 152, 153, 154, 155, 156, 157, 158, 159, 160, 161, 162, 163, 164, 165, 166, 167, 168, 169, 170, 171, 172, 173, 174, 175] (by decide +kernel) (by decide +kernel)
set_option maxRecDepth 20000 in
theorem gX6_doneIn_X2_passTick : GoodIn wsX6_doneIn (wsV RX6 168 RX2 yX2_passTick wsX2_passTick) := goodIn_app (goodIn_of _ (by decide +kernel)) ggX6_doneIn_X2_passTick
theorem dX6_doneIn_0 : decode cX6_doneIn 0 = .ok (.aload_n 0, 1) := by decide +kernel
theorem dX6_doneIn_1 : decode cX6_doneIn 1 = .ok (.getfield 19, 3) := by decide +kernel
theorem dX6_doneIn_4 : decode cX6_doneIn 4 = .ok (.aload_n 0, 1) := by decide +kernel
theorem dX6_doneIn_5 : decode cX6_doneIn 5 = .ok (.getfield 10, 3) := by decide +kernel
theorem dX6_doneIn_8 : decode cX6_doneIn 8 = .ok (.invokevirtual 53, 3) := by decide +kernel
theorem dX6_doneIn_11 : decode cX6_doneIn 11 = .ok (.iconst 0, 1) := by decide +kernel
theorem dX6_doneIn_12 : decode cX6_doneIn 12 = .ok (.istore_n 1, 1) := by decide +kernel
theorem dX6_doneIn_13 : decode cX6_doneIn 13 = .ok (.iload_n 1, 1) := by decide +kernel
theorem dX6_doneIn_14 : decode cX6_doneIn 14 = .ok (.sipush 400, 3) := by decide +kernel
theorem dX6_doneIn_17 : decode cX6_doneIn 17 = .ok (.if_icmp .gt 32, 3) := by decide +kernel
theorem dX6_doneIn_20 : decode cX6_doneIn 20 = .ok (.aload_n 0, 1) := by decide +kernel
theorem dX6_doneIn_21 : decode cX6_doneIn 21 = .ok (.getfield 19, 3) := by decide +kernel
theorem dX6_doneIn_24 : decode cX6_doneIn 24 = .ok (.invokevirtual 164, 3) := by decide +kernel
theorem dX6_doneIn_27 : decode cX6_doneIn 27 = .ok (.ifCond .eq 5, 3) := by decide +kernel
theorem dX6_doneIn_30 : decode cX6_doneIn 30 = .ok (.iload_n 1, 1) := by decide +kernel
theorem dX6_doneIn_31 : decode cX6_doneIn 31 = .ok (.ireturn, 1) := by decide +kernel
theorem dX6_doneIn_32 : decode cX6_doneIn 32 = .ok (.aload_n 0, 1) := by decide +kernel
theorem dX6_doneIn_33 : decode cX6_doneIn 33 = .ok (.getfield 19, 3) := by decide +kernel
theorem dX6_doneIn_36 : decode cX6_doneIn 36 = .ok (.aload_n 0, 1) := by decide +kernel
theorem dX6_doneIn_37 : decode cX6_doneIn 37 = .ok (.getfield 22, 3) := by decide +kernel
theorem dX6_doneIn_40 : decode cX6_doneIn 40 = .ok (.invokevirtual 168, 3) := by decide +kernel
theorem dX6_doneIn_43 : decode cX6_doneIn 43 = .ok (.iinc 1 1, 3) := by decide +kernel
theorem dX6_doneIn_46 : decode cX6_doneIn 46 = .ok (.goto (-33), 3) := by decide +kernel
theorem dX6_doneIn_49 : decode cX6_doneIn 49 = .ok (.bipush (-5), 2) := by decide +kernel
theorem dX6_doneIn_51 : decode cX6_doneIn 51 = .ok (.ireturn, 1) := by decide +kernel
set_option maxRecDepth 20000 in
theorem ggX6_ifFires_X6_isWithin : GoodIn wsX6_ifFires wsX6_isWithin := goodIn_r _ [9] (by decide +kernel) (by decide +kernel)
set_option maxRecDepth 20000 in
theorem gX6_ifFires_X6_isWithin : GoodIn wsX6_ifFires (va_wsS RX6 157 yX6_isWithin wsX6_isWithin) := goodIn_app (goodIn_of _ (by decide +kernel)) ggX6_ifFires_X6_isWithin
set_option maxRecDepth 20000 in
theorem ggX6_ifFires_X6_lookAhead : GoodIn wsX6_ifFires wsX6_lookAhead := goodIn_r _ [13, 1, 3, 14, 15, 16, 17, 18, 19, 20, 21, 22, 23, 24, 25, 26, 27, 28, 29, 30, 31, 32, 33, 34, 35, 36, 37, 38, 39, 40, 41, 42, 43, 44, 45, 46, 47, 48, 49, 50, 51, 52, 53, 54, 55, 56, 57, 58, 59, 60, 61, 62, 63, 64, 65, 66, 67, 68, 69, 70, 71, 72, 73, 74, 75, 76, 77, 78, 79, 80, 81, 82, 83, 84, 85, 86, 87, 88, 89, 90, 91, 92, 93, 8, 94, 95, 96, 97, 98, 99, 100, 101, 102, 103, 104, 105, 106, 107, 108, 109, 110, 111, 112, 113, 114, 115, 116, 117, 118, 119, 120, 121, 122, 123, 124, 125, 126, 127, 128, 129, 130, 131, 132, 133, 134, 135, 136, 137, 138, 139, 140, 141, 142, 143, 144, 145, 146, 147, 148, 149, 150, 151, 157, 158, 159, 160, 161, 162, 163, 164, 165, 166, 167, 168, 169, 170, 171, 172, 173, 174, 175, 176, 177, 178, 179, 180, 181, 182, 183, 184, 185, 186, 187, 188, 189, 190] (by decide +kernel) (by decide +kernel)
set_option maxRecDepth 20000 in
theorem gX6_ifFires_X6_lookAhead : GoodIn wsX6_ifFires (wsV RX6 171 RX6 yX6_lookAhead wsX6_lookAhead) := goodIn_app (goodIn_of _ (by decide +kernel)) ggX6_ifFires_X6_lookAhead
set_option maxRecDepth 20000 in
theorem ggX6_ifFires_X2_safetyStops : GoodIn wsX6_ifFires wsX2_safetyStops := goodIn_r _ [155, 20, 156, 167, 168, 169, 170, 171, 172, 173, 174, 175, 176, 177, 178, 179, 180, 181, 182, 183, 184, 185] (by decide +kernel) (by decide +kernel)
set_option maxRecDepth 20000 in
theorem gX6_ifFires_X2_safetyStops : GoodIn wsX6_ifFires (wsV RX6 184 RX2 yX2_safetyStops wsX2_safetyStops) := goodIn_app (goodIn_of _ (by decide +kernel)) ggX6_ifFires_X2_safetyStops
theorem dX6_ifFires_0 : decode cX6_ifFires 0 = .ok (.iload_n 1, 1) := by decide +kernel
theorem dX6_ifFires_1 : decode cX6_ifFires 1 = .ok (.iconst 0, 1) := by decide +kernel
theorem dX6_ifFires_2 : decode cX6_ifFires 2 = .ok (.iconst 5, 1) := by decide +kernel
theorem dX6_ifFires_3 : decode cX6_ifFires 3 = .ok (.invokestatic 157, 3) := by decide +kernel
theorem dX6_ifFires_6 : decode cX6_ifFires 6 = .ok (.ifCond .eq 12, 3) := by decide +kernel
theorem dX6_ifFires_9 : decode cX6_ifFires 9 = .ok (.iload_n 2, 1) := by decide +kernel
theorem dX6_ifFires_10 : decode cX6_ifFires 10 = .ok (.iconst 0, 1) := by decide +kernel
theorem dX6_ifFires_11 : decode cX6_ifFires 11 = .ok (.iconst 5, 1) := by decide +kernel
theorem dX6_ifFires_12 : decode cX6_ifFires 12 = .ok (.invokestatic 157, 3) := by decide +kernel
theorem dX6_ifFires_15 : decode cX6_ifFires 15 = .ok (.ifCond .ne 6, 3) := by decide +kernel
theorem dX6_ifFires_18 : decode cX6_ifFires 18 = .ok (.bipush (-2), 2) := by decide +kernel
theorem dX6_ifFires_20 : decode cX6_ifFires 20 = .ok (.ireturn, 1) := by decide +kernel
theorem dX6_ifFires_21 : decode cX6_ifFires 21 = .ok (.iload_n 3, 1) := by decide +kernel
theorem dX6_ifFires_22 : decode cX6_ifFires 22 = .ok (.iconst 1, 1) := by decide +kernel
theorem dX6_ifFires_23 : decode cX6_ifFires 23 = .ok (.sipush 200, 3) := by decide +kernel
theorem dX6_ifFires_26 : decode cX6_ifFires 26 = .ok (.invokestatic 157, 3) := by decide +kernel
theorem dX6_ifFires_29 : decode cX6_ifFires 29 = .ok (.ifCond .eq 13, 3) := by decide +kernel
theorem dX6_ifFires_32 : decode cX6_ifFires 32 = .ok (.iload 4, 2) := by decide +kernel
theorem dX6_ifFires_34 : decode cX6_ifFires 34 = .ok (.iconst 0, 1) := by decide +kernel
theorem dX6_ifFires_35 : decode cX6_ifFires 35 = .ok (.iconst 3, 1) := by decide +kernel
theorem dX6_ifFires_36 : decode cX6_ifFires 36 = .ok (.invokestatic 157, 3) := by decide +kernel
theorem dX6_ifFires_39 : decode cX6_ifFires 39 = .ok (.ifCond .ne 6, 3) := by decide +kernel
theorem dX6_ifFires_42 : decode cX6_ifFires 42 = .ok (.bipush (-2), 2) := by decide +kernel
theorem dX6_ifFires_44 : decode cX6_ifFires 44 = .ok (.ireturn, 1) := by decide +kernel
theorem dX6_ifFires_45 : decode cX6_ifFires 45 = .ok (.aload_n 0, 1) := by decide +kernel
theorem dX6_ifFires_46 : decode cX6_ifFires 46 = .ok (.iload_n 1, 1) := by decide +kernel
theorem dX6_ifFires_47 : decode cX6_ifFires 47 = .ok (.iload_n 2, 1) := by decide +kernel
theorem dX6_ifFires_48 : decode cX6_ifFires 48 = .ok (.iload_n 3, 1) := by decide +kernel
theorem dX6_ifFires_49 : decode cX6_ifFires 49 = .ok (.invokevirtual 171, 3) := by decide +kernel
theorem dX6_ifFires_52 : decode cX6_ifFires 52 = .ok (.iload 4, 2) := by decide +kernel
theorem dX6_ifFires_54 : decode cX6_ifFires 54 = .ok (.tableswitch 74 0 2 #[26, 42, 58], 26) := by decide +kernel
theorem dX6_ifFires_80 : decode cX6_ifFires 80 = .ok (.aload_n 0, 1) := by decide +kernel
theorem dX6_ifFires_81 : decode cX6_ifFires 81 = .ok (.getfield 19, 3) := by decide +kernel
theorem dX6_ifFires_84 : decode cX6_ifFires 84 = .ok (.getfield 175, 3) := by decide +kernel
theorem dX6_ifFires_87 : decode cX6_ifFires 87 = .ok (.aload_n 0, 1) := by decide +kernel
theorem dX6_ifFires_88 : decode cX6_ifFires 88 = .ok (.getfield 10, 3) := by decide +kernel
theorem dX6_ifFires_91 : decode cX6_ifFires 91 = .ok (.getfield 175, 3) := by decide +kernel
theorem dX6_ifFires_94 : decode cX6_ifFires 94 = .ok (.isub, 1) := by decide +kernel
theorem dX6_ifFires_95 : decode cX6_ifFires 95 = .ok (.ireturn, 1) := by decide +kernel
theorem dX6_ifFires_96 : decode cX6_ifFires 96 = .ok (.aload_n 0, 1) := by decide +kernel
theorem dX6_ifFires_97 : decode cX6_ifFires 97 = .ok (.getfield 19, 3) := by decide +kernel
theorem dX6_ifFires_100 : decode cX6_ifFires 100 = .ok (.getfield 178, 3) := by decide +kernel
theorem dX6_ifFires_103 : decode cX6_ifFires 103 = .ok (.aload_n 0, 1) := by decide +kernel
theorem dX6_ifFires_104 : decode cX6_ifFires 104 = .ok (.getfield 10, 3) := by decide +kernel
theorem dX6_ifFires_107 : decode cX6_ifFires 107 = .ok (.getfield 178, 3) := by decide +kernel
theorem dX6_ifFires_110 : decode cX6_ifFires 110 = .ok (.isub, 1) := by decide +kernel
theorem dX6_ifFires_111 : decode cX6_ifFires 111 = .ok (.ireturn, 1) := by decide +kernel
theorem dX6_ifFires_112 : decode cX6_ifFires 112 = .ok (.aload_n 0, 1) := by decide +kernel
theorem dX6_ifFires_113 : decode cX6_ifFires 113 = .ok (.getfield 19, 3) := by decide +kernel
theorem dX6_ifFires_116 : decode cX6_ifFires 116 = .ok (.getfield 181, 3) := by decide +kernel
theorem dX6_ifFires_119 : decode cX6_ifFires 119 = .ok (.aload_n 0, 1) := by decide +kernel
theorem dX6_ifFires_120 : decode cX6_ifFires 120 = .ok (.getfield 10, 3) := by decide +kernel
theorem dX6_ifFires_123 : decode cX6_ifFires 123 = .ok (.getfield 181, 3) := by decide +kernel
theorem dX6_ifFires_126 : decode cX6_ifFires 126 = .ok (.isub, 1) := by decide +kernel
theorem dX6_ifFires_127 : decode cX6_ifFires 127 = .ok (.ireturn, 1) := by decide +kernel
theorem dX6_ifFires_128 : decode cX6_ifFires 128 = .ok (.aload_n 0, 1) := by decide +kernel
theorem dX6_ifFires_129 : decode cX6_ifFires 129 = .ok (.getfield 19, 3) := by decide +kernel
theorem dX6_ifFires_132 : decode cX6_ifFires 132 = .ok (.invokevirtual 184, 3) := by decide +kernel
theorem dX6_ifFires_135 : decode cX6_ifFires 135 = .ok (.aload_n 0, 1) := by decide +kernel
theorem dX6_ifFires_136 : decode cX6_ifFires 136 = .ok (.getfield 10, 3) := by decide +kernel
theorem dX6_ifFires_139 : decode cX6_ifFires 139 = .ok (.invokevirtual 184, 3) := by decide +kernel
theorem dX6_ifFires_142 : decode cX6_ifFires 142 = .ok (.isub, 1) := by decide +kernel
theorem dX6_ifFires_143 : decode cX6_ifFires 143 = .ok (.ireturn, 1) := by decide +kernel
set_option maxRecDepth 20000 in
theorem ggX6_bestFires_X6_isWithin : GoodIn wsX6_bestFires wsX6_isWithin := goodIn_r _ [7] (by decide +kernel) (by decide +kernel)
set_option maxRecDepth 20000 in
theorem gX6_bestFires_X6_isWithin : GoodIn wsX6_bestFires (va_wsS RX6 157 yX6_isWithin wsX6_isWithin) := goodIn_app (goodIn_of _ (by decide +kernel)) ggX6_bestFires_X6_isWithin
set_option maxRecDepth 20000 in
theorem ggX6_bestFires_X6_lookAhead : GoodIn wsX6_bestFires wsX6_lookAhead := goodIn_r _ [11, 1, 12, 13, 14, 15, 16, 17, 18, 19, 20, 21, 22, 23, 24, 25, 26, 27, 28, 29, 30, 31, 32, 33, 34, 35, 36, 37, 38, 39, 40, 41, 42, 43, 44, 45, 46, 47, 48, 49, 50, 51, 52, 53, 54, 55, 56, 57, 58, 59, 60, 61, 62, 63, 64, 65, 66, 67, 68, 69, 70, 71, 72, 73, 74, 75, 76, 77, 78, 79, 80, 81, 82, 83, 84, 85, 86, 87, 88, 89, 90, 91, 92, 6, 93, 94, 95, 96, 97, 98, 99, 100, 101, 102, 103, 104, 105, 106, 107, 108, 109, 110, 111, 112, 113, 114, 115, 116, 117, 118, 119, 120, 121, 122, 123, 124, 125, 126, 127, 128, 129, 130, 131, 132, 133, 134, 135, 136, 137, 138, 139, 140, 141, 142, 143, 144, 145, 146, 147, 148, 149, 150, 151, 152, 153, 154, 155, 156, 157, 158, 159, 160, 161, 162, 163, 164, 165, 166, 167, 168, 169, 170, 171, 172, 173, 174, 175, 176, 177, 178, 179, 180, 181, 182, 183, 184] (by decide +kernel) (by decide +kernel)
set_option maxRecDepth 20000 in
theorem gX6_bestFires_X6_lookAhead : GoodIn wsX6_bestFires (wsV RX6 171 RX6 yX6_lookAhead wsX6_lookAhead) := goodIn_app (goodIn_of _ (by decide +kernel)) ggX6_bestFires_X6_lookAhead
theorem dX6_bestFires_0 : decode cX6_bestFires 0 = .ok (.iload_n 1, 1) := by decide +kernel
theorem dX6_bestFires_1 : decode cX6_bestFires 1 = .ok (.iconst 1, 1) := by decide +kernel
theorem dX6_bestFires_2 : decode cX6_bestFires 2 = .ok (.bipush 100, 2) := by decide +kernel
theorem dX6_bestFires_4 : decode cX6_bestFires 4 = .ok (.invokestatic 157, 3) := by decide +kernel
theorem dX6_bestFires_7 : decode cX6_bestFires 7 = .ok (.ifCond .ne 6, 3) := by decide +kernel
theorem dX6_bestFires_10 : decode cX6_bestFires 10 = .ok (.bipush (-2), 2) := by decide +kernel
theorem dX6_bestFires_12 : decode cX6_bestFires 12 = .ok (.ireturn, 1) := by decide +kernel
theorem dX6_bestFires_13 : decode cX6_bestFires 13 = .ok (.bipush (-5), 2) := by decide +kernel
theorem dX6_bestFires_15 : decode cX6_bestFires 15 = .ok (.istore_n 2, 1) := by decide +kernel
theorem dX6_bestFires_16 : decode cX6_bestFires 16 = .ok (.iconst 0, 1) := by decide +kernel
theorem dX6_bestFires_17 : decode cX6_bestFires 17 = .ok (.istore_n 3, 1) := by decide +kernel
theorem dX6_bestFires_18 : decode cX6_bestFires 18 = .ok (.iconst 0, 1) := by decide +kernel
theorem dX6_bestFires_19 : decode cX6_bestFires 19 = .ok (.istore 4, 2) := by decide +kernel
theorem dX6_bestFires_21 : decode cX6_bestFires 21 = .ok (.iconst 0, 1) := by decide +kernel
theorem dX6_bestFires_22 : decode cX6_bestFires 22 = .ok (.istore 5, 2) := by decide +kernel
theorem dX6_bestFires_24 : decode cX6_bestFires 24 = .ok (.iload 5, 2) := by decide +kernel
theorem dX6_bestFires_26 : decode cX6_bestFires 26 = .ok (.iconst 5, 1) := by decide +kernel
theorem dX6_bestFires_27 : decode cX6_bestFires 27 = .ok (.if_icmp .gt 111, 3) := by decide +kernel
theorem dX6_bestFires_30 : decode cX6_bestFires 30 = .ok (.iconst 0, 1) := by decide +kernel
theorem dX6_bestFires_31 : decode cX6_bestFires 31 = .ok (.istore 6, 2) := by decide +kernel
theorem dX6_bestFires_33 : decode cX6_bestFires 33 = .ok (.iload 6, 2) := by decide +kernel
theorem dX6_bestFires_35 : decode cX6_bestFires 35 = .ok (.iconst 5, 1) := by decide +kernel
theorem dX6_bestFires_36 : decode cX6_bestFires 36 = .ok (.if_icmp .gt 96, 3) := by decide +kernel
theorem dX6_bestFires_39 : decode cX6_bestFires 39 = .ok (.aload_n 0, 1) := by decide +kernel
theorem dX6_bestFires_40 : decode cX6_bestFires 40 = .ok (.iload 5, 2) := by decide +kernel
theorem dX6_bestFires_42 : decode cX6_bestFires 42 = .ok (.iload 6, 2) := by decide +kernel
theorem dX6_bestFires_44 : decode cX6_bestFires 44 = .ok (.iload_n 1, 1) := by decide +kernel
theorem dX6_bestFires_45 : decode cX6_bestFires 45 = .ok (.invokevirtual 171, 3) := by decide +kernel
theorem dX6_bestFires_48 : decode cX6_bestFires 48 = .ok (.aload_n 0, 1) := by decide +kernel
theorem dX6_bestFires_49 : decode cX6_bestFires 49 = .ok (.getfield 19, 3) := by decide +kernel
theorem dX6_bestFires_52 : decode cX6_bestFires 52 = .ok (.getfield 175, 3) := by decide +kernel
theorem dX6_bestFires_55 : decode cX6_bestFires 55 = .ok (.iload_n 3, 1) := by decide +kernel
theorem dX6_bestFires_56 : decode cX6_bestFires 56 = .ok (.if_icmp .ne 19, 3) := by decide +kernel
theorem dX6_bestFires_59 : decode cX6_bestFires 59 = .ok (.aload_n 0, 1) := by decide +kernel
theorem dX6_bestFires_60 : decode cX6_bestFires 60 = .ok (.getfield 19, 3) := by decide +kernel
theorem dX6_bestFires_63 : decode cX6_bestFires 63 = .ok (.getfield 181, 3) := by decide +kernel
theorem dX6_bestFires_66 : decode cX6_bestFires 66 = .ok (.iload 4, 2) := by decide +kernel
theorem dX6_bestFires_68 : decode cX6_bestFires 68 = .ok (.if_icmp .ge 7, 3) := by decide +kernel
theorem dX6_bestFires_71 : decode cX6_bestFires 71 = .ok (.iconst 1, 1) := by decide +kernel
theorem dX6_bestFires_72 : decode cX6_bestFires 72 = .ok (.goto 4, 3) := by decide +kernel
theorem dX6_bestFires_75 : decode cX6_bestFires 75 = .ok (.iconst 0, 1) := by decide +kernel
theorem dX6_bestFires_76 : decode cX6_bestFires 76 = .ok (.istore 7, 2) := by decide +kernel
theorem dX6_bestFires_78 : decode cX6_bestFires 78 = .ok (.iload_n 2, 1) := by decide +kernel
theorem dX6_bestFires_79 : decode cX6_bestFires 79 = .ok (.bipush (-5), 2) := by decide +kernel
theorem dX6_bestFires_81 : decode cX6_bestFires 81 = .ok (.if_icmp .eq 19, 3) := by decide +kernel
theorem dX6_bestFires_84 : decode cX6_bestFires 84 = .ok (.aload_n 0, 1) := by decide +kernel
theorem dX6_bestFires_85 : decode cX6_bestFires 85 = .ok (.getfield 19, 3) := by decide +kernel
theorem dX6_bestFires_88 : decode cX6_bestFires 88 = .ok (.getfield 175, 3) := by decide +kernel
theorem dX6_bestFires_91 : decode cX6_bestFires 91 = .ok (.iload_n 3, 1) := by decide +kernel
theorem dX6_bestFires_92 : decode cX6_bestFires 92 = .ok (.if_icmp .gt 8, 3) := by decide +kernel
theorem dX6_bestFires_95 : decode cX6_bestFires 95 = .ok (.iload 7, 2) := by decide +kernel
theorem dX6_bestFires_97 : decode cX6_bestFires 97 = .ok (.ifCond .eq 29, 3) := by decide +kernel
theorem dX6_bestFires_100 : decode cX6_bestFires 100 = .ok (.bipush 10, 2) := by decide +kernel
theorem dX6_bestFires_102 : decode cX6_bestFires 102 = .ok (.iload 5, 2) := by decide +kernel
theorem dX6_bestFires_104 : decode cX6_bestFires 104 = .ok (.imul, 1) := by decide +kernel
theorem dX6_bestFires_105 : decode cX6_bestFires 105 = .ok (.iload 6, 2) := by decide +kernel
theorem dX6_bestFires_107 : decode cX6_bestFires 107 = .ok (.iadd, 1) := by decide +kernel
theorem dX6_bestFires_108 : decode cX6_bestFires 108 = .ok (.istore_n 2, 1) := by decide +kernel
theorem dX6_bestFires_109 : decode cX6_bestFires 109 = .ok (.aload_n 0, 1) := by decide +kernel
theorem dX6_bestFires_110 : decode cX6_bestFires 110 = .ok (.getfield 19, 3) := by decide +kernel
theorem dX6_bestFires_113 : decode cX6_bestFires 113 = .ok (.getfield 175, 3) := by decide +kernel
theorem dX6_bestFires_116 : decode cX6_bestFires 116 = .ok (.istore_n 3, 1) := by decide +kernel
theorem dX6_bestFires_117 : decode cX6_bestFires 117 = .ok (.aload_n 0, 1) := by decide +kernel
theorem dX6_bestFires_118 : decode cX6_bestFires 118 = .ok (.getfield 19, 3) := by decide +kernel
theorem dX6_bestFires_121 : decode cX6_bestFires 121 = .ok (.getfield 181, 3) := by decide +kernel
theorem dX6_bestFires_124 : decode cX6_bestFires 124 = .ok (.istore 4, 2) := by decide +kernel
theorem dX6_bestFires_126 : decode cX6_bestFires 126 = .ok (.iinc 6 1, 3) := by decide +kernel
theorem dX6_bestFires_129 : decode cX6_bestFires 129 = .ok (.goto (-96), 3) := by decide +kernel
theorem dX6_bestFires_132 : decode cX6_bestFires 132 = .ok (.iinc 5 1, 3) := by decide +kernel
theorem dX6_bestFires_135 : decode cX6_bestFires 135 = .ok (.goto (-111), 3) := by decide +kernel
theorem dX6_bestFires_138 : decode cX6_bestFires 138 = .ok (.iload_n 2, 1) := by decide +kernel
theorem dX6_bestFires_139 : decode cX6_bestFires 139 = .ok (.ireturn, 1) := by decide +kernel
set_option maxRecDepth 20000 in
theorem ggX6_count_X2_account : GoodIn wsX6_count wsX2_account := goodIn_r _ [10, 11, 12, 13, 14, 15, 16, 17, 18, 19, 20, 21, 22, 23, 24, 25, 26, 9, 27, 28, 29, 30, 31, 32, 33, 34, 35, 36, 37, 38, 39, 40, 59, 60, 61, 62, 63, 64, 65, 66, 67, 68, 69, 70, 71, 72, 73, 74, 75, 76, 77, 78, 79, 80, 81, 82] (by decide +kernel) (by decide +kernel)
set_option maxRecDepth 20000 in
theorem gX6_count_X2_account : GoodIn wsX6_count (wsV RX6 193 RX2 yX2_account wsX2_account) := goodIn_app (goodIn_of _ (by decide +kernel)) ggX6_count_X2_account
theorem dX6_count_0 : decode cX6_count 0 = .ok (.iload_n 1, 1) := by decide +kernel
theorem dX6_count_1 : decode cX6_count 1 = .ok (.lookupswitch 43 #[(14, 27), (15, 35)], 27) := by decide +kernel
theorem dX6_count_28 : decode cX6_count 28 = .ok (.aload_n 0, 1) := by decide +kernel
theorem dX6_count_29 : decode cX6_count 29 = .ok (.getfield 31, 3) := by decide +kernel
theorem dX6_count_32 : decode cX6_count 32 = .ok (.getfield 187, 3) := by decide +kernel
theorem dX6_count_35 : decode cX6_count 35 = .ok (.ireturn, 1) := by decide +kernel
theorem dX6_count_36 : decode cX6_count 36 = .ok (.aload_n 0, 1) := by decide +kernel
theorem dX6_count_37 : decode cX6_count 37 = .ok (.getfield 38, 3) := by decide +kernel
theorem dX6_count_40 : decode cX6_count 40 = .ok (.getfield 190, 3) := by decide +kernel
theorem dX6_count_43 : decode cX6_count 43 = .ok (.ireturn, 1) := by decide +kernel
theorem dX6_count_44 : decode cX6_count 44 = .ok (.aload_n 0, 1) := by decide +kernel
theorem dX6_count_45 : decode cX6_count 45 = .ok (.getfield 10, 3) := by decide +kernel
theorem dX6_count_48 : decode cX6_count 48 = .ok (.iload_n 1, 1) := by decide +kernel
theorem dX6_count_49 : decode cX6_count 49 = .ok (.invokevirtual 193, 3) := by decide +kernel
theorem dX6_count_52 : decode cX6_count 52 = .ok (.ireturn, 1) := by decide +kernel
set_option maxRecDepth 20000 in
theorem ggX6_recorded_X1_push : GoodIn wsX6_recorded wsX1_push := goodIn_r _ [7, 8, 9, 10, 11, 12, 6, 13, 14, 15, 16, 17, 18, 19, 20, 21, 22, 23, 24, 25, 26, 27, 28, 29, 30, 31, 32, 33, 34, 35, 36, 37, 38, 39, 40, 41, 42, 43, 44, 45, 46, 47, 48, 49, 50, 51, 52, 53, 54, 55, 56, 57, 68, 69, 70, 71, 72, 73, 74, 75, 76, 77, 78, 79, 80, 81, 82, 83, 84, 85, 86, 87, 88, 89, 90, 91, 92, 93] (by decide +kernel) (by decide +kernel)
set_option maxRecDepth 20000 in
theorem gX6_recorded_X1_push : GoodIn wsX6_recorded (wsV RX6 196 RX1 yX1_push wsX1_push) := goodIn_app (goodIn_of _ (by decide +kernel)) ggX6_recorded_X1_push
theorem dX6_recorded_0 : decode cX6_recorded 0 = .ok (.iload_n 1, 1) := by decide +kernel
theorem dX6_recorded_1 : decode cX6_recorded 1 = .ok (.ifCond .lt 14, 3) := by decide +kernel
theorem dX6_recorded_4 : decode cX6_recorded 4 = .ok (.aload_n 0, 1) := by decide +kernel
theorem dX6_recorded_5 : decode cX6_recorded 5 = .ok (.getfield 31, 3) := by decide +kernel
theorem dX6_recorded_8 : decode cX6_recorded 8 = .ok (.aload_n 0, 1) := by decide +kernel
theorem dX6_recorded_9 : decode cX6_recorded 9 = .ok (.getfield 16, 3) := by decide +kernel
theorem dX6_recorded_12 : decode cX6_recorded 12 = .ok (.invokevirtual 196, 3) := by decide +kernel
theorem dX6_recorded_15 : decode cX6_recorded 15 = .ok (.iload_n 1, 1) := by decide +kernel
theorem dX6_recorded_16 : decode cX6_recorded 16 = .ok (.ireturn, 1) := by decide +kernel
set_option maxRecDepth 20000 in
theorem ggX6_obeyNextOrder_X4_readNextOrder : GoodIn wsX6_obeyNextOrder wsX4_readNextOrder := goodIn_r _ [11, 12, 13, 14, 10, 15, 16, 17, 18, 19, 20, 21, 22, 23, 24, 25, 26, 27, 28, 29, 30, 31, 32, 33, 34, 35, 36, 37, 38, 39, 40, 41, 42, 43, 44, 218, 219, 220, 221, 222, 223] (by decide +kernel) (by decide +kernel)
set_option maxRecDepth 20000 in
theorem gX6_obeyNextOrder_X4_readNextOrder : GoodIn wsX6_obeyNextOrder (wsV RX6 199 RX4 yX4_readNextOrder wsX4_readNextOrder) := goodIn_app (goodIn_of _ (by decide +kernel)) ggX6_obeyNextOrder_X4_readNextOrder
set_option maxRecDepth 20000 in
theorem ggX6_obeyNextOrder_X2_changeFire : GoodIn wsX6_obeyNextOrder wsX2_changeFire := goodIn_r _ [49, 50, 51, 52, 53, 54, 48, 55, 56, 42, 43, 44, 224, 225, 226, 227, 228, 229, 230, 231, 232, 233, 234, 235, 236, 237, 238, 239, 240, 241, 242] (by decide +kernel) (by decide +kernel)
set_option maxRecDepth 20000 in
theorem gX6_obeyNextOrder_X2_changeFire : GoodIn wsX6_obeyNextOrder (wsV RX6 57 RX2 yX2_changeFire wsX2_changeFire) := goodIn_app (goodIn_of _ (by decide +kernel)) ggX6_obeyNextOrder_X2_changeFire
set_option maxRecDepth 20000 in
theorem ggX6_obeyNextOrder_X2_letWaterIn : GoodIn wsX6_obeyNextOrder wsX2_letWaterIn := goodIn_r _ [60, 61, 52, 53, 54, 48, 55, 56, 42, 43, 44, 224, 225, 226, 227, 228, 229, 230, 231, 232, 233, 234, 235, 236, 237, 238, 239, 240, 241, 242] (by decide +kernel) (by decide +kernel)
set_option maxRecDepth 20000 in
theorem gX6_obeyNextOrder_X2_letWaterIn : GoodIn wsX6_obeyNextOrder (wsV RX6 65 RX2 yX2_letWaterIn wsX2_letWaterIn) := goodIn_app (goodIn_of _ (by decide +kernel)) ggX6_obeyNextOrder_X2_letWaterIn
set_option maxRecDepth 20000 in
theorem ggX6_obeyNextOrder_X2_startLoad : GoodIn wsX6_obeyNextOrder wsX2_startLoad := goodIn_r _ [65, 66, 67, 68, 69, 70, 48, 71, 72, 42, 43, 44, 73, 74, 75, 76, 77, 78, 79, 80, 81, 82, 83, 84, 85, 86, 87, 88, 89, 90, 56, 91, 92, 93, 94, 95, 96, 97, 98, 99, 100, 101, 102, 103, 104, 105, 106, 107, 108, 109, 110, 111, 112, 113, 114, 115, 116, 117, 118, 119, 120, 121, 122, 123, 124, 125, 126, 127, 128, 129, 130, 131, 132, 133, 134, 135, 136, 137, 138, 139, 140, 141, 142, 143, 144, 145, 146, 147, 148, 149, 150, 151, 152, 153, 154, 155, 156, 157, 158, 159, 160, 161, 162, 163, 164, 165, 166, 167, 168, 169, 170, 171, 172, 173, 174, 175, 176, 177, 178, 179, 180, 181, 229, 230, 231, 232, 233, 234, 235, 236, 237, 238, 239, 240, 241, 242, 243, 244, 245, 224, 225, 226, 227, 228, 246, 247] (by decide +kernel) (by decide +kernel)
set_option maxRecDepth 20000 in
theorem gX6_obeyNextOrder_X2_startLoad : GoodIn wsX6_obeyNextOrder (wsV RX6 71 RX2 yX2_startLoad wsX2_startLoad) := goodIn_app (goodIn_of _ (by decide +kernel)) ggX6_obeyNextOrder_X2_startLoad
set_option maxRecDepth 20000 in
theorem ggX6_obeyNextOrder_X2_addToLine : GoodIn wsX6_obeyNextOrder wsX2_addToLine := goodIn_r _ [185, 96, 42, 43, 44, 186, 187, 188, 126, 189, 128, 129, 229, 230, 231, 232, 233, 234, 235, 236, 237, 238, 239, 240, 241, 242, 246, 247] (by decide +kernel) (by decide +kernel)
set_option maxRecDepth 20000 in
theorem gX6_obeyNextOrder_X2_addToLine : GoodIn wsX6_obeyNextOrder (wsV RX6 75 RX2 yX2_addToLine wsX2_addToLine) := goodIn_app (goodIn_of _ (by decide +kernel)) ggX6_obeyNextOrder_X2_addToLine
set_option maxRecDepth 20000 in
theorem ggX6_obeyNextOrder_X2_letPass : GoodIn wsX6_obeyNextOrder wsX2_letPass := goodIn_r _ [193, 97, 194, 98, 42, 43, 44, 195, 196, 197, 48, 198, 96, 66, 136, 137, 138, 139, 56, 101, 100, 140, 141, 142, 143, 102, 144, 145, 146, 147, 103, 148, 149, 150, 110, 151, 115, 112, 113, 114, 152, 153, 154, 155, 72, 156, 157, 158, 87, 88, 89, 90, 91, 159, 160, 161, 162, 106, 163, 99, 73, 74, 75, 76, 77, 78, 164, 165, 166, 167, 121, 122, 168, 169, 170, 171, 172, 173, 174, 175, 67, 105, 176, 177, 178, 179, 180, 181, 116, 199, 200, 201, 126, 202, 128, 129, 79, 80, 81, 82, 83, 84, 85, 86, 92, 93, 94, 95, 104, 107, 108, 109, 111, 117, 118, 119, 120, 123, 124, 125, 127, 130, 131, 132, 133, 134, 135, 203, 204, 205, 206, 207, 229, 230, 231, 232, 233, 234, 235, 236, 237, 238, 239, 240, 241, 242, 224, 225, 226, 227, 228, 243, 244, 245, 246, 247] (by decide +kernel) (by decide +kernel)
set_option maxRecDepth 20000 in
theorem gX6_obeyNextOrder_X2_letPass : GoodIn wsX6_obeyNextOrder (wsV RX6 84 RX2 yX2_letPass wsX2_letPass) := goodIn_app (goodIn_of _ (by decide +kernel)) ggX6_obeyNextOrder_X2_letPass
theorem dX6_obeyNextOrder_0 : decode cX6_obeyNextOrder 0 = .ok (.aload_n 0, 1) := by decide +kernel
theorem dX6_obeyNextOrder_1 : decode cX6_obeyNextOrder 1 = .ok (.getfield 38, 3) := by decide +kernel
theorem dX6_obeyNextOrder_4 : decode cX6_obeyNextOrder 4 = .ok (.invokevirtual 199, 3) := by decide +kernel
theorem dX6_obeyNextOrder_7 : decode cX6_obeyNextOrder 7 = .ok (.aload_n 0, 1) := by decide +kernel
theorem dX6_obeyNextOrder_8 : decode cX6_obeyNextOrder 8 = .ok (.getfield 38, 3) := by decide +kernel
theorem dX6_obeyNextOrder_11 : decode cX6_obeyNextOrder 11 = .ok (.getfield 202, 3) := by decide +kernel
theorem dX6_obeyNextOrder_14 : decode cX6_obeyNextOrder 14 = .ok (.lookupswitch 127 #[(102, 42), (108, 112), (109, 86), (119, 64)], 42) := by decide +kernel
theorem dX6_obeyNextOrder_56 : decode cX6_obeyNextOrder 56 = .ok (.aload_n 0, 1) := by decide +kernel
theorem dX6_obeyNextOrder_57 : decode cX6_obeyNextOrder 57 = .ok (.getfield 10, 3) := by decide +kernel
theorem dX6_obeyNextOrder_60 : decode cX6_obeyNextOrder 60 = .ok (.aload_n 0, 1) := by decide +kernel
theorem dX6_obeyNextOrder_61 : decode cX6_obeyNextOrder 61 = .ok (.getfield 38, 3) := by decide +kernel
theorem dX6_obeyNextOrder_64 : decode cX6_obeyNextOrder 64 = .ok (.getfield 205, 3) := by decide +kernel
theorem dX6_obeyNextOrder_67 : decode cX6_obeyNextOrder 67 = .ok (.aload_n 0, 1) := by decide +kernel
theorem dX6_obeyNextOrder_68 : decode cX6_obeyNextOrder 68 = .ok (.getfield 38, 3) := by decide +kernel
theorem dX6_obeyNextOrder_71 : decode cX6_obeyNextOrder 71 = .ok (.getfield 208, 3) := by decide +kernel
theorem dX6_obeyNextOrder_74 : decode cX6_obeyNextOrder 74 = .ok (.invokevirtual 57, 3) := by decide +kernel
theorem dX6_obeyNextOrder_77 : decode cX6_obeyNextOrder 77 = .ok (.ireturn, 1) := by decide +kernel
theorem dX6_obeyNextOrder_78 : decode cX6_obeyNextOrder 78 = .ok (.aload_n 0, 1) := by decide +kernel
theorem dX6_obeyNextOrder_79 : decode cX6_obeyNextOrder 79 = .ok (.getfield 10, 3) := by decide +kernel
theorem dX6_obeyNextOrder_82 : decode cX6_obeyNextOrder 82 = .ok (.aload_n 0, 1) := by decide +kernel
theorem dX6_obeyNextOrder_83 : decode cX6_obeyNextOrder 83 = .ok (.getfield 38, 3) := by decide +kernel
theorem dX6_obeyNextOrder_86 : decode cX6_obeyNextOrder 86 = .ok (.getfield 205, 3) := by decide +kernel
theorem dX6_obeyNextOrder_89 : decode cX6_obeyNextOrder 89 = .ok (.aload_n 0, 1) := by decide +kernel
theorem dX6_obeyNextOrder_90 : decode cX6_obeyNextOrder 90 = .ok (.getfield 38, 3) := by decide +kernel
theorem dX6_obeyNextOrder_93 : decode cX6_obeyNextOrder 93 = .ok (.getfield 208, 3) := by decide +kernel
theorem dX6_obeyNextOrder_96 : decode cX6_obeyNextOrder 96 = .ok (.invokevirtual 65, 3) := by decide +kernel
theorem dX6_obeyNextOrder_99 : decode cX6_obeyNextOrder 99 = .ok (.ireturn, 1) := by decide +kernel
theorem dX6_obeyNextOrder_100 : decode cX6_obeyNextOrder 100 = .ok (.aload_n 0, 1) := by decide +kernel
theorem dX6_obeyNextOrder_101 : decode cX6_obeyNextOrder 101 = .ok (.getfield 10, 3) := by decide +kernel
theorem dX6_obeyNextOrder_104 : decode cX6_obeyNextOrder 104 = .ok (.aload_n 0, 1) := by decide +kernel
theorem dX6_obeyNextOrder_105 : decode cX6_obeyNextOrder 105 = .ok (.getfield 38, 3) := by decide +kernel
theorem dX6_obeyNextOrder_108 : decode cX6_obeyNextOrder 108 = .ok (.getfield 205, 3) := by decide +kernel
theorem dX6_obeyNextOrder_111 : decode cX6_obeyNextOrder 111 = .ok (.aload_n 0, 1) := by decide +kernel
theorem dX6_obeyNextOrder_112 : decode cX6_obeyNextOrder 112 = .ok (.getfield 38, 3) := by decide +kernel
theorem dX6_obeyNextOrder_115 : decode cX6_obeyNextOrder 115 = .ok (.getfield 208, 3) := by decide +kernel
theorem dX6_obeyNextOrder_118 : decode cX6_obeyNextOrder 118 = .ok (.aload_n 0, 1) := by decide +kernel
theorem dX6_obeyNextOrder_119 : decode cX6_obeyNextOrder 119 = .ok (.getfield 22, 3) := by decide +kernel
theorem dX6_obeyNextOrder_122 : decode cX6_obeyNextOrder 122 = .ok (.invokevirtual 71, 3) := by decide +kernel
theorem dX6_obeyNextOrder_125 : decode cX6_obeyNextOrder 125 = .ok (.ireturn, 1) := by decide +kernel
theorem dX6_obeyNextOrder_126 : decode cX6_obeyNextOrder 126 = .ok (.aload_n 0, 1) := by decide +kernel
theorem dX6_obeyNextOrder_127 : decode cX6_obeyNextOrder 127 = .ok (.getfield 10, 3) := by decide +kernel
theorem dX6_obeyNextOrder_130 : decode cX6_obeyNextOrder 130 = .ok (.aload_n 0, 1) := by decide +kernel
theorem dX6_obeyNextOrder_131 : decode cX6_obeyNextOrder 131 = .ok (.getfield 38, 3) := by decide +kernel
theorem dX6_obeyNextOrder_134 : decode cX6_obeyNextOrder 134 = .ok (.getfield 208, 3) := by decide +kernel
theorem dX6_obeyNextOrder_137 : decode cX6_obeyNextOrder 137 = .ok (.invokevirtual 75, 3) := by decide +kernel
theorem dX6_obeyNextOrder_140 : decode cX6_obeyNextOrder 140 = .ok (.ireturn, 1) := by decide +kernel
theorem dX6_obeyNextOrder_141 : decode cX6_obeyNextOrder 141 = .ok (.aload_n 0, 1) := by decide +kernel
theorem dX6_obeyNextOrder_142 : decode cX6_obeyNextOrder 142 = .ok (.getfield 10, 3) := by decide +kernel
theorem dX6_obeyNextOrder_145 : decode cX6_obeyNextOrder 145 = .ok (.aload_n 0, 1) := by decide +kernel
theorem dX6_obeyNextOrder_146 : decode cX6_obeyNextOrder 146 = .ok (.getfield 38, 3) := by decide +kernel
theorem dX6_obeyNextOrder_149 : decode cX6_obeyNextOrder 149 = .ok (.getfield 208, 3) := by decide +kernel
theorem dX6_obeyNextOrder_152 : decode cX6_obeyNextOrder 152 = .ok (.aload_n 0, 1) := by decide +kernel
theorem dX6_obeyNextOrder_153 : decode cX6_obeyNextOrder 153 = .ok (.getfield 22, 3) := by decide +kernel
theorem dX6_obeyNextOrder_156 : decode cX6_obeyNextOrder 156 = .ok (.invokevirtual 84, 3) := by decide +kernel
theorem dX6_obeyNextOrder_159 : decode cX6_obeyNextOrder 159 = .ok (.ireturn, 1) := by decide +kernel
set_option maxRecDepth 20000 in
theorem ggX6_lookAhead_X2_copyFrom : GoodIn wsX6_lookAhead wsX2_copyFrom := goodIn_r _ [8, 9, 10, 11, 12, 13, 14, 15, 16, 17, 18, 19, 20, 21, 22, 23, 24, 25, 26, 27, 28, 29, 30, 31, 32, 33, 34, 35, 36, 37, 38, 39, 40, 41, 42, 43, 44, 45, 46, 47, 152, 153, 154, 155, 156, 157, 158, 159, 160, 161, 162, 163, 164, 165, 166, 167, 168, 169, 170, 171, 172, 173, 174, 175] (by decide +kernel) (by decide +kernel)
set_option maxRecDepth 20000 in
theorem gX6_lookAhead_X2_copyFrom : GoodIn wsX6_lookAhead (wsV RX6 53 RX2 yX2_copyFrom wsX2_copyFrom) := goodIn_app (goodIn_of _ (by decide +kernel)) ggX6_lookAhead_X2_copyFrom
set_option maxRecDepth 20000 in
theorem ggX6_lookAhead_X2_lightFires : GoodIn wsX6_lookAhead wsX2_lightFires := goodIn_r _ [51, 52, 53, 54, 55, 7, 56, 9, 166, 167, 168, 169, 170, 152, 153, 154, 155, 156, 157, 158, 159, 160, 161, 162, 163, 164, 165] (by decide +kernel) (by decide +kernel)
set_option maxRecDepth 20000 in
theorem gX6_lookAhead_X2_lightFires : GoodIn wsX6_lookAhead (wsV RX6 211 RX2 yX2_lightFires wsX2_lightFires) := goodIn_app (goodIn_of _ (by decide +kernel)) ggX6_lookAhead_X2_lightFires
set_option maxRecDepth 20000 in
theorem ggX6_lookAhead_X2_passTick : GoodIn wsX6_lookAhead wsX2_passTick := goodIn_r _ [60, 11, 19, 61, 62, 63, 7, 64, 12, 9, 16, 15, 65, 66, 67, 68, 17, 69, 70, 71, 72, 18, 73, 74, 75, 26, 76, 31, 28, 29, 30, 77, 78, 79, 80, 10, 81, 82, 83, 84, 85, 86, 87, 88, 89, 90, 91, 92, 93, 22, 94, 14, 95, 96, 97, 36, 98, 38, 99, 100, 101, 102, 39, 40, 103, 104, 105, 106, 107, 108, 109, 110, 111, 13, 21, 112, 113, 114, 115, 116, 117, 32, 118, 119, 120, 44, 121, 46, 47, 122, 123, 124, 125, 126, 127, 128, 129, 130, 5, 6, 8, 20, 23, 24, 25, 27, 33, 34, 35, 37, 41, 42, 43, 45, 131, 132, 133, 134, 135, 136, 137, 138, 139, 140, 141, 152, 153, 154, 155, 156, 157, 158, 159, 160, 161, 162, 163, 164, 165, 166, 167, 168, 169, 170, 171, 172, 173, 174, 175] (by decide +kernel) (by decide +kernel)
set_option maxRecDepth 20000 in
theorem gX6_lookAhead_X2_passTick : GoodIn wsX6_lookAhead (wsV RX6 168 RX2 yX2_passTick wsX2_passTick) := goodIn_app (goodIn_of _ (by decide +kernel)) ggX6_lookAhead_X2_passTick
theorem dX6_lookAhead_0 : decode cX6_lookAhead 0 = .ok (.aload_n 0, 1) := by decide +kernel
theorem dX6_lookAhead_1 : decode cX6_lookAhead 1 = .ok (.getfield 19, 3) := by decide +kernel
theorem dX6_lookAhead_4 : decode cX6_lookAhead 4 = .ok (.aload_n 0, 1) := by decide +kernel
theorem dX6_lookAhead_5 : decode cX6_lookAhead 5 = .ok (.getfield 10, 3) := by decide +kernel
theorem dX6_lookAhead_8 : decode cX6_lookAhead 8 = .ok (.invokevirtual 53, 3) := by decide +kernel
theorem dX6_lookAhead_11 : decode cX6_lookAhead 11 = .ok (.aload_n 0, 1) := by decide +kernel
theorem dX6_lookAhead_12 : decode cX6_lookAhead 12 = .ok (.getfield 19, 3) := by decide +kernel
theorem dX6_lookAhead_15 : decode cX6_lookAhead 15 = .ok (.iload_n 1, 1) := by decide +kernel
theorem dX6_lookAhead_16 : decode cX6_lookAhead 16 = .ok (.iload_n 2, 1) := by decide +kernel
theorem dX6_lookAhead_17 : decode cX6_lookAhead 17 = .ok (.invokevirtual 211, 3) := by decide +kernel
theorem dX6_lookAhead_20 : decode cX6_lookAhead 20 = .ok (.iconst 0, 1) := by decide +kernel
theorem dX6_lookAhead_21 : decode cX6_lookAhead 21 = .ok (.istore 4, 2) := by decide +kernel
theorem dX6_lookAhead_23 : decode cX6_lookAhead 23 = .ok (.iload 4, 2) := by decide +kernel
theorem dX6_lookAhead_25 : decode cX6_lookAhead 25 = .ok (.iload_n 3, 1) := by decide +kernel
theorem dX6_lookAhead_26 : decode cX6_lookAhead 26 = .ok (.if_icmp .ge 20, 3) := by decide +kernel
theorem dX6_lookAhead_29 : decode cX6_lookAhead 29 = .ok (.aload_n 0, 1) := by decide +kernel
theorem dX6_lookAhead_30 : decode cX6_lookAhead 30 = .ok (.getfield 19, 3) := by decide +kernel
theorem dX6_lookAhead_33 : decode cX6_lookAhead 33 = .ok (.aload_n 0, 1) := by decide +kernel
theorem dX6_lookAhead_34 : decode cX6_lookAhead 34 = .ok (.getfield 22, 3) := by decide +kernel
theorem dX6_lookAhead_37 : decode cX6_lookAhead 37 = .ok (.invokevirtual 168, 3) := by decide +kernel
theorem dX6_lookAhead_40 : decode cX6_lookAhead 40 = .ok (.iinc 4 1, 3) := by decide +kernel
theorem dX6_lookAhead_43 : decode cX6_lookAhead 43 = .ok (.goto (-20), 3) := by decide +kernel
theorem dX6_lookAhead_46 : decode cX6_lookAhead 46 = .ok (.return_, 1) := by decide +kernel
theorem dX6_isWithin_0 : decode cX6_isWithin 0 = .ok (.iload_n 0, 1) := by decide +kernel
theorem dX6_isWithin_1 : decode cX6_isWithin 1 = .ok (.iload_n 1, 1) := by decide +kernel
theorem dX6_isWithin_2 : decode cX6_isWithin 2 = .ok (.if_icmp .lt 12, 3) := by decide +kernel
theorem dX6_isWithin_5 : decode cX6_isWithin 5 = .ok (.iload_n 0, 1) := by decide +kernel
theorem dX6_isWithin_6 : decode cX6_isWithin 6 = .ok (.iload_n 2, 1) := by decide +kernel
theorem dX6_isWithin_7 : decode cX6_isWithin 7 = .ok (.if_icmp .gt 7, 3) := by decide +kernel
theorem dX6_isWithin_10 : decode cX6_isWithin 10 = .ok (.iconst 1, 1) := by decide +kernel
theorem dX6_isWithin_11 : decode cX6_isWithin 11 = .ok (.goto 4, 3) := by decide +kernel
theorem dX6_isWithin_14 : decode cX6_isWithin 14 = .ok (.iconst 0, 1) := by decide +kernel
theorem dX6_isWithin_15 : decode cX6_isWithin 15 = .ok (.ireturn, 1) := by decide +kernel
theorem dX6_ticksOf_0 : decode cX6_ticksOf 0 = .ok (.iload_n 0, 1) := by decide +kernel
theorem dX6_ticksOf_1 : decode cX6_ticksOf 1 = .ok (.tableswitch 35 0 2 #[27, 29, 32], 27) := by decide +kernel
theorem dX6_ticksOf_28 : decode cX6_ticksOf 28 = .ok (.iconst 4, 1) := by decide +kernel
theorem dX6_ticksOf_29 : decode cX6_ticksOf 29 = .ok (.ireturn, 1) := by decide +kernel
theorem dX6_ticksOf_30 : decode cX6_ticksOf 30 = .ok (.bipush 6, 2) := by decide +kernel
theorem dX6_ticksOf_32 : decode cX6_ticksOf 32 = .ok (.ireturn, 1) := by decide +kernel
theorem dX6_ticksOf_33 : decode cX6_ticksOf 33 = .ok (.bipush 9, 2) := by decide +kernel
theorem dX6_ticksOf_35 : decode cX6_ticksOf 35 = .ok (.ireturn, 1) := by decide +kernel
theorem dX6_ticksOf_36 : decode cX6_ticksOf 36 = .ok (.iconst 0, 1) := by decide +kernel
theorem dX6_ticksOf_37 : decode cX6_ticksOf 37 = .ok (.ireturn, 1) := by decide +kernel
theorem dX6_steamOf_0 : decode cX6_steamOf 0 = .ok (.iload_n 0, 1) := by decide +kernel
theorem dX6_steamOf_1 : decode cX6_steamOf 1 = .ok (.tableswitch 34 0 2 #[27, 29, 31], 27) := by decide +kernel
theorem dX6_steamOf_28 : decode cX6_steamOf 28 = .ok (.iconst 2, 1) := by decide +kernel
theorem dX6_steamOf_29 : decode cX6_steamOf 29 = .ok (.ireturn, 1) := by decide +kernel
theorem dX6_steamOf_30 : decode cX6_steamOf 30 = .ok (.iconst 4, 1) := by decide +kernel
theorem dX6_steamOf_31 : decode cX6_steamOf 31 = .ok (.ireturn, 1) := by decide +kernel
theorem dX6_steamOf_32 : decode cX6_steamOf 32 = .ok (.bipush 6, 2) := by decide +kernel
theorem dX6_steamOf_34 : decode cX6_steamOf 34 = .ok (.ireturn, 1) := by decide +kernel
theorem dX6_steamOf_35 : decode cX6_steamOf 35 = .ok (.iconst 0, 1) := by decide +kernel
theorem dX6_steamOf_36 : decode cX6_steamOf 36 = .ok (.ireturn, 1) := by decide +kernel
theorem dX6_worthOf_0 : decode cX6_worthOf 0 = .ok (.iload_n 0, 1) := by decide +kernel
theorem dX6_worthOf_1 : decode cX6_worthOf 1 = .ok (.tableswitch 34 0 2 #[27, 29, 31], 27) := by decide +kernel
theorem dX6_worthOf_28 : decode cX6_worthOf 28 = .ok (.iconst 3, 1) := by decide +kernel
theorem dX6_worthOf_29 : decode cX6_worthOf 29 = .ok (.ireturn, 1) := by decide +kernel
theorem dX6_worthOf_30 : decode cX6_worthOf 30 = .ok (.iconst 5, 1) := by decide +kernel
theorem dX6_worthOf_31 : decode cX6_worthOf 31 = .ok (.ireturn, 1) := by decide +kernel
theorem dX6_worthOf_32 : decode cX6_worthOf 32 = .ok (.bipush 9, 2) := by decide +kernel
theorem dX6_worthOf_34 : decode cX6_worthOf 34 = .ok (.ireturn, 1) := by decide +kernel
theorem dX6_worthOf_35 : decode cX6_worthOf 35 = .ok (.iconst 0, 1) := by decide +kernel
theorem dX6_worthOf_36 : decode cX6_worthOf 36 = .ok (.ireturn, 1) := by decide +kernel