theorem dX0_init_0 : decode cX0_init 0 = .ok (.aload_n 0, 1) := by decide +kernel
theorem dX0_init_1 : decode cX0_init 1 = .ok (.invokespecial 3, 3) := by decide +kernel
theorem dX0_init_4 : decode cX0_init 4 = .ok (.aload_n 0, 1) := by decide +kernel
theorem dX0_init_5 : decode cX0_init 5 = .ok (.bipush 100, 2) := by decide +kernel
theorem dX0_init_7 : decode cX0_init 7 = .ok (.putfield 9, 3) := by decide +kernel
theorem dX0_init_10 : decode cX0_init 10 = .ok (.return_, 1) := by decide +kernel
theorem dX0_copyFrom_0 : decode cX0_copyFrom 0 = .ok (.aload_n 0, 1) := by decide +kernel
theorem dX0_copyFrom_1 : decode cX0_copyFrom 1 = .ok (.aload_n 1, 1) := by decide +kernel
theorem dX0_copyFrom_2 : decode cX0_copyFrom 2 = .ok (.getfield 15, 3) := by decide +kernel
theorem dX0_copyFrom_5 : decode cX0_copyFrom 5 = .ok (.putfield 15, 3) := by decide +kernel
theorem dX0_copyFrom_8 : decode cX0_copyFrom 8 = .ok (.aload_n 0, 1) := by decide +kernel
theorem dX0_copyFrom_9 : decode cX0_copyFrom 9 = .ok (.aload_n 1, 1) := by decide +kernel
theorem dX0_copyFrom_10 : decode cX0_copyFrom 10 = .ok (.getfield 9, 3) := by decide +kernel
theorem dX0_copyFrom_13 : decode cX0_copyFrom 13 = .ok (.putfield 9, 3) := by decide +kernel
theorem dX0_copyFrom_16 : decode cX0_copyFrom 16 = .ok (.aload_n 0, 1) := by decide +kernel
theorem dX0_copyFrom_17 : decode cX0_copyFrom 17 = .ok (.aload_n 1, 1) := by decide +kernel
theorem dX0_copyFrom_18 : decode cX0_copyFrom 18 = .ok (.getfield 18, 3) := by decide +kernel
theorem dX0_copyFrom_21 : decode cX0_copyFrom 21 = .ok (.putfield 18, 3) := by decide +kernel
theorem dX0_copyFrom_24 : decode cX0_copyFrom 24 = .ok (.aload_n 0, 1) := by decide +kernel
theorem dX0_copyFrom_25 : decode cX0_copyFrom 25 = .ok (.aload_n 1, 1) := by decide +kernel
theorem dX0_copyFrom_26 : decode cX0_copyFrom 26 = .ok (.getfield 21, 3) := by decide +kernel
theorem dX0_copyFrom_29 : decode cX0_copyFrom 29 = .ok (.putfield 21, 3) := by decide +kernel
theorem dX0_copyFrom_32 : decode cX0_copyFrom 32 = .ok (.aload_n 0, 1) := by decide +kernel
theorem dX0_copyFrom_33 : decode cX0_copyFrom 33 = .ok (.aload_n 1, 1) := by decide +kernel
theorem dX0_copyFrom_34 : decode cX0_copyFrom 34 = .ok (.getfield 24, 3) := by decide +kernel
theorem dX0_copyFrom_37 : decode cX0_copyFrom 37 = .ok (.putfield 24, 3) := by decide +kernel
theorem dX0_copyFrom_40 : decode cX0_copyFrom 40 = .ok (.return_, 1) := by decide +kernel
theorem dX0_burn_0 : decode cX0_burn 0 = .ok (.aload_n 0, 1) := by decide +kernel
theorem dX0_burn_1 : decode cX0_burn 1 = .ok (.getfield 21, 3) := by decide +kernel
theorem dX0_burn_4 : decode cX0_burn 4 = .ok (.ifCond .le 15, 3) := by decide +kernel
theorem dX0_burn_7 : decode cX0_burn 7 = .ok (.aload_n 0, 1) := by decide +kernel
theorem dX0_burn_8 : decode cX0_burn 8 = .ok (.dup, 1) := by decide +kernel
theorem dX0_burn_9 : decode cX0_burn 9 = .ok (.getfield 21, 3) := by decide +kernel
theorem dX0_burn_12 : decode cX0_burn 12 = .ok (.iconst 1, 1) := by decide +kernel
theorem dX0_burn_13 : decode cX0_burn 13 = .ok (.isub, 1) := by decide +kernel
theorem dX0_burn_14 : decode cX0_burn 14 = .ok (.putfield 21, 3) := by decide +kernel
theorem dX0_burn_17 : decode cX0_burn 17 = .ok (.iconst 0, 1) := by decide +kernel
theorem dX0_burn_18 : decode cX0_burn 18 = .ok (.ireturn, 1) := by decide +kernel
theorem dX0_burn_19 : decode cX0_burn 19 = .ok (.iload_n 1, 1) := by decide +kernel
theorem dX0_burn_20 : decode cX0_burn 20 = .ok (.aload_n 0, 1) := by decide +kernel
theorem dX0_burn_21 : decode cX0_burn 21 = .ok (.getfield 15, 3) := by decide +kernel
theorem dX0_burn_24 : decode cX0_burn 24 = .ok (.if_icmp .lt 14, 3) := by decide +kernel
theorem dX0_burn_27 : decode cX0_burn 27 = .ok (.aload_n 0, 1) := by decide +kernel
theorem dX0_burn_28 : decode cX0_burn 28 = .ok (.getfield 9, 3) := by decide +kernel
theorem dX0_burn_31 : decode cX0_burn 31 = .ok (.aload_n 0, 1) := by decide +kernel
theorem dX0_burn_32 : decode cX0_burn 32 = .ok (.getfield 15, 3) := by decide +kernel
theorem dX0_burn_35 : decode cX0_burn 35 = .ok (.if_icmp .ge 10, 3) := by decide +kernel
theorem dX0_burn_38 : decode cX0_burn 38 = .ok (.aload_n 0, 1) := by decide +kernel
theorem dX0_burn_39 : decode cX0_burn 39 = .ok (.iconst 0, 1) := by decide +kernel
theorem dX0_burn_40 : decode cX0_burn 40 = .ok (.putfield 15, 3) := by decide +kernel
theorem dX0_burn_43 : decode cX0_burn 43 = .ok (.iconst 0, 1) := by decide +kernel
theorem dX0_burn_44 : decode cX0_burn 44 = .ok (.ireturn, 1) := by decide +kernel
theorem dX0_burn_45 : decode cX0_burn 45 = .ok (.aload_n 0, 1) := by decide +kernel
theorem dX0_burn_46 : decode cX0_burn 46 = .ok (.dup, 1) := by decide +kernel
theorem dX0_burn_47 : decode cX0_burn 47 = .ok (.getfield 9, 3) := by decide +kernel
theorem dX0_burn_50 : decode cX0_burn 50 = .ok (.aload_n 0, 1) := by decide +kernel
theorem dX0_burn_51 : decode cX0_burn 51 = .ok (.getfield 15, 3) := by decide +kernel
theorem dX0_burn_54 : decode cX0_burn 54 = .ok (.isub, 1) := by decide +kernel
theorem dX0_burn_55 : decode cX0_burn 55 = .ok (.putfield 9, 3) := by decide +kernel
theorem dX0_burn_58 : decode cX0_burn 58 = .ok (.aload_n 0, 1) := by decide +kernel
theorem dX0_burn_59 : decode cX0_burn 59 = .ok (.dup, 1) := by decide +kernel
theorem dX0_burn_60 : decode cX0_burn 60 = .ok (.getfield 18, 3) := by decide +kernel
theorem dX0_burn_63 : decode cX0_burn 63 = .ok (.iconst 3, 1) := by decide +kernel
theorem dX0_burn_64 : decode cX0_burn 64 = .ok (.aload_n 0, 1) := by decide +kernel
theorem dX0_burn_65 : decode cX0_burn 65 = .ok (.getfield 15, 3) := by decide +kernel
theorem dX0_burn_68 : decode cX0_burn 68 = .ok (.imul, 1) := by decide +kernel
theorem dX0_burn_69 : decode cX0_burn 69 = .ok (.iadd, 1) := by decide +kernel
theorem dX0_burn_70 : decode cX0_burn 70 = .ok (.putfield 18, 3) := by decide +kernel
theorem dX0_burn_73 : decode cX0_burn 73 = .ok (.aload_n 0, 1) := by decide +kernel
theorem dX0_burn_74 : decode cX0_burn 74 = .ok (.getfield 15, 3) := by decide +kernel
theorem dX0_burn_77 : decode cX0_burn 77 = .ok (.ireturn, 1) := by decide +kernel
theorem dX0_coolDown_0 : decode cX0_coolDown 0 = .ok (.aload_n 0, 1) := by decide +kernel
theorem dX0_coolDown_1 : decode cX0_coolDown 1 = .ok (.getfield 18, 3) := by decide +kernel
theorem dX0_coolDown_4 : decode cX0_coolDown 4 = .ok (.ifCond .le 13, 3) := by decide +kernel
theorem dX0_coolDown_7 : decode cX0_coolDown 7 = .ok (.aload_n 0, 1) := by decide +kernel
theorem dX0_coolDown_8 : decode cX0_coolDown 8 = .ok (.dup, 1) := by decide +kernel
theorem dX0_coolDown_9 : decode cX0_coolDown 9 = .ok (.getfield 18, 3) := by decide +kernel
theorem dX0_coolDown_12 : decode cX0_coolDown 12 = .ok (.iconst 1, 1) := by decide +kernel
theorem dX0_coolDown_13 : decode cX0_coolDown 13 = .ok (.isub, 1) := by decide +kernel
theorem dX0_coolDown_14 : decode cX0_coolDown 14 = .ok (.putfield 18, 3) := by decide +kernel
theorem dX0_coolDown_17 : decode cX0_coolDown 17 = .ok (.aload_n 0, 1) := by decide +kernel
theorem dX0_coolDown_18 : decode cX0_coolDown 18 = .ok (.getfield 18, 3) := by decide +kernel
theorem dX0_coolDown_21 : decode cX0_coolDown 21 = .ok (.bipush 70, 2) := by decide +kernel
theorem dX0_coolDown_23 : decode cX0_coolDown 23 = .ok (.if_icmp .le 30, 3) := by decide +kernel
theorem dX0_coolDown_26 : decode cX0_coolDown 26 = .ok (.aload_n 0, 1) := by decide +kernel
theorem dX0_coolDown_27 : decode cX0_coolDown 27 = .ok (.bipush 30, 2) := by decide +kernel
theorem dX0_coolDown_29 : decode cX0_coolDown 29 = .ok (.putfield 18, 3) := by decide +kernel
theorem dX0_coolDown_32 : decode cX0_coolDown 32 = .ok (.aload_n 0, 1) := by decide +kernel
theorem dX0_coolDown_33 : decode cX0_coolDown 33 = .ok (.iconst 0, 1) := by decide +kernel
theorem dX0_coolDown_34 : decode cX0_coolDown 34 = .ok (.putfield 15, 3) := by decide +kernel
theorem dX0_coolDown_37 : decode cX0_coolDown 37 = .ok (.aload_n 0, 1) := by decide +kernel
theorem dX0_coolDown_38 : decode cX0_coolDown 38 = .ok (.bipush 10, 2) := by decide +kernel
theorem dX0_coolDown_40 : decode cX0_coolDown 40 = .ok (.putfield 21, 3) := by decide +kernel
theorem dX0_coolDown_43 : decode cX0_coolDown 43 = .ok (.aload_n 0, 1) := by decide +kernel
theorem dX0_coolDown_44 : decode cX0_coolDown 44 = .ok (.dup, 1) := by decide +kernel
theorem dX0_coolDown_45 : decode cX0_coolDown 45 = .ok (.getfield 24, 3) := by decide +kernel
theorem dX0_coolDown_48 : decode cX0_coolDown 48 = .ok (.iconst 1, 1) := by decide +kernel
theorem dX0_coolDown_49 : decode cX0_coolDown 49 = .ok (.iadd, 1) := by decide +kernel
theorem dX0_coolDown_50 : decode cX0_coolDown 50 = .ok (.putfield 24, 3) := by decide +kernel
theorem dX0_coolDown_53 : decode cX0_coolDown 53 = .ok (.return_, 1) := by decide +kernel
set_option maxRecDepth 20000 in
theorem ggX1_init_X2_init : GoodIn wsX1_init wsX2_init := goodIn_r _ [10, 11, 2, 3, 12, 13, 14, 15, 16, 17, 18, 19, 20, 21, 22, 23, 24, 25, 26, 27, 28, 29, 30, 31, 32, 33, 34, 35, 36, 37, 38, 39, 40, 41, 58, 59, 60, 61, 62, 42, 43, 44, 45, 46, 47, 48, 49, 50, 51, 52, 53, 54, 55, 63, 64, 65, 66, 67] (by decide +kernel) (by decide +kernel)
set_option maxRecDepth 20000 in
theorem gX1_init_X2_init : GoodIn wsX1_init (wsX2_init) := ggX1_init_X2_init
theorem dX1_init_0 : decode cX1_init 0 = .ok (.aload_n 0, 1) := by decide +kernel
theorem dX1_init_1 : decode cX1_init 1 = .ok (.invokespecial 3, 3) := by decide +kernel
theorem dX1_init_4 : decode cX1_init 4 = .ok (.aload_n 0, 1) := by decide +kernel
theorem dX1_init_5 : decode cX1_init 5 = .ok (.iconst 4, 1) := by decide +kernel
theorem dX1_init_6 : decode cX1_init 6 = .ok (.anewarray 9, 3) := by decide +kernel
theorem dX1_init_9 : decode cX1_init 9 = .ok (.dup, 1) := by decide +kernel
theorem dX1_init_10 : decode cX1_init 10 = .ok (.iconst 0, 1) := by decide +kernel
theorem dX1_init_11 : decode cX1_init 11 = .ok (.new 9, 3) := by decide +kernel
theorem dX1_init_14 : decode cX1_init 14 = .ok (.dup, 1) := by decide +kernel
theorem dX1_init_15 : decode cX1_init 15 = .ok (.invokespecial 11, 3) := by decide +kernel
theorem dX1_init_18 : decode cX1_init 18 = .ok (.aastore, 1) := by decide +kernel
theorem dX1_init_19 : decode cX1_init 19 = .ok (.dup, 1) := by decide +kernel
theorem dX1_init_20 : decode cX1_init 20 = .ok (.iconst 1, 1) := by decide +kernel
theorem dX1_init_21 : decode cX1_init 21 = .ok (.new 9, 3) := by decide +kernel
theorem dX1_init_24 : decode cX1_init 24 = .ok (.dup, 1) := by decide +kernel
theorem dX1_init_25 : decode cX1_init 25 = .ok (.invokespecial 11, 3) := by decide +kernel
theorem dX1_init_28 : decode cX1_init 28 = .ok (.aastore, 1) := by decide +kernel
theorem dX1_init_29 : decode cX1_init 29 = .ok (.dup, 1) := by decide +kernel
theorem dX1_init_30 : decode cX1_init 30 = .ok (.iconst 2, 1) := by decide +kernel
theorem dX1_init_31 : decode cX1_init 31 = .ok (.new 9, 3) := by decide +kernel
theorem dX1_init_34 : decode cX1_init 34 = .ok (.dup, 1) := by decide +kernel
theorem dX1_init_35 : decode cX1_init 35 = .ok (.invokespecial 11, 3) := by decide +kernel
theorem dX1_init_38 : decode cX1_init 38 = .ok (.aastore, 1) := by decide +kernel
theorem dX1_init_39 : decode cX1_init 39 = .ok (.dup, 1) := by decide +kernel
theorem dX1_init_40 : decode cX1_init 40 = .ok (.iconst 3, 1) := by decide +kernel
theorem dX1_init_41 : decode cX1_init 41 = .ok (.new 9, 3) := by decide +kernel
theorem dX1_init_44 : decode cX1_init 44 = .ok (.dup, 1) := by decide +kernel
theorem dX1_init_45 : decode cX1_init 45 = .ok (.invokespecial 11, 3) := by decide +kernel
theorem dX1_init_48 : decode cX1_init 48 = .ok (.aastore, 1) := by decide +kernel
theorem dX1_init_49 : decode cX1_init 49 = .ok (.putfield 12, 3) := by decide +kernel
theorem dX1_init_52 : decode cX1_init 52 = .ok (.return_, 1) := by decide +kernel
set_option maxRecDepth 20000 in
theorem ggX1_push_X1_dropOldest : GoodIn wsX1_push wsX1_dropOldest := goodIn_r _ [7, 2, 1, 52, 53] (by decide +kernel) (by decide +kernel)
set_option maxRecDepth 20000 in
theorem gX1_push_X1_dropOldest : GoodIn wsX1_push (wsV RX1 22 RX1 yX1_dropOldest wsX1_dropOldest) := goodIn_app (goodIn_of _ (by decide +kernel)) ggX1_push_X1_dropOldest
set_option maxRecDepth 20000 in
theorem ggX1_push_X2_copyFrom : GoodIn wsX1_push wsX2_copyFrom := goodIn_r _ [12, 13, 14, 15, 16, 17, 18, 19, 20, 21, 22, 23, 24, 25, 26, 27, 28, 29, 30, 31, 32, 33, 34, 35, 36, 37, 38, 39, 40, 41, 42, 43, 44, 45, 46, 47, 48, 49, 50, 51, 54, 55, 56, 57, 58, 59, 60, 61, 62, 63, 64, 65, 66, 67, 68, 69, 70, 71, 72, 73, 74, 75, 76, 77] (by decide +kernel) (by decide +kernel)
set_option maxRecDepth 20000 in
theorem gX1_push_X2_copyFrom : GoodIn wsX1_push (wsV RX1 25 RX2 yX2_copyFrom wsX2_copyFrom) := goodIn_app (goodIn_of _ (by decide +kernel)) ggX1_push_X2_copyFrom
theorem dX1_push_0 : decode cX1_push 0 = .ok (.aload_n 0, 1) := by decide +kernel
theorem dX1_push_1 : decode cX1_push 1 = .ok (.getfield 18, 3) := by decide +kernel
theorem dX1_push_4 : decode cX1_push 4 = .ok (.aload_n 0, 1) := by decide +kernel
theorem dX1_push_5 : decode cX1_push 5 = .ok (.getfield 12, 3) := by decide +kernel
theorem dX1_push_8 : decode cX1_push 8 = .ok (.arraylength, 1) := by decide +kernel
theorem dX1_push_9 : decode cX1_push 9 = .ok (.if_icmp .lt 7, 3) := by decide +kernel
theorem dX1_push_12 : decode cX1_push 12 = .ok (.aload_n 0, 1) := by decide +kernel
theorem dX1_push_13 : decode cX1_push 13 = .ok (.invokevirtual 22, 3) := by decide +kernel
theorem dX1_push_16 : decode cX1_push 16 = .ok (.aload_n 0, 1) := by decide +kernel
theorem dX1_push_17 : decode cX1_push 17 = .ok (.getfield 18, 3) := by decide +kernel
theorem dX1_push_20 : decode cX1_push 20 = .ok (.ifCond .lt 38, 3) := by decide +kernel
theorem dX1_push_23 : decode cX1_push 23 = .ok (.aload_n 0, 1) := by decide +kernel
theorem dX1_push_24 : decode cX1_push 24 = .ok (.getfield 18, 3) := by decide +kernel
theorem dX1_push_27 : decode cX1_push 27 = .ok (.aload_n 0, 1) := by decide +kernel
theorem dX1_push_28 : decode cX1_push 28 = .ok (.getfield 12, 3) := by decide +kernel
theorem dX1_push_31 : decode cX1_push 31 = .ok (.arraylength, 1) := by decide +kernel
theorem dX1_push_32 : decode cX1_push 32 = .ok (.if_icmp .ge 26, 3) := by decide +kernel
theorem dX1_push_35 : decode cX1_push 35 = .ok (.aload_n 0, 1) := by decide +kernel
theorem dX1_push_36 : decode cX1_push 36 = .ok (.getfield 12, 3) := by decide +kernel
theorem dX1_push_39 : decode cX1_push 39 = .ok (.aload_n 0, 1) := by decide +kernel
theorem dX1_push_40 : decode cX1_push 40 = .ok (.getfield 18, 3) := by decide +kernel
theorem dX1_push_43 : decode cX1_push 43 = .ok (.aaload, 1) := by decide +kernel
theorem dX1_push_44 : decode cX1_push 44 = .ok (.aload_n 1, 1) := by decide +kernel
theorem dX1_push_45 : decode cX1_push 45 = .ok (.invokevirtual 25, 3) := by decide +kernel
theorem dX1_push_48 : decode cX1_push 48 = .ok (.aload_n 0, 1) := by decide +kernel
theorem dX1_push_49 : decode cX1_push 49 = .ok (.dup, 1) := by decide +kernel
theorem dX1_push_50 : decode cX1_push 50 = .ok (.getfield 18, 3) := by decide +kernel
theorem dX1_push_53 : decode cX1_push 53 = .ok (.iconst 1, 1) := by decide +kernel
theorem dX1_push_54 : decode cX1_push 54 = .ok (.iadd, 1) := by decide +kernel
theorem dX1_push_55 : decode cX1_push 55 = .ok (.putfield 18, 3) := by decide +kernel
theorem dX1_push_58 : decode cX1_push 58 = .ok (.return_, 1) := by decide +kernel
set_option maxRecDepth 20000 in
theorem ggX1_takeBack_X2_copyFrom : GoodIn wsX1_takeBack wsX2_copyFrom := goodIn_r _ [7, 8, 9, 10, 11, 12, 13, 14, 15, 16, 17, 18, 19, 20, 21, 22, 23, 24, 25, 26, 27, 28, 29, 30, 31, 32, 33, 34, 35, 36, 37, 38, 39, 40, 41, 42, 43, 44, 45, 46, 49, 50, 51, 52, 53, 54, 55, 56, 57, 58, 59, 60, 61, 62, 63, 64, 65, 66, 67, 68, 69, 70, 71, 72] (by decide +kernel) (by decide +kernel)
set_option maxRecDepth 20000 in
theorem gX1_takeBack_X2_copyFrom : GoodIn wsX1_takeBack (wsV RX1 25 RX2 yX2_copyFrom wsX2_copyFrom) := goodIn_app (goodIn_of _ (by decide +kernel)) ggX1_takeBack_X2_copyFrom
theorem dX1_takeBack_0 : decode cX1_takeBack 0 = .ok (.aload_n 0, 1) := by decide +kernel
theorem dX1_takeBack_1 : decode cX1_takeBack 1 = .ok (.getfield 18, 3) := by decide +kernel
theorem dX1_takeBack_4 : decode cX1_takeBack 4 = .ok (.iconst 1, 1) := by decide +kernel
theorem dX1_takeBack_5 : decode cX1_takeBack 5 = .ok (.if_icmp .lt 15, 3) := by decide +kernel
theorem dX1_takeBack_8 : decode cX1_takeBack 8 = .ok (.aload_n 0, 1) := by decide +kernel
theorem dX1_takeBack_9 : decode cX1_takeBack 9 = .ok (.getfield 18, 3) := by decide +kernel
theorem dX1_takeBack_12 : decode cX1_takeBack 12 = .ok (.aload_n 0, 1) := by decide +kernel
theorem dX1_takeBack_13 : decode cX1_takeBack 13 = .ok (.getfield 12, 3) := by decide +kernel
theorem dX1_takeBack_16 : decode cX1_takeBack 16 = .ok (.arraylength, 1) := by decide +kernel
theorem dX1_takeBack_17 : decode cX1_takeBack 17 = .ok (.if_icmp .le 6, 3) := by decide +kernel
theorem dX1_takeBack_20 : decode cX1_takeBack 20 = .ok (.bipush (-5), 2) := by decide +kernel
theorem dX1_takeBack_22 : decode cX1_takeBack 22 = .ok (.ireturn, 1) := by decide +kernel
theorem dX1_takeBack_23 : decode cX1_takeBack 23 = .ok (.aload_n 0, 1) := by decide +kernel
theorem dX1_takeBack_24 : decode cX1_takeBack 24 = .ok (.dup, 1) := by decide +kernel
theorem dX1_takeBack_25 : decode cX1_takeBack 25 = .ok (.getfield 18, 3) := by decide +kernel
theorem dX1_takeBack_28 : decode cX1_takeBack 28 = .ok (.iconst 1, 1) := by decide +kernel
theorem dX1_takeBack_29 : decode cX1_takeBack 29 = .ok (.isub, 1) := by decide +kernel
theorem dX1_takeBack_30 : decode cX1_takeBack 30 = .ok (.putfield 18, 3) := by decide +kernel
theorem dX1_takeBack_33 : decode cX1_takeBack 33 = .ok (.aload_n 1, 1) := by decide +kernel
theorem dX1_takeBack_34 : decode cX1_takeBack 34 = .ok (.aload_n 0, 1) := by decide +kernel
theorem dX1_takeBack_35 : decode cX1_takeBack 35 = .ok (.getfield 12, 3) := by decide +kernel
theorem dX1_takeBack_38 : decode cX1_takeBack 38 = .ok (.aload_n 0, 1) := by decide +kernel
theorem dX1_takeBack_39 : decode cX1_takeBack 39 = .ok (.getfield 18, 3) := by decide +kernel
theorem dX1_takeBack_42 : decode cX1_takeBack 42 = .ok (.aaload, 1) := by decide +kernel
theorem dX1_takeBack_43 : decode cX1_takeBack 43 = .ok (.invokevirtual 25, 3) := by decide +kernel
theorem dX1_takeBack_46 : decode cX1_takeBack 46 = .ok (.aload_n 0, 1) := by decide +kernel
theorem dX1_takeBack_47 : decode cX1_takeBack 47 = .ok (.getfield 18, 3) := by decide +kernel
theorem dX1_takeBack_50 : decode cX1_takeBack 50 = .ok (.ireturn, 1) := by decide +kernel
theorem dX1_dropOldest_0 : decode cX1_dropOldest 0 = .ok (.aload_n 0, 1) := by decide +kernel
theorem dX1_dropOldest_1 : decode cX1_dropOldest 1 = .ok (.getfield 12, 3) := by decide +kernel
theorem dX1_dropOldest_4 : decode cX1_dropOldest 4 = .ok (.arraylength, 1) := by decide +kernel
theorem dX1_dropOldest_5 : decode cX1_dropOldest 5 = .ok (.ifCond .ne 4, 3) := by decide +kernel
theorem dX1_dropOldest_8 : decode cX1_dropOldest 8 = .ok (.return_, 1) := by decide +kernel
theorem dX1_dropOldest_9 : decode cX1_dropOldest 9 = .ok (.aload_n 0, 1) := by decide +kernel
theorem dX1_dropOldest_10 : decode cX1_dropOldest 10 = .ok (.getfield 12, 3) := by decide +kernel
theorem dX1_dropOldest_13 : decode cX1_dropOldest 13 = .ok (.iconst 0, 1) := by decide +kernel
theorem dX1_dropOldest_14 : decode cX1_dropOldest 14 = .ok (.aaload, 1) := by decide +kernel
theorem dX1_dropOldest_15 : decode cX1_dropOldest 15 = .ok (.astore_n 1, 1) := by decide +kernel
theorem dX1_dropOldest_16 : decode cX1_dropOldest 16 = .ok (.iconst 1, 1) := by decide +kernel
theorem dX1_dropOldest_17 : decode cX1_dropOldest 17 = .ok (.istore_n 2, 1) := by decide +kernel
theorem dX1_dropOldest_18 : decode cX1_dropOldest 18 = .ok (.iload_n 2, 1) := by decide +kernel
theorem dX1_dropOldest_19 : decode cX1_dropOldest 19 = .ok (.aload_n 0, 1) := by decide +kernel
theorem dX1_dropOldest_20 : decode cX1_dropOldest 20 = .ok (.getfield 12, 3) := by decide +kernel
theorem dX1_dropOldest_23 : decode cX1_dropOldest 23 = .ok (.arraylength, 1) := by decide +kernel
theorem dX1_dropOldest_24 : decode cX1_dropOldest 24 = .ok (.if_icmp .ge 23, 3) := by decide +kernel
theorem dX1_dropOldest_27 : decode cX1_dropOldest 27 = .ok (.aload_n 0, 1) := by decide +kernel
theorem dX1_dropOldest_28 : decode cX1_dropOldest 28 = .ok (.getfield 12, 3) := by decide +kernel
theorem dX1_dropOldest_31 : decode cX1_dropOldest 31 = .ok (.iload_n 2, 1) := by decide +kernel
theorem dX1_dropOldest_32 : decode cX1_dropOldest 32 = .ok (.iconst 1, 1) := by decide +kernel
theorem dX1_dropOldest_33 : decode cX1_dropOldest 33 = .ok (.isub, 1) := by decide +kernel
theorem dX1_dropOldest_34 : decode cX1_dropOldest 34 = .ok (.aload_n 0, 1) := by decide +kernel
theorem dX1_dropOldest_35 : decode cX1_dropOldest 35 = .ok (.getfield 12, 3) := by decide +kernel
theorem dX1_dropOldest_38 : decode cX1_dropOldest 38 = .ok (.iload_n 2, 1) := by decide +kernel
theorem dX1_dropOldest_39 : decode cX1_dropOldest 39 = .ok (.aaload, 1) := by decide +kernel
theorem dX1_dropOldest_40 : decode cX1_dropOldest 40 = .ok (.aastore, 1) := by decide +kernel
theorem dX1_dropOldest_41 : decode cX1_dropOldest 41 = .ok (.iinc 2 1, 3) := by decide +kernel
theorem dX1_dropOldest_44 : decode cX1_dropOldest 44 = .ok (.goto (-26), 3) := by decide +kernel
theorem dX1_dropOldest_47 : decode cX1_dropOldest 47 = .ok (.aload_n 0, 1) := by decide +kernel
theorem dX1_dropOldest_48 : decode cX1_dropOldest 48 = .ok (.getfield 12, 3) := by decide +kernel
theorem dX1_dropOldest_51 : decode cX1_dropOldest 51 = .ok (.aload_n 0, 1) := by decide +kernel
theorem dX1_dropOldest_52 : decode cX1_dropOldest 52 = .ok (.getfield 12, 3) := by decide +kernel
theorem dX1_dropOldest_55 : decode cX1_dropOldest 55 = .ok (.arraylength, 1) := by decide +kernel
theorem dX1_dropOldest_56 : decode cX1_dropOldest 56 = .ok (.iconst 1, 1) := by decide +kernel
theorem dX1_dropOldest_57 : decode cX1_dropOldest 57 = .ok (.isub, 1) := by decide +kernel
theorem dX1_dropOldest_58 : decode cX1_dropOldest 58 = .ok (.aload_n 1, 1) := by decide +kernel
theorem dX1_dropOldest_59 : decode cX1_dropOldest 59 = .ok (.aastore, 1) := by decide +kernel
theorem dX1_dropOldest_60 : decode cX1_dropOldest 60 = .ok (.aload_n 0, 1) := by decide +kernel
theorem dX1_dropOldest_61 : decode cX1_dropOldest 61 = .ok (.dup, 1) := by decide +kernel
theorem dX1_dropOldest_62 : decode cX1_dropOldest 62 = .ok (.getfield 18, 3) := by decide +kernel
theorem dX1_dropOldest_65 : decode cX1_dropOldest 65 = .ok (.iconst 1, 1) := by decide +kernel
theorem dX1_dropOldest_66 : decode cX1_dropOldest 66 = .ok (.isub, 1) := by decide +kernel
theorem dX1_dropOldest_67 : decode cX1_dropOldest 67 = .ok (.putfield 18, 3) := by decide +kernel
theorem dX1_dropOldest_70 : decode cX1_dropOldest 70 = .ok (.return_, 1) := by decide +kernel
set_option maxRecDepth 20000 in
theorem ggX2_init_X0_init : GoodIn wsX2_init wsX0_init := goodIn_r _ [20, 21, 2, 3, 22, 34, 35, 36, 37, 38] (by decide +kernel) (by decide +kernel)
set_option maxRecDepth 20000 in
theorem gX2_init_X0_init : GoodIn wsX2_init (wsX0_init) := ggX2_init_X0_init
set_option maxRecDepth 20000 in
theorem ggX2_init_X3_init : GoodIn wsX2_init wsX3_init := goodIn_r _ [25, 26, 2, 3, 27, 53, 54, 55] (by decide +kernel) (by decide +kernel)
set_option maxRecDepth 20000 in
theorem gX2_init_X3_init : GoodIn wsX2_init (wsX3_init) := ggX2_init_X3_init
set_option maxRecDepth 20000 in
theorem ggX2_init_X5_init : GoodIn wsX2_init wsX5_init := goodIn_r _ [30, 31, 2, 3, 32, 33, 56, 57] (by decide +kernel) (by decide +kernel)
set_option maxRecDepth 20000 in
theorem gX2_init_X5_init : GoodIn wsX2_init (wsX5_init) := ggX2_init_X5_init
theorem dX2_init_0 : decode cX2_init 0 = .ok (.aload_n 0, 1) := by decide +kernel
theorem dX2_init_1 : decode cX2_init 1 = .ok (.invokespecial 3, 3) := by decide +kernel
theorem dX2_init_4 : decode cX2_init 4 = .ok (.aload_n 0, 1) := by decide +kernel
theorem dX2_init_5 : decode cX2_init 5 = .ok (.iconst 2, 1) := by decide +kernel
theorem dX2_init_6 : decode cX2_init 6 = .ok (.anewarray 9, 3) := by decide +kernel
theorem dX2_init_9 : decode cX2_init 9 = .ok (.dup, 1) := by decide +kernel
theorem dX2_init_10 : decode cX2_init 10 = .ok (.iconst 0, 1) := by decide +kernel
theorem dX2_init_11 : decode cX2_init 11 = .ok (.new 9, 3) := by decide +kernel
theorem dX2_init_14 : decode cX2_init 14 = .ok (.dup, 1) := by decide +kernel
theorem dX2_init_15 : decode cX2_init 15 = .ok (.invokespecial 11, 3) := by decide +kernel
theorem dX2_init_18 : decode cX2_init 18 = .ok (.aastore, 1) := by decide +kernel
theorem dX2_init_19 : decode cX2_init 19 = .ok (.dup, 1) := by decide +kernel
theorem dX2_init_20 : decode cX2_init 20 = .ok (.iconst 1, 1) := by decide +kernel
theorem dX2_init_21 : decode cX2_init 21 = .ok (.new 9, 3) := by decide +kernel
theorem dX2_init_24 : decode cX2_init 24 = .ok (.dup, 1) := by decide +kernel
theorem dX2_init_25 : decode cX2_init 25 = .ok (.invokespecial 11, 3) := by decide +kernel
theorem dX2_init_28 : decode cX2_init 28 = .ok (.aastore, 1) := by decide +kernel
theorem dX2_init_29 : decode cX2_init 29 = .ok (.putfield 12, 3) := by decide +kernel
theorem dX2_init_32 : decode cX2_init 32 = .ok (.aload_n 0, 1) := by decide +kernel
theorem dX2_init_33 : decode cX2_init 33 = .ok (.iconst 4, 1) := by decide +kernel
theorem dX2_init_34 : decode cX2_init 34 = .ok (.anewarray 18, 3) := by decide +kernel
theorem dX2_init_37 : decode cX2_init 37 = .ok (.dup, 1) := by decide +kernel
theorem dX2_init_38 : decode cX2_init 38 = .ok (.iconst 0, 1) := by decide +kernel
theorem dX2_init_39 : decode cX2_init 39 = .ok (.new 18, 3) := by decide +kernel
theorem dX2_init_42 : decode cX2_init 42 = .ok (.dup, 1) := by decide +kernel
theorem dX2_init_43 : decode cX2_init 43 = .ok (.invokespecial 20, 3) := by decide +kernel
theorem dX2_init_46 : decode cX2_init 46 = .ok (.aastore, 1) := by decide +kernel
theorem dX2_init_47 : decode cX2_init 47 = .ok (.dup, 1) := by decide +kernel
theorem dX2_init_48 : decode cX2_init 48 = .ok (.iconst 1, 1) := by decide +kernel
theorem dX2_init_49 : decode cX2_init 49 = .ok (.new 18, 3) := by decide +kernel
theorem dX2_init_52 : decode cX2_init 52 = .ok (.dup, 1) := by decide +kernel
theorem dX2_init_53 : decode cX2_init 53 = .ok (.invokespecial 20, 3) := by decide +kernel
theorem dX2_init_56 : decode cX2_init 56 = .ok (.aastore, 1) := by decide +kernel
theorem dX2_init_57 : decode cX2_init 57 = .ok (.dup, 1) := by decide +kernel
theorem dX2_init_58 : decode cX2_init 58 = .ok (.iconst 2, 1) := by decide +kernel
theorem dX2_init_59 : decode cX2_init 59 = .ok (.new 18, 3) := by decide +kernel
theorem dX2_init_62 : decode cX2_init 62 = .ok (.dup, 1) := by decide +kernel
theorem dX2_init_63 : decode cX2_init 63 = .ok (.invokespecial 20, 3) := by decide +kernel
theorem dX2_init_66 : decode cX2_init 66 = .ok (.aastore, 1) := by decide +kernel
theorem dX2_init_67 : decode cX2_init 67 = .ok (.dup, 1) := by decide +kernel
theorem dX2_init_68 : decode cX2_init 68 = .ok (.iconst 3, 1) := by decide +kernel
theorem dX2_init_69 : decode cX2_init 69 = .ok (.new 18, 3) := by decide +kernel
theorem dX2_init_72 : decode cX2_init 72 = .ok (.dup, 1) := by decide +kernel
theorem dX2_init_73 : decode cX2_init 73 = .ok (.invokespecial 20, 3) := by decide +kernel
theorem dX2_init_76 : decode cX2_init 76 = .ok (.aastore, 1) := by decide +kernel
theorem dX2_init_77 : decode cX2_init 77 = .ok (.putfield 21, 3) := by decide +kernel
theorem dX2_init_80 : decode cX2_init 80 = .ok (.aload_n 0, 1) := by decide +kernel
theorem dX2_init_81 : decode cX2_init 81 = .ok (.new 25, 3) := by decide +kernel
theorem dX2_init_84 : decode cX2_init 84 = .ok (.dup, 1) := by decide +kernel
theorem dX2_init_85 : decode cX2_init 85 = .ok (.invokespecial 27, 3) := by decide +kernel
theorem dX2_init_88 : decode cX2_init 88 = .ok (.putfield 28, 3) := by decide +kernel
theorem dX2_init_91 : decode cX2_init 91 = .ok (.aload_n 0, 1) := by decide +kernel
theorem dX2_init_92 : decode cX2_init 92 = .ok (.bipush 50, 2) := by decide +kernel
theorem dX2_init_94 : decode cX2_init 94 = .ok (.putfield 32, 3) := by decide +kernel
theorem dX2_init_97 : decode cX2_init 97 = .ok (.aload_n 0, 1) := by decide +kernel
theorem dX2_init_98 : decode cX2_init 98 = .ok (.bipush 40, 2) := by decide +kernel
theorem dX2_init_100 : decode cX2_init 100 = .ok (.putfield 36, 3) := by decide +kernel
theorem dX2_init_103 : decode cX2_init 103 = .ok (.return_, 1) := by decide +kernel
set_option maxRecDepth 20000 in
theorem ggX2_copyFrom_X0_copyFrom : GoodIn wsX2_copyFrom wsX0_copyFrom := goodIn_r _ [19, 20, 21, 22, 23, 24, 54, 55, 56, 57, 58] (by decide +kernel) (by decide +kernel)
set_option maxRecDepth 20000 in
theorem gX2_copyFrom_X0_copyFrom : GoodIn wsX2_copyFrom (wsV RX2 39 RX0 yX0_copyFrom wsX0_copyFrom) := goodIn_app (goodIn_of _ (by decide +kernel)) ggX2_copyFrom_X0_copyFrom
set_option maxRecDepth 20000 in
theorem ggX2_copyFrom_X3_copyFrom : GoodIn wsX2_copyFrom wsX3_copyFrom := goodIn_r _ [29, 30, 31, 32, 59, 60, 61] (by decide +kernel) (by decide +kernel)
set_option maxRecDepth 20000 in
theorem gX2_copyFrom_X3_copyFrom : GoodIn wsX2_copyFrom (wsV RX2 43 RX3 yX3_copyFrom wsX3_copyFrom) := goodIn_app (goodIn_of _ (by decide +kernel)) ggX2_copyFrom_X3_copyFrom
set_option maxRecDepth 20000 in
theorem ggX2_copyFrom_X5_copyFrom : GoodIn wsX2_copyFrom wsX5_copyFrom := goodIn_r _ [37, 38, 39, 62, 63] (by decide +kernel) (by decide +kernel)
set_option maxRecDepth 20000 in
theorem gX2_copyFrom_X5_copyFrom : GoodIn wsX2_copyFrom (wsV RX2 46 RX5 yX5_copyFrom wsX5_copyFrom) := goodIn_app (goodIn_of _ (by decide +kernel)) ggX2_copyFrom_X5_copyFrom
theorem dX2_copyFrom_0 : decode cX2_copyFrom 0 = .ok (.iconst 0, 1) := by decide +kernel
theorem dX2_copyFrom_1 : decode cX2_copyFrom 1 = .ok (.istore_n 2, 1) := by decide +kernel
theorem dX2_copyFrom_2 : decode cX2_copyFrom 2 = .ok (.iload_n 2, 1) := by decide +kernel
theorem dX2_copyFrom_3 : decode cX2_copyFrom 3 = .ok (.aload_n 0, 1) := by decide +kernel
theorem dX2_copyFrom_4 : decode cX2_copyFrom 4 = .ok (.getfield 12, 3) := by decide +kernel
theorem dX2_copyFrom_7 : decode cX2_copyFrom 7 = .ok (.arraylength, 1) := by decide +kernel
theorem dX2_copyFrom_8 : decode cX2_copyFrom 8 = .ok (.if_icmp .ge 33, 3) := by decide +kernel
theorem dX2_copyFrom_11 : decode cX2_copyFrom 11 = .ok (.iload_n 2, 1) := by decide +kernel
theorem dX2_copyFrom_12 : decode cX2_copyFrom 12 = .ok (.aload_n 1, 1) := by decide +kernel
theorem dX2_copyFrom_13 : decode cX2_copyFrom 13 = .ok (.getfield 12, 3) := by decide +kernel
theorem dX2_copyFrom_16 : decode cX2_copyFrom 16 = .ok (.arraylength, 1) := by decide +kernel
theorem dX2_copyFrom_17 : decode cX2_copyFrom 17 = .ok (.if_icmp .ge 24, 3) := by decide +kernel
theorem dX2_copyFrom_20 : decode cX2_copyFrom 20 = .ok (.aload_n 0, 1) := by decide +kernel
theorem dX2_copyFrom_21 : decode cX2_copyFrom 21 = .ok (.getfield 12, 3) := by decide +kernel
theorem dX2_copyFrom_24 : decode cX2_copyFrom 24 = .ok (.iload_n 2, 1) := by decide +kernel
theorem dX2_copyFrom_25 : decode cX2_copyFrom 25 = .ok (.aaload, 1) := by decide +kernel
theorem dX2_copyFrom_26 : decode cX2_copyFrom 26 = .ok (.aload_n 1, 1) := by decide +kernel
theorem dX2_copyFrom_27 : decode cX2_copyFrom 27 = .ok (.getfield 12, 3) := by decide +kernel
theorem dX2_copyFrom_30 : decode cX2_copyFrom 30 = .ok (.iload_n 2, 1) := by decide +kernel
theorem dX2_copyFrom_31 : decode cX2_copyFrom 31 = .ok (.aaload, 1) := by decide +kernel
theorem dX2_copyFrom_32 : decode cX2_copyFrom 32 = .ok (.invokevirtual 39, 3) := by decide +kernel
theorem dX2_copyFrom_35 : decode cX2_copyFrom 35 = .ok (.iinc 2 1, 3) := by decide +kernel
theorem dX2_copyFrom_38 : decode cX2_copyFrom 38 = .ok (.goto (-36), 3) := by decide +kernel
theorem dX2_copyFrom_41 : decode cX2_copyFrom 41 = .ok (.iconst 0, 1) := by decide +kernel
theorem dX2_copyFrom_42 : decode cX2_copyFrom 42 = .ok (.istore_n 2, 1) := by decide +kernel
theorem dX2_copyFrom_43 : decode cX2_copyFrom 43 = .ok (.iload_n 2, 1) := by decide +kernel
theorem dX2_copyFrom_44 : decode cX2_copyFrom 44 = .ok (.aload_n 0, 1) := by decide +kernel
theorem dX2_copyFrom_45 : decode cX2_copyFrom 45 = .ok (.getfield 21, 3) := by decide +kernel
theorem dX2_copyFrom_48 : decode cX2_copyFrom 48 = .ok (.arraylength, 1) := by decide +kernel
theorem dX2_copyFrom_49 : decode cX2_copyFrom 49 = .ok (.if_icmp .ge 33, 3) := by decide +kernel
theorem dX2_copyFrom_52 : decode cX2_copyFrom 52 = .ok (.iload_n 2, 1) := by decide +kernel
theorem dX2_copyFrom_53 : decode cX2_copyFrom 53 = .ok (.aload_n 1, 1) := by decide +kernel
theorem dX2_copyFrom_54 : decode cX2_copyFrom 54 = .ok (.getfield 21, 3) := by decide +kernel
theorem dX2_copyFrom_57 : decode cX2_copyFrom 57 = .ok (.arraylength, 1) := by decide +kernel
theorem dX2_copyFrom_58 : decode cX2_copyFrom 58 = .ok (.if_icmp .ge 24, 3) := by decide +kernel
theorem dX2_copyFrom_61 : decode cX2_copyFrom 61 = .ok (.aload_n 0, 1) := by decide +kernel
theorem dX2_copyFrom_62 : decode cX2_copyFrom 62 = .ok (.getfield 21, 3) := by decide +kernel
theorem dX2_copyFrom_65 : decode cX2_copyFrom 65 = .ok (.iload_n 2, 1) := by decide +kernel
theorem dX2_copyFrom_66 : decode cX2_copyFrom 66 = .ok (.aaload, 1) := by decide +kernel
theorem dX2_copyFrom_67 : decode cX2_copyFrom 67 = .ok (.aload_n 1, 1) := by decide +kernel
theorem dX2_copyFrom_68 : decode cX2_copyFrom 68 = .ok (.getfield 21, 3) := by decide +kernel
theorem dX2_copyFrom_71 : decode cX2_copyFrom 71 = .ok (.iload_n 2, 1) := by decide +kernel
theorem dX2_copyFrom_72 : decode cX2_copyFrom 72 = .ok (.aaload, 1) := by decide +kernel
theorem dX2_copyFrom_73 : decode cX2_copyFrom 73 = .ok (.invokevirtual 43, 3) := by decide +kernel
theorem dX2_copyFrom_76 : decode cX2_copyFrom 76 = .ok (.iinc 2 1, 3) := by decide +kernel
theorem dX2_copyFrom_79 : decode cX2_copyFrom 79 = .ok (.goto (-36), 3) := by decide +kernel
theorem dX2_copyFrom_82 : decode cX2_copyFrom 82 = .ok (.aload_n 0, 1) := by decide +kernel
theorem dX2_copyFrom_83 : decode cX2_copyFrom 83 = .ok (.getfield 28, 3) := by decide +kernel
theorem dX2_copyFrom_86 : decode cX2_copyFrom 86 = .ok (.aload_n 1, 1) := by decide +kernel
theorem dX2_copyFrom_87 : decode cX2_copyFrom 87 = .ok (.getfield 28, 3) := by decide +kernel
theorem dX2_copyFrom_90 : decode cX2_copyFrom 90 = .ok (.invokevirtual 46, 3) := by decide +kernel
theorem dX2_copyFrom_93 : decode cX2_copyFrom 93 = .ok (.aload_n 0, 1) := by decide +kernel
theorem dX2_copyFrom_94 : decode cX2_copyFrom 94 = .ok (.aload_n 1, 1) := by decide +kernel
theorem dX2_copyFrom_95 : decode cX2_copyFrom 95 = .ok (.getfield 49, 3) := by decide +kernel
theorem dX2_copyFrom_98 : decode cX2_copyFrom 98 = .ok (.putfield 49, 3) := by decide +kernel
theorem dX2_copyFrom_101 : decode cX2_copyFrom 101 = .ok (.aload_n 0, 1) := by decide +kernel
theorem dX2_copyFrom_102 : decode cX2_copyFrom 102 = .ok (.aload_n 1, 1) := by decide +kernel
theorem dX2_copyFrom_103 : decode cX2_copyFrom 103 = .ok (.getfield 52, 3) := by decide +kernel
theorem dX2_copyFrom_106 : decode cX2_copyFrom 106 = .ok (.putfield 52, 3) := by decide +kernel
theorem dX2_copyFrom_109 : decode cX2_copyFrom 109 = .ok (.aload_n 0, 1) := by decide +kernel
theorem dX2_copyFrom_110 : decode cX2_copyFrom 110 = .ok (.aload_n 1, 1) := by decide +kernel
theorem dX2_copyFrom_111 : decode cX2_copyFrom 111 = .ok (.getfield 55, 3) := by decide +kernel
theorem dX2_copyFrom_114 : decode cX2_copyFrom 114 = .ok (.putfield 55, 3) := by decide +kernel
theorem dX2_copyFrom_117 : decode cX2_copyFrom 117 = .ok (.aload_n 0, 1) := by decide +kernel
theorem dX2_copyFrom_118 : decode cX2_copyFrom 118 = .ok (.aload_n 1, 1) := by decide +kernel
theorem dX2_copyFrom_119 : decode cX2_copyFrom 119 = .ok (.getfield 58, 3) := by decide +kernel
theorem dX2_copyFrom_122 : decode cX2_copyFrom 122 = .ok (.putfield 58, 3) := by decide +kernel
theorem dX2_copyFrom_125 : decode cX2_copyFrom 125 = .ok (.aload_n 0, 1) := by decide +kernel
theorem dX2_copyFrom_126 : decode cX2_copyFrom 126 = .ok (.aload_n 1, 1) := by decide +kernel
theorem dX2_copyFrom_127 : decode cX2_copyFrom 127 = .ok (.getfield 32, 3) := by decide +kernel
theorem dX2_copyFrom_130 : decode cX2_copyFrom 130 = .ok (.putfield 32, 3) := by decide +kernel
theorem dX2_copyFrom_133 : decode cX2_copyFrom 133 = .ok (.aload_n 0, 1) := by decide +kernel
theorem dX2_copyFrom_134 : decode cX2_copyFrom 134 = .ok (.aload_n 1, 1) := by decide +kernel
theorem dX2_copyFrom_135 : decode cX2_copyFrom 135 = .ok (.getfield 36, 3) := by decide +kernel
theorem dX2_copyFrom_138 : decode cX2_copyFrom 138 = .ok (.putfield 36, 3) := by decide +kernel
theorem dX2_copyFrom_141 : decode cX2_copyFrom 141 = .ok (.aload_n 0, 1) := by decide +kernel
theorem dX2_copyFrom_142 : decode cX2_copyFrom 142 = .ok (.aload_n 1, 1) := by decide +kernel
theorem dX2_copyFrom_143 : decode cX2_copyFrom 143 = .ok (.getfield 61, 3) := by decide +kernel
theorem dX2_copyFrom_146 : decode cX2_copyFrom 146 = .ok (.putfield 61, 3) := by decide +kernel
theorem dX2_copyFrom_149 : decode cX2_copyFrom 149 = .ok (.aload_n 0, 1) := by decide +kernel
theorem dX2_copyFrom_150 : decode cX2_copyFrom 150 = .ok (.aload_n 1, 1) := by decide +kernel
theorem dX2_copyFrom_151 : decode cX2_copyFrom 151 = .ok (.getfield 64, 3) := by decide +kernel
theorem dX2_copyFrom_154 : decode cX2_copyFrom 154 = .ok (.putfield 64, 3) := by decide +kernel
theorem dX2_copyFrom_157 : decode cX2_copyFrom 157 = .ok (.aload_n 0, 1) := by decide +kernel
theorem dX2_copyFrom_158 : decode cX2_copyFrom 158 = .ok (.aload_n 1, 1) := by decide +kernel
theorem dX2_copyFrom_159 : decode cX2_copyFrom 159 = .ok (.getfield 67, 3) := by decide +kernel
theorem dX2_copyFrom_162 : decode cX2_copyFrom 162 = .ok (.putfield 67, 3) := by decide +kernel
theorem dX2_copyFrom_165 : decode cX2_copyFrom 165 = .ok (.aload_n 0, 1) := by decide +kernel
theorem dX2_copyFrom_166 : decode cX2_copyFrom 166 = .ok (.aload_n 1, 1) := by decide +kernel
theorem dX2_copyFrom_167 : decode cX2_copyFrom 167 = .ok (.getfield 70, 3) := by decide +kernel
theorem dX2_copyFrom_170 : decode cX2_copyFrom 170 = .ok (.putfield 70, 3) := by decide +kernel
theorem dX2_copyFrom_173 : decode cX2_copyFrom 173 = .ok (.aload_n 0, 1) := by decide +kernel
theorem dX2_copyFrom_174 : decode cX2_copyFrom 174 = .ok (.aload_n 1, 1) := by decide +kernel
theorem dX2_copyFrom_175 : decode cX2_copyFrom 175 = .ok (.getfield 73, 3) := by decide +kernel
theorem dX2_copyFrom_178 : decode cX2_copyFrom 178 = .ok (.putfield 73, 3) := by decide +kernel
theorem dX2_copyFrom_181 : decode cX2_copyFrom 181 = .ok (.return_, 1) := by decide +kernel
theorem dX2_boilerAt_0 : decode cX2_boilerAt 0 = .ok (.iload_n 1, 1) := by decide +kernel
theorem dX2_boilerAt_1 : decode cX2_boilerAt 1 = .ok (.ifCond .lt 21, 3) := by decide +kernel
theorem dX2_boilerAt_4 : decode cX2_boilerAt 4 = .ok (.iload_n 1, 1) := by decide +kernel
theorem dX2_boilerAt_5 : decode cX2_boilerAt 5 = .ok (.aload_n 0, 1) := by decide +kernel
theorem dX2_boilerAt_6 : decode cX2_boilerAt 6 = .ok (.getfield 12, 3) := by decide +kernel
theorem dX2_boilerAt_9 : decode cX2_boilerAt 9 = .ok (.arraylength, 1) := by decide +kernel
theorem dX2_boilerAt_10 : decode cX2_boilerAt 10 = .ok (.if_icmp .ge 12, 3) := by decide +kernel
theorem dX2_boilerAt_13 : decode cX2_boilerAt 13 = .ok (.aload_n 0, 1) := by decide +kernel
theorem dX2_boilerAt_14 : decode cX2_boilerAt 14 = .ok (.getfield 12, 3) := by decide +kernel
theorem dX2_boilerAt_17 : decode cX2_boilerAt 17 = .ok (.iload_n 1, 1) := by decide +kernel
theorem dX2_boilerAt_18 : decode cX2_boilerAt 18 = .ok (.aaload, 1) := by decide +kernel
theorem dX2_boilerAt_19 : decode cX2_boilerAt 19 = .ok (.goto 4, 3) := by decide +kernel
theorem dX2_boilerAt_22 : decode cX2_boilerAt 22 = .ok (.aconst_null, 1) := by decide +kernel
theorem dX2_boilerAt_23 : decode cX2_boilerAt 23 = .ok (.areturn, 1) := by decide +kernel
theorem dX2_machineAt_0 : decode cX2_machineAt 0 = .ok (.iload_n 1, 1) := by decide +kernel
theorem dX2_machineAt_1 : decode cX2_machineAt 1 = .ok (.ifCond .lt 21, 3) := by decide +kernel
theorem dX2_machineAt_4 : decode cX2_machineAt 4 = .ok (.iload_n 1, 1) := by decide +kernel
theorem dX2_machineAt_5 : decode cX2_machineAt 5 = .ok (.aload_n 0, 1) := by decide +kernel
theorem dX2_machineAt_6 : decode cX2_machineAt 6 = .ok (.getfield 21, 3) := by decide +kernel
theorem dX2_machineAt_9 : decode cX2_machineAt 9 = .ok (.arraylength, 1) := by decide +kernel
theorem dX2_machineAt_10 : decode cX2_machineAt 10 = .ok (.if_icmp .ge 12, 3) := by decide +kernel
theorem dX2_machineAt_13 : decode cX2_machineAt 13 = .ok (.aload_n 0, 1) := by decide +kernel
theorem dX2_machineAt_14 : decode cX2_machineAt 14 = .ok (.getfield 21, 3) := by decide +kernel
theorem dX2_machineAt_17 : decode cX2_machineAt 17 = .ok (.iload_n 1, 1) := by decide +kernel
theorem dX2_machineAt_18 : decode cX2_machineAt 18 = .ok (.aaload, 1) := by decide +kernel
theorem dX2_machineAt_19 : decode cX2_machineAt 19 = .ok (.goto 4, 3) := by decide +kernel
theorem dX2_machineAt_22 : decode cX2_machineAt 22 = .ok (.aconst_null, 1) := by decide +kernel
theorem dX2_machineAt_23 : decode cX2_machineAt 23 = .ok (.areturn, 1) := by decide +kernel
set_option maxRecDepth 20000 in
theorem ggX2_lowestEmptyMachine_X3_isEmpty : GoodIn wsX2_lowestEmptyMachine wsX3_isEmpty := goodIn_r _ [6, 7, 22, 23, 24] (by decide +kernel) (by decide +kernel)
set_option maxRecDepth 20000 in
theorem gX2_lowestEmptyMachine_X3_isEmpty : GoodIn wsX2_lowestEmptyMachine (wsV RX2 76 RX3 yX3_isEmpty wsX3_isEmpty) := goodIn_app (goodIn_of _ (by decide +kernel)) ggX2_lowestEmptyMachine_X3_isEmpty
theorem dX2_lowestEmptyMachine_0 : decode cX2_lowestEmptyMachine 0 = .ok (.aload_n 0, 1) := by decide +kernel
theorem dX2_lowestEmptyMachine_1 : decode cX2_lowestEmptyMachine 1 = .ok (.getfield 21, 3) := by decide +kernel
theorem dX2_lowestEmptyMachine_4 : decode cX2_lowestEmptyMachine 4 = .ok (.astore_n 1, 1) := by decide +kernel
theorem dX2_lowestEmptyMachine_5 : decode cX2_lowestEmptyMachine 5 = .ok (.aload_n 1, 1) := by decide +kernel
theorem dX2_lowestEmptyMachine_6 : decode cX2_lowestEmptyMachine 6 = .ok (.arraylength, 1) := by decide +kernel
theorem dX2_lowestEmptyMachine_7 : decode cX2_lowestEmptyMachine 7 = .ok (.istore_n 2, 1) := by decide +kernel
theorem dX2_lowestEmptyMachine_8 : decode cX2_lowestEmptyMachine 8 = .ok (.iconst 0, 1) := by decide +kernel
theorem dX2_lowestEmptyMachine_9 : decode cX2_lowestEmptyMachine 9 = .ok (.istore_n 3, 1) := by decide +kernel
theorem dX2_lowestEmptyMachine_10 : decode cX2_lowestEmptyMachine 10 = .ok (.iload_n 3, 1) := by decide +kernel
theorem dX2_lowestEmptyMachine_11 : decode cX2_lowestEmptyMachine 11 = .ok (.iload_n 2, 1) := by decide +kernel
theorem dX2_lowestEmptyMachine_12 : decode cX2_lowestEmptyMachine 12 = .ok (.if_icmp .ge 25, 3) := by decide +kernel
theorem dX2_lowestEmptyMachine_15 : decode cX2_lowestEmptyMachine 15 = .ok (.aload_n 1, 1) := by decide +kernel
theorem dX2_lowestEmptyMachine_16 : decode cX2_lowestEmptyMachine 16 = .ok (.iload_n 3, 1) := by decide +kernel
theorem dX2_lowestEmptyMachine_17 : decode cX2_lowestEmptyMachine 17 = .ok (.aaload, 1) := by decide +kernel
theorem dX2_lowestEmptyMachine_18 : decode cX2_lowestEmptyMachine 18 = .ok (.astore 4, 2) := by decide +kernel
theorem dX2_lowestEmptyMachine_20 : decode cX2_lowestEmptyMachine 20 = .ok (.aload 4, 2) := by decide +kernel
theorem dX2_lowestEmptyMachine_22 : decode cX2_lowestEmptyMachine 22 = .ok (.invokevirtual 76, 3) := by decide +kernel
theorem dX2_lowestEmptyMachine_25 : decode cX2_lowestEmptyMachine 25 = .ok (.ifCond .eq 6, 3) := by decide +kernel
theorem dX2_lowestEmptyMachine_28 : decode cX2_lowestEmptyMachine 28 = .ok (.aload 4, 2) := by decide +kernel
theorem dX2_lowestEmptyMachine_30 : decode cX2_lowestEmptyMachine 30 = .ok (.areturn, 1) := by decide +kernel
theorem dX2_lowestEmptyMachine_31 : decode cX2_lowestEmptyMachine 31 = .ok (.iinc 3 1, 3) := by decide +kernel
theorem dX2_lowestEmptyMachine_34 : decode cX2_lowestEmptyMachine 34 = .ok (.goto (-24), 3) := by decide +kernel
theorem dX2_lowestEmptyMachine_37 : decode cX2_lowestEmptyMachine 37 = .ok (.aconst_null, 1) := by decide +kernel
theorem dX2_lowestEmptyMachine_38 : decode cX2_lowestEmptyMachine 38 = .ok (.areturn, 1) := by decide +kernel
set_option maxRecDepth 20000 in
theorem ggX2_loadsInMachines_X3_isEmpty : GoodIn wsX2_loadsInMachines wsX3_isEmpty := goodIn_r _ [6, 7, 22, 23, 24] (by decide +kernel) (by decide +kernel)
set_option maxRecDepth 20000 in
theorem gX2_loadsInMachines_X3_isEmpty : GoodIn wsX2_loadsInMachines (wsV RX2 76 RX3 yX3_isEmpty wsX3_isEmpty) := goodIn_app (goodIn_of _ (by decide +kernel)) ggX2_loadsInMachines_X3_isEmpty
theorem dX2_loadsInMachines_0 : decode cX2_loadsInMachines 0 = .ok (.iconst 0, 1) := by decide +kernel
theorem dX2_loadsInMachines_1 : decode cX2_loadsInMachines 1 = .ok (.istore_n 1, 1) := by decide +kernel
theorem dX2_loadsInMachines_2 : decode cX2_loadsInMachines 2 = .ok (.aload_n 0, 1) := by decide +kernel
theorem dX2_loadsInMachines_3 : decode cX2_loadsInMachines 3 = .ok (.getfield 21, 3) := by decide +kernel
theorem dX2_loadsInMachines_6 : decode cX2_loadsInMachines 6 = .ok (.astore_n 2, 1) := by decide +kernel
theorem dX2_loadsInMachines_7 : decode cX2_loadsInMachines 7 = .ok (.aload_n 2, 1) := by decide +kernel
theorem dX2_loadsInMachines_8 : decode cX2_loadsInMachines 8 = .ok (.arraylength, 1) := by decide +kernel
theorem dX2_loadsInMachines_9 : decode cX2_loadsInMachines 9 = .ok (.istore_n 3, 1) := by decide +kernel
theorem dX2_loadsInMachines_10 : decode cX2_loadsInMachines 10 = .ok (.iconst 0, 1) := by decide +kernel
theorem dX2_loadsInMachines_11 : decode cX2_loadsInMachines 11 = .ok (.istore 4, 2) := by decide +kernel
theorem dX2_loadsInMachines_13 : decode cX2_loadsInMachines 13 = .ok (.iload 4, 2) := by decide +kernel
theorem dX2_loadsInMachines_15 : decode cX2_loadsInMachines 15 = .ok (.iload_n 3, 1) := by decide +kernel
theorem dX2_loadsInMachines_16 : decode cX2_loadsInMachines 16 = .ok (.if_icmp .ge 26, 3) := by decide +kernel
theorem dX2_loadsInMachines_19 : decode cX2_loadsInMachines 19 = .ok (.aload_n 2, 1) := by decide +kernel
theorem dX2_loadsInMachines_20 : decode cX2_loadsInMachines 20 = .ok (.iload 4, 2) := by decide +kernel
theorem dX2_loadsInMachines_22 : decode cX2_loadsInMachines 22 = .ok (.aaload, 1) := by decide +kernel
theorem dX2_loadsInMachines_23 : decode cX2_loadsInMachines 23 = .ok (.astore 5, 2) := by decide +kernel
theorem dX2_loadsInMachines_25 : decode cX2_loadsInMachines 25 = .ok (.aload 5, 2) := by decide +kernel
theorem dX2_loadsInMachines_27 : decode cX2_loadsInMachines 27 = .ok (.invokevirtual 76, 3) := by decide +kernel
theorem dX2_loadsInMachines_30 : decode cX2_loadsInMachines 30 = .ok (.ifCond .ne 6, 3) := by decide +kernel
theorem dX2_loadsInMachines_33 : decode cX2_loadsInMachines 33 = .ok (.iinc 1 1, 3) := by decide +kernel
theorem dX2_loadsInMachines_36 : decode cX2_loadsInMachines 36 = .ok (.iinc 4 1, 3) := by decide +kernel
theorem dX2_loadsInMachines_39 : decode cX2_loadsInMachines 39 = .ok (.goto (-26), 3) := by decide +kernel
theorem dX2_loadsInMachines_42 : decode cX2_loadsInMachines 42 = .ok (.iload_n 1, 1) := by decide +kernel
theorem dX2_loadsInMachines_43 : decode cX2_loadsInMachines 43 = .ok (.ireturn, 1) := by decide +kernel
set_option maxRecDepth 20000 in
theorem ggX2_isIdle_X2_loadsInMachines : GoodIn wsX2_isIdle wsX2_loadsInMachines := goodIn_r _ [7, 8, 9, 10, 11, 12, 13, 14, 15, 16, 17, 18, 19, 20, 21, 22, 23, 24, 25, 26, 27, 28, 31, 32, 33] (by decide +kernel) (by decide +kernel)
set_option maxRecDepth 20000 in
theorem gX2_isIdle_X2_loadsInMachines : GoodIn wsX2_isIdle (wsV RX2 83 RX2 yX2_loadsInMachines wsX2_loadsInMachines) := goodIn_app (goodIn_of _ (by decide +kernel)) ggX2_isIdle_X2_loadsInMachines
theorem dX2_isIdle_0 : decode cX2_isIdle 0 = .ok (.aload_n 0, 1) := by decide +kernel
theorem dX2_isIdle_1 : decode cX2_isIdle 1 = .ok (.getfield 28, 3) := by decide +kernel
theorem dX2_isIdle_4 : decode cX2_isIdle 4 = .ok (.getfield 80, 3) := by decide +kernel
theorem dX2_isIdle_7 : decode cX2_isIdle 7 = .ok (.ifCond .ne 14, 3) := by decide +kernel
theorem dX2_isIdle_10 : decode cX2_isIdle 10 = .ok (.aload_n 0, 1) := by decide +kernel
theorem dX2_isIdle_11 : decode cX2_isIdle 11 = .ok (.invokevirtual 83, 3) := by decide +kernel
theorem dX2_isIdle_14 : decode cX2_isIdle 14 = .ok (.ifCond .ne 7, 3) := by decide +kernel
theorem dX2_isIdle_17 : decode cX2_isIdle 17 = .ok (.iconst 1, 1) := by decide +kernel
theorem dX2_isIdle_18 : decode cX2_isIdle 18 = .ok (.goto 4, 3) := by decide +kernel
theorem dX2_isIdle_21 : decode cX2_isIdle 21 = .ok (.iconst 0, 1) := by decide +kernel
theorem dX2_isIdle_22 : decode cX2_isIdle 22 = .ok (.ireturn, 1) := by decide +kernel
theorem dX2_allPressure_0 : decode cX2_allPressure 0 = .ok (.iconst 0, 1) := by decide +kernel
theorem dX2_allPressure_1 : decode cX2_allPressure 1 = .ok (.istore_n 1, 1) := by decide +kernel
theorem dX2_allPressure_2 : decode cX2_allPressure 2 = .ok (.aload_n 0, 1) := by decide +kernel
theorem dX2_allPressure_3 : decode cX2_allPressure 3 = .ok (.getfield 12, 3) := by decide +kernel
theorem dX2_allPressure_6 : decode cX2_allPressure 6 = .ok (.astore_n 2, 1) := by decide +kernel
theorem dX2_allPressure_7 : decode cX2_allPressure 7 = .ok (.aload_n 2, 1) := by decide +kernel
theorem dX2_allPressure_8 : decode cX2_allPressure 8 = .ok (.arraylength, 1) := by decide +kernel
theorem dX2_allPressure_9 : decode cX2_allPressure 9 = .ok (.istore_n 3, 1) := by decide +kernel
theorem dX2_allPressure_10 : decode cX2_allPressure 10 = .ok (.iconst 0, 1) := by decide +kernel
theorem dX2_allPressure_11 : decode cX2_allPressure 11 = .ok (.istore 4, 2) := by decide +kernel
theorem dX2_allPressure_13 : decode cX2_allPressure 13 = .ok (.iload 4, 2) := by decide +kernel
theorem dX2_allPressure_15 : decode cX2_allPressure 15 = .ok (.iload_n 3, 1) := by decide +kernel
theorem dX2_allPressure_16 : decode cX2_allPressure 16 = .ok (.if_icmp .ge 23, 3) := by decide +kernel
theorem dX2_allPressure_19 : decode cX2_allPressure 19 = .ok (.aload_n 2, 1) := by decide +kernel
theorem dX2_allPressure_20 : decode cX2_allPressure 20 = .ok (.iload 4, 2) := by decide +kernel
theorem dX2_allPressure_22 : decode cX2_allPressure 22 = .ok (.aaload, 1) := by decide +kernel
theorem dX2_allPressure_23 : decode cX2_allPressure 23 = .ok (.astore 5, 2) := by decide +kernel
theorem dX2_allPressure_25 : decode cX2_allPressure 25 = .ok (.iload_n 1, 1) := by decide +kernel
theorem dX2_allPressure_26 : decode cX2_allPressure 26 = .ok (.aload 5, 2) := by decide +kernel
theorem dX2_allPressure_28 : decode cX2_allPressure 28 = .ok (.getfield 87, 3) := by decide +kernel
theorem dX2_allPressure_31 : decode cX2_allPressure 31 = .ok (.iadd, 1) := by decide +kernel
theorem dX2_allPressure_32 : decode cX2_allPressure 32 = .ok (.istore_n 1, 1) := by decide +kernel
theorem dX2_allPressure_33 : decode cX2_allPressure 33 = .ok (.iinc 4 1, 3) := by decide +kernel
theorem dX2_allPressure_36 : decode cX2_allPressure 36 = .ok (.goto (-23), 3) := by decide +kernel
theorem dX2_allPressure_39 : decode cX2_allPressure 39 = .ok (.iload_n 1, 1) := by decide +kernel
theorem dX2_allPressure_40 : decode cX2_allPressure 40 = .ok (.ireturn, 1) := by decide +kernel
theorem dX2_safetyStops_0 : decode cX2_safetyStops 0 = .ok (.iconst 0, 1) := by decide +kernel
theorem dX2_safetyStops_1 : decode cX2_safetyStops 1 = .ok (.istore_n 1, 1) := by decide +kernel
theorem dX2_safetyStops_2 : decode cX2_safetyStops 2 = .ok (.aload_n 0, 1) := by decide +kernel
theorem dX2_safetyStops_3 : decode cX2_safetyStops 3 = .ok (.getfield 12, 3) := by decide +kernel
theorem dX2_safetyStops_6 : decode cX2_safetyStops 6 = .ok (.astore_n 2, 1) := by decide +kernel
theorem dX2_safetyStops_7 : decode cX2_safetyStops 7 = .ok (.aload_n 2, 1) := by decide +kernel
theorem dX2_safetyStops_8 : decode cX2_safetyStops 8 = .ok (.arraylength, 1) := by decide +kernel
theorem dX2_safetyStops_9 : decode cX2_safetyStops 9 = .ok (.istore_n 3, 1) := by decide +kernel
theorem dX2_safetyStops_10 : decode cX2_safetyStops 10 = .ok (.iconst 0, 1) := by decide +kernel
theorem dX2_safetyStops_11 : decode cX2_safetyStops 11 = .ok (.istore 4, 2) := by decide +kernel
theorem dX2_safetyStops_13 : decode cX2_safetyStops 13 = .ok (.iload 4, 2) := by decide +kernel
theorem dX2_safetyStops_15 : decode cX2_safetyStops 15 = .ok (.iload_n 3, 1) := by decide +kernel
theorem dX2_safetyStops_16 : decode cX2_safetyStops 16 = .ok (.if_icmp .ge 23, 3) := by decide +kernel
theorem dX2_safetyStops_19 : decode cX2_safetyStops 19 = .ok (.aload_n 2, 1) := by decide +kernel
theorem dX2_safetyStops_20 : decode cX2_safetyStops 20 = .ok (.iload 4, 2) := by decide +kernel
theorem dX2_safetyStops_22 : decode cX2_safetyStops 22 = .ok (.aaload, 1) := by decide +kernel
theorem dX2_safetyStops_23 : decode cX2_safetyStops 23 = .ok (.astore 5, 2) := by decide +kernel
theorem dX2_safetyStops_25 : decode cX2_safetyStops 25 = .ok (.iload_n 1, 1) := by decide +kernel
theorem dX2_safetyStops_26 : decode cX2_safetyStops 26 = .ok (.aload 5, 2) := by decide +kernel
theorem dX2_safetyStops_28 : decode cX2_safetyStops 28 = .ok (.getfield 90, 3) := by decide +kernel
theorem dX2_safetyStops_31 : decode cX2_safetyStops 31 = .ok (.iadd, 1) := by decide +kernel
theorem dX2_safetyStops_32 : decode cX2_safetyStops 32 = .ok (.istore_n 1, 1) := by decide +kernel
theorem dX2_safetyStops_33 : decode cX2_safetyStops 33 = .ok (.iinc 4 1, 3) := by decide +kernel
theorem dX2_safetyStops_36 : decode cX2_safetyStops 36 = .ok (.goto (-23), 3) := by decide +kernel
theorem dX2_safetyStops_39 : decode cX2_safetyStops 39 = .ok (.iload_n 1, 1) := by decide +kernel
theorem dX2_safetyStops_40 : decode cX2_safetyStops 40 = .ok (.ireturn, 1) := by decide +kernel
set_option maxRecDepth 20000 in
theorem ggX2_account_X2_loadsInMachines : GoodIn wsX2_account wsX2_loadsInMachines := goodIn_r _ [18, 19, 20, 21, 22, 23, 24, 25, 32, 33, 34, 35, 36, 37, 38, 39, 40, 41, 42, 43, 44, 45, 48, 49, 50] (by decide +kernel) (by decide +kernel)
set_option maxRecDepth 20000 in
theorem gX2_account_X2_loadsInMachines : GoodIn wsX2_account (wsV RX2 83 RX2 yX2_loadsInMachines wsX2_loadsInMachines) := goodIn_app (goodIn_of _ (by decide +kernel)) ggX2_account_X2_loadsInMachines
set_option maxRecDepth 20000 in
theorem ggX2_account_X2_allPressure : GoodIn wsX2_account wsX2_allPressure := goodIn_r _ [29, 30, 31, 32, 33, 34, 35, 36, 37, 38, 39, 40, 41, 42, 43, 44, 45, 51, 52, 53, 54, 55] (by decide +kernel) (by decide +kernel)
set_option maxRecDepth 20000 in
theorem gX2_account_X2_allPressure : GoodIn wsX2_account (wsV RX2 93 RX2 yX2_allPressure wsX2_allPressure) := goodIn_app (goodIn_of _ (by decide +kernel)) ggX2_account_X2_allPressure
theorem dX2_account_0 : decode cX2_account 0 = .ok (.iload_n 1, 1) := by decide +kernel
theorem dX2_account_1 : decode cX2_account 1 = .ok (.tableswitch 144 0 13 #[71, 76, 81, 86, 91, 96, 101, 109, 114, 119, 124, 129, 134, 139], 71) := by decide +kernel
theorem dX2_account_72 : decode cX2_account 72 = .ok (.aload_n 0, 1) := by decide +kernel
theorem dX2_account_73 : decode cX2_account 73 = .ok (.getfield 49, 3) := by decide +kernel
theorem dX2_account_76 : decode cX2_account 76 = .ok (.ireturn, 1) := by decide +kernel
theorem dX2_account_77 : decode cX2_account 77 = .ok (.aload_n 0, 1) := by decide +kernel
theorem dX2_account_78 : decode cX2_account 78 = .ok (.getfield 32, 3) := by decide +kernel
theorem dX2_account_81 : decode cX2_account 81 = .ok (.ireturn, 1) := by decide +kernel
theorem dX2_account_82 : decode cX2_account 82 = .ok (.aload_n 0, 1) := by decide +kernel
theorem dX2_account_83 : decode cX2_account 83 = .ok (.getfield 58, 3) := by decide +kernel
theorem dX2_account_86 : decode cX2_account 86 = .ok (.ireturn, 1) := by decide +kernel
theorem dX2_account_87 : decode cX2_account 87 = .ok (.aload_n 0, 1) := by decide +kernel
theorem dX2_account_88 : decode cX2_account 88 = .ok (.getfield 61, 3) := by decide +kernel
theorem dX2_account_91 : decode cX2_account 91 = .ok (.ireturn, 1) := by decide +kernel
theorem dX2_account_92 : decode cX2_account 92 = .ok (.aload_n 0, 1) := by decide +kernel
theorem dX2_account_93 : decode cX2_account 93 = .ok (.getfield 36, 3) := by decide +kernel
theorem dX2_account_96 : decode cX2_account 96 = .ok (.ireturn, 1) := by decide +kernel
theorem dX2_account_97 : decode cX2_account 97 = .ok (.aload_n 0, 1) := by decide +kernel
theorem dX2_account_98 : decode cX2_account 98 = .ok (.invokevirtual 83, 3) := by decide +kernel
theorem dX2_account_101 : decode cX2_account 101 = .ok (.ireturn, 1) := by decide +kernel
theorem dX2_account_102 : decode cX2_account 102 = .ok (.aload_n 0, 1) := by decide +kernel
theorem dX2_account_103 : decode cX2_account 103 = .ok (.getfield 28, 3) := by decide +kernel
theorem dX2_account_106 : decode cX2_account 106 = .ok (.getfield 80, 3) := by decide +kernel
theorem dX2_account_109 : decode cX2_account 109 = .ok (.ireturn, 1) := by decide +kernel
theorem dX2_account_110 : decode cX2_account 110 = .ok (.aload_n 0, 1) := by decide +kernel
theorem dX2_account_111 : decode cX2_account 111 = .ok (.getfield 64, 3) := by decide +kernel
theorem dX2_account_114 : decode cX2_account 114 = .ok (.ireturn, 1) := by decide +kernel
theorem dX2_account_115 : decode cX2_account 115 = .ok (.aload_n 0, 1) := by decide +kernel
theorem dX2_account_116 : decode cX2_account 116 = .ok (.getfield 52, 3) := by decide +kernel
theorem dX2_account_119 : decode cX2_account 119 = .ok (.ireturn, 1) := by decide +kernel
theorem dX2_account_120 : decode cX2_account 120 = .ok (.aload_n 0, 1) := by decide +kernel
theorem dX2_account_121 : decode cX2_account 121 = .ok (.getfield 55, 3) := by decide +kernel
theorem dX2_account_124 : decode cX2_account 124 = .ok (.ireturn, 1) := by decide +kernel
theorem dX2_account_125 : decode cX2_account 125 = .ok (.aload_n 0, 1) := by decide +kernel
theorem dX2_account_126 : decode cX2_account 126 = .ok (.getfield 67, 3) := by decide +kernel
theorem dX2_account_129 : decode cX2_account 129 = .ok (.ireturn, 1) := by decide +kernel
theorem dX2_account_130 : decode cX2_account 130 = .ok (.aload_n 0, 1) := by decide +kernel
theorem dX2_account_131 : decode cX2_account 131 = .ok (.getfield 70, 3) := by decide +kernel
theorem dX2_account_134 : decode cX2_account 134 = .ok (.ireturn, 1) := by decide +kernel
theorem dX2_account_135 : decode cX2_account 135 = .ok (.aload_n 0, 1) := by decide +kernel
theorem dX2_account_136 : decode cX2_account 136 = .ok (.invokevirtual 93, 3) := by decide +kernel
theorem dX2_account_139 : decode cX2_account 139 = .ok (.ireturn, 1) := by decide +kernel
theorem dX2_account_140 : decode cX2_account 140 = .ok (.aload_n 0, 1) := by decide +kernel
theorem dX2_account_141 : decode cX2_account 141 = .ok (.getfield 73, 3) := by decide +kernel
theorem dX2_account_144 : decode cX2_account 144 = .ok (.ireturn, 1) := by decide +kernel
theorem dX2_account_145 : decode cX2_account 145 = .ok (.bipush (-2), 2) := by decide +kernel
theorem dX2_account_147 : decode cX2_account 147 = .ok (.ireturn, 1) := by decide +kernel
set_option maxRecDepth 20000 in
theorem ggX2_changeFire_X2_boilerAt : GoodIn wsX2_changeFire wsX2_boilerAt := goodIn_r _ [7, 8, 17, 18, 19, 20, 21, 22, 23, 24, 25, 26, 27, 28, 29, 30] (by decide +kernel) (by decide +kernel)
set_option maxRecDepth 20000 in
theorem gX2_changeFire_X2_boilerAt : GoodIn wsX2_changeFire (wsV RX2 96 RX2 yX2_boilerAt wsX2_boilerAt) := goodIn_app (goodIn_of _ (by decide +kernel)) ggX2_changeFire_X2_boilerAt
set_option maxRecDepth 20000 in
theorem ggX2_changeFire_X6_isWithin : GoodIn wsX2_changeFire wsX6_isWithin := goodIn_r _ [11] (by decide +kernel) (by decide +kernel)
set_option maxRecDepth 20000 in
theorem gX2_changeFire_X6_isWithin_n100 : GoodIn wsX2_changeFire (wsX6_isWithin) := ggX2_changeFire_X6_isWithin
theorem dX2_changeFire_0 : decode cX2_changeFire 0 = .ok (.aload_n 0, 1) := by decide +kernel
theorem dX2_changeFire_1 : decode cX2_changeFire 1 = .ok (.iload_n 1, 1) := by decide +kernel
theorem dX2_changeFire_2 : decode cX2_changeFire 2 = .ok (.invokevirtual 96, 3) := by decide +kernel
theorem dX2_changeFire_5 : decode cX2_changeFire 5 = .ok (.astore_n 3, 1) := by decide +kernel
theorem dX2_changeFire_6 : decode cX2_changeFire 6 = .ok (.aload_n 3, 1) := by decide +kernel
theorem dX2_changeFire_7 : decode cX2_changeFire 7 = .ok (.ifnonnull 5, 3) := by decide +kernel
theorem dX2_changeFire_10 : decode cX2_changeFire 10 = .ok (.iconst (-1), 1) := by decide +kernel
theorem dX2_changeFire_11 : decode cX2_changeFire 11 = .ok (.ireturn, 1) := by decide +kernel
theorem dX2_changeFire_12 : decode cX2_changeFire 12 = .ok (.iload_n 2, 1) := by decide +kernel
theorem dX2_changeFire_13 : decode cX2_changeFire 13 = .ok (.iconst 0, 1) := by decide +kernel
theorem dX2_changeFire_14 : decode cX2_changeFire 14 = .ok (.iconst 5, 1) := by decide +kernel
theorem dX2_changeFire_15 : decode cX2_changeFire 15 = .ok (.invokestatic 100, 3) := by decide +kernel
theorem dX2_changeFire_18 : decode cX2_changeFire 18 = .ok (.ifCond .ne 6, 3) := by decide +kernel
theorem dX2_changeFire_21 : decode cX2_changeFire 21 = .ok (.bipush (-2), 2) := by decide +kernel
theorem dX2_changeFire_23 : decode cX2_changeFire 23 = .ok (.ireturn, 1) := by decide +kernel
theorem dX2_changeFire_24 : decode cX2_changeFire 24 = .ok (.aload_n 3, 1) := by decide +kernel
theorem dX2_changeFire_25 : decode cX2_changeFire 25 = .ok (.getfield 104, 3) := by decide +kernel
theorem dX2_changeFire_28 : decode cX2_changeFire 28 = .ok (.ifCond .le 6, 3) := by decide +kernel
theorem dX2_changeFire_31 : decode cX2_changeFire 31 = .ok (.bipush (-4), 2) := by decide +kernel
theorem dX2_changeFire_33 : decode cX2_changeFire 33 = .ok (.ireturn, 1) := by decide +kernel
theorem dX2_changeFire_34 : decode cX2_changeFire 34 = .ok (.aload_n 3, 1) := by decide +kernel
theorem dX2_changeFire_35 : decode cX2_changeFire 35 = .ok (.getfield 107, 3) := by decide +kernel
theorem dX2_changeFire_38 : decode cX2_changeFire 38 = .ok (.iload_n 2, 1) := by decide +kernel
theorem dX2_changeFire_39 : decode cX2_changeFire 39 = .ok (.if_icmp .ne 6, 3) := by decide +kernel
theorem dX2_changeFire_42 : decode cX2_changeFire 42 = .ok (.bipush (-5), 2) := by decide +kernel
theorem dX2_changeFire_44 : decode cX2_changeFire 44 = .ok (.ireturn, 1) := by decide +kernel
theorem dX2_changeFire_45 : decode cX2_changeFire 45 = .ok (.aload_n 3, 1) := by decide +kernel
theorem dX2_changeFire_46 : decode cX2_changeFire 46 = .ok (.getfield 107, 3) := by decide +kernel
theorem dX2_changeFire_49 : decode cX2_changeFire 49 = .ok (.istore 4, 2) := by decide +kernel
theorem dX2_changeFire_51 : decode cX2_changeFire 51 = .ok (.aload_n 3, 1) := by decide +kernel
theorem dX2_changeFire_52 : decode cX2_changeFire 52 = .ok (.iload_n 2, 1) := by decide +kernel
theorem dX2_changeFire_53 : decode cX2_changeFire 53 = .ok (.putfield 107, 3) := by decide +kernel
theorem dX2_changeFire_56 : decode cX2_changeFire 56 = .ok (.iload 4, 2) := by decide +kernel
theorem dX2_changeFire_58 : decode cX2_changeFire 58 = .ok (.ireturn, 1) := by decide +kernel
set_option maxRecDepth 20000 in
theorem ggX2_letWaterIn_X2_boilerAt : GoodIn wsX2_letWaterIn wsX2_boilerAt := goodIn_r _ [6, 7, 16, 17, 18, 19, 20, 21, 22, 23, 24, 25, 26, 27, 28, 29] (by decide +kernel) (by decide +kernel)
set_option maxRecDepth 20000 in
theorem gX2_letWaterIn_X2_boilerAt : GoodIn wsX2_letWaterIn (wsV RX2 96 RX2 yX2_boilerAt wsX2_boilerAt) := goodIn_app (goodIn_of _ (by decide +kernel)) ggX2_letWaterIn_X2_boilerAt
set_option maxRecDepth 20000 in
theorem ggX2_letWaterIn_X6_isWithin : GoodIn wsX2_letWaterIn wsX6_isWithin := goodIn_r _ [10] (by decide +kernel) (by decide +kernel)
set_option maxRecDepth 20000 in
theorem gX2_letWaterIn_X6_isWithin_n100 : GoodIn wsX2_letWaterIn (wsX6_isWithin) := ggX2_letWaterIn_X6_isWithin
theorem dX2_letWaterIn_0 : decode cX2_letWaterIn 0 = .ok (.aload_n 0, 1) := by decide +kernel
theorem dX2_letWaterIn_1 : decode cX2_letWaterIn 1 = .ok (.iload_n 1, 1) := by decide +kernel
theorem dX2_letWaterIn_2 : decode cX2_letWaterIn 2 = .ok (.invokevirtual 96, 3) := by decide +kernel
theorem dX2_letWaterIn_5 : decode cX2_letWaterIn 5 = .ok (.astore_n 3, 1) := by decide +kernel
theorem dX2_letWaterIn_6 : decode cX2_letWaterIn 6 = .ok (.aload_n 3, 1) := by decide +kernel
theorem dX2_letWaterIn_7 : decode cX2_letWaterIn 7 = .ok (.ifnonnull 5, 3) := by decide +kernel
theorem dX2_letWaterIn_10 : decode cX2_letWaterIn 10 = .ok (.iconst (-1), 1) := by decide +kernel
theorem dX2_letWaterIn_11 : decode cX2_letWaterIn 11 = .ok (.ireturn, 1) := by decide +kernel
theorem dX2_letWaterIn_12 : decode cX2_letWaterIn 12 = .ok (.iload_n 2, 1) := by decide +kernel
theorem dX2_letWaterIn_13 : decode cX2_letWaterIn 13 = .ok (.iconst 1, 1) := by decide +kernel
theorem dX2_letWaterIn_14 : decode cX2_letWaterIn 14 = .ok (.sipush 200, 3) := by decide +kernel
theorem dX2_letWaterIn_17 : decode cX2_letWaterIn 17 = .ok (.invokestatic 100, 3) := by decide +kernel
theorem dX2_letWaterIn_20 : decode cX2_letWaterIn 20 = .ok (.ifCond .ne 6, 3) := by decide +kernel
theorem dX2_letWaterIn_23 : decode cX2_letWaterIn 23 = .ok (.bipush (-2), 2) := by decide +kernel
theorem dX2_letWaterIn_25 : decode cX2_letWaterIn 25 = .ok (.ireturn, 1) := by decide +kernel
theorem dX2_letWaterIn_26 : decode cX2_letWaterIn 26 = .ok (.aload_n 3, 1) := by decide +kernel
theorem dX2_letWaterIn_27 : decode cX2_letWaterIn 27 = .ok (.getfield 110, 3) := by decide +kernel
theorem dX2_letWaterIn_30 : decode cX2_letWaterIn 30 = .ok (.iload_n 2, 1) := by decide +kernel
theorem dX2_letWaterIn_31 : decode cX2_letWaterIn 31 = .ok (.iadd, 1) := by decide +kernel
theorem dX2_letWaterIn_32 : decode cX2_letWaterIn 32 = .ok (.sipush 200, 3) := by decide +kernel
theorem dX2_letWaterIn_35 : decode cX2_letWaterIn 35 = .ok (.if_icmp .le 6, 3) := by decide +kernel
theorem dX2_letWaterIn_38 : decode cX2_letWaterIn 38 = .ok (.bipush (-3), 2) := by decide +kernel
theorem dX2_letWaterIn_40 : decode cX2_letWaterIn 40 = .ok (.ireturn, 1) := by decide +kernel
theorem dX2_letWaterIn_41 : decode cX2_letWaterIn 41 = .ok (.aload_n 3, 1) := by decide +kernel
theorem dX2_letWaterIn_42 : decode cX2_letWaterIn 42 = .ok (.dup, 1) := by decide +kernel
theorem dX2_letWaterIn_43 : decode cX2_letWaterIn 43 = .ok (.getfield 110, 3) := by decide +kernel
theorem dX2_letWaterIn_46 : decode cX2_letWaterIn 46 = .ok (.iload_n 2, 1) := by decide +kernel
theorem dX2_letWaterIn_47 : decode cX2_letWaterIn 47 = .ok (.iadd, 1) := by decide +kernel
theorem dX2_letWaterIn_48 : decode cX2_letWaterIn 48 = .ok (.putfield 110, 3) := by decide +kernel
theorem dX2_letWaterIn_51 : decode cX2_letWaterIn 51 = .ok (.aload_n 3, 1) := by decide +kernel
theorem dX2_letWaterIn_52 : decode cX2_letWaterIn 52 = .ok (.getfield 110, 3) := by decide +kernel
theorem dX2_letWaterIn_55 : decode cX2_letWaterIn 55 = .ok (.ireturn, 1) := by decide +kernel
set_option maxRecDepth 20000 in
theorem ggX2_changeRation_X6_isWithin : GoodIn wsX2_changeRation wsX6_isWithin := goodIn_r _ [4] (by decide +kernel) (by decide +kernel)
set_option maxRecDepth 20000 in
theorem gX2_changeRation_X6_isWithin_n100 : GoodIn wsX2_changeRation (wsX6_isWithin) := ggX2_changeRation_X6_isWithin
theorem dX2_changeRation_0 : decode cX2_changeRation 0 = .ok (.iload_n 1, 1) := by decide +kernel
theorem dX2_changeRation_1 : decode cX2_changeRation 1 = .ok (.iconst 0, 1) := by decide +kernel
theorem dX2_changeRation_2 : decode cX2_changeRation 2 = .ok (.sipush 200, 3) := by decide +kernel
theorem dX2_changeRation_5 : decode cX2_changeRation 5 = .ok (.invokestatic 100, 3) := by decide +kernel
theorem dX2_changeRation_8 : decode cX2_changeRation 8 = .ok (.ifCond .ne 6, 3) := by decide +kernel
theorem dX2_changeRation_11 : decode cX2_changeRation 11 = .ok (.bipush (-2), 2) := by decide +kernel
theorem dX2_changeRation_13 : decode cX2_changeRation 13 = .ok (.ireturn, 1) := by decide +kernel
theorem dX2_changeRation_14 : decode cX2_changeRation 14 = .ok (.iload_n 1, 1) := by decide +kernel
theorem dX2_changeRation_15 : decode cX2_changeRation 15 = .ok (.aload_n 0, 1) := by decide +kernel
theorem dX2_changeRation_16 : decode cX2_changeRation 16 = .ok (.getfield 36, 3) := by decide +kernel
theorem dX2_changeRation_19 : decode cX2_changeRation 19 = .ok (.if_icmp .ne 6, 3) := by decide +kernel
theorem dX2_changeRation_22 : decode cX2_changeRation 22 = .ok (.bipush (-5), 2) := by decide +kernel
theorem dX2_changeRation_24 : decode cX2_changeRation 24 = .ok (.ireturn, 1) := by decide +kernel
theorem dX2_changeRation_25 : decode cX2_changeRation 25 = .ok (.aload_n 0, 1) := by decide +kernel
theorem dX2_changeRation_26 : decode cX2_changeRation 26 = .ok (.getfield 36, 3) := by decide +kernel
theorem dX2_changeRation_29 : decode cX2_changeRation 29 = .ok (.istore_n 2, 1) := by decide +kernel
theorem dX2_changeRation_30 : decode cX2_changeRation 30 = .ok (.aload_n 0, 1) := by decide +kernel
theorem dX2_changeRation_31 : decode cX2_changeRation 31 = .ok (.iload_n 1, 1) := by decide +kernel
theorem dX2_changeRation_32 : decode cX2_changeRation 32 = .ok (.putfield 36, 3) := by decide +kernel
theorem dX2_changeRation_35 : decode cX2_changeRation 35 = .ok (.iload_n 2, 1) := by decide +kernel
theorem dX2_changeRation_36 : decode cX2_changeRation 36 = .ok (.ireturn, 1) := by decide +kernel
set_option maxRecDepth 20000 in
theorem ggX2_startLoad_X2_machineAt : GoodIn wsX2_startLoad wsX2_machineAt := goodIn_r _ [7, 8, 122, 123, 124, 125, 126, 127, 128, 129, 130, 131, 132, 133, 134, 135] (by decide +kernel) (by decide +kernel)
set_option maxRecDepth 20000 in
theorem gX2_startLoad_X2_machineAt : GoodIn wsX2_startLoad (wsV RX2 113 RX2 yX2_machineAt wsX2_machineAt) := goodIn_app (goodIn_of _ (by decide +kernel)) ggX2_startLoad_X2_machineAt
set_option maxRecDepth 20000 in
theorem ggX2_startLoad_X6_isWithin : GoodIn wsX2_startLoad wsX6_isWithin := goodIn_r _ [11] (by decide +kernel) (by decide +kernel)
set_option maxRecDepth 20000 in
theorem gX2_startLoad_X6_isWithin_n100 : GoodIn wsX2_startLoad (wsX6_isWithin) := ggX2_startLoad_X6_isWithin

