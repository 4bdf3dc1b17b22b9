theorem dX7_fires_67 : decode cX7_fires 67 = .ok (.aload_n 0, 1) := by decide +kernel
theorem dX7_fires_68 : decode cX7_fires 68 = .ok (.getfield 7, 3) := by decide +kernel
theorem dX7_fires_71 : decode cX7_fires 71 = .ok (.iload_n 3, 1) := by decide +kernel
theorem dX7_fires_72 : decode cX7_fires 72 = .ok (.iaload, 1) := by decide +kernel
theorem dX7_fires_73 : decode cX7_fires 73 = .ok (.if_icmp .lt 78, 3) := by decide +kernel
theorem dX7_fires_76 : decode cX7_fires 76 = .ok (.aload_n 0, 1) := by decide +kernel
theorem dX7_fires_77 : decode cX7_fires 77 = .ok (.getfield 7, 3) := by decide +kernel
theorem dX7_fires_80 : decode cX7_fires 80 = .ok (.iload_n 1, 1) := by decide +kernel
theorem dX7_fires_81 : decode cX7_fires 81 = .ok (.bipush 10, 2) := by decide +kernel
theorem dX7_fires_83 : decode cX7_fires 83 = .ok (.iadd, 1) := by decide +kernel
theorem dX7_fires_84 : decode cX7_fires 84 = .ok (.dup2, 1) := by decide +kernel
theorem dX7_fires_85 : decode cX7_fires 85 = .ok (.iaload, 1) := by decide +kernel
theorem dX7_fires_86 : decode cX7_fires 86 = .ok (.aload_n 0, 1) := by decide +kernel
theorem dX7_fires_87 : decode cX7_fires 87 = .ok (.getfield 7, 3) := by decide +kernel
theorem dX7_fires_90 : decode cX7_fires 90 = .ok (.iload_n 3, 1) := by decide +kernel
theorem dX7_fires_91 : decode cX7_fires 91 = .ok (.iaload, 1) := by decide +kernel
theorem dX7_fires_92 : decode cX7_fires 92 = .ok (.isub, 1) := by decide +kernel
theorem dX7_fires_93 : decode cX7_fires 93 = .ok (.iastore, 1) := by decide +kernel
theorem dX7_fires_94 : decode cX7_fires 94 = .ok (.aload_n 0, 1) := by decide +kernel
theorem dX7_fires_95 : decode cX7_fires 95 = .ok (.getfield 7, 3) := by decide +kernel
theorem dX7_fires_98 : decode cX7_fires 98 = .ok (.iload_n 1, 1) := by decide +kernel
theorem dX7_fires_99 : decode cX7_fires 99 = .ok (.bipush 38, 2) := by decide +kernel
theorem dX7_fires_101 : decode cX7_fires 101 = .ok (.iadd, 1) := by decide +kernel
theorem dX7_fires_102 : decode cX7_fires 102 = .ok (.dup2, 1) := by decide +kernel
theorem dX7_fires_103 : decode cX7_fires 103 = .ok (.iaload, 1) := by decide +kernel
theorem dX7_fires_104 : decode cX7_fires 104 = .ok (.aload_n 0, 1) := by decide +kernel
theorem dX7_fires_105 : decode cX7_fires 105 = .ok (.getfield 7, 3) := by decide +kernel
theorem dX7_fires_108 : decode cX7_fires 108 = .ok (.iload_n 3, 1) := by decide +kernel
theorem dX7_fires_109 : decode cX7_fires 109 = .ok (.iaload, 1) := by decide +kernel
theorem dX7_fires_110 : decode cX7_fires 110 = .ok (.iadd, 1) := by decide +kernel
theorem dX7_fires_111 : decode cX7_fires 111 = .ok (.iastore, 1) := by decide +kernel
theorem dX7_fires_112 : decode cX7_fires 112 = .ok (.aload_n 0, 1) := by decide +kernel
theorem dX7_fires_113 : decode cX7_fires 113 = .ok (.getfield 7, 3) := by decide +kernel
theorem dX7_fires_116 : decode cX7_fires 116 = .ok (.iload_n 3, 1) := by decide +kernel
theorem dX7_fires_117 : decode cX7_fires 117 = .ok (.iconst 2, 1) := by decide +kernel
theorem dX7_fires_118 : decode cX7_fires 118 = .ok (.iadd, 1) := by decide +kernel
theorem dX7_fires_119 : decode cX7_fires 119 = .ok (.dup2, 1) := by decide +kernel
theorem dX7_fires_120 : decode cX7_fires 120 = .ok (.iaload, 1) := by decide +kernel
theorem dX7_fires_121 : decode cX7_fires 121 = .ok (.aload_n 0, 1) := by decide +kernel
theorem dX7_fires_122 : decode cX7_fires 122 = .ok (.getfield 7, 3) := by decide +kernel
theorem dX7_fires_125 : decode cX7_fires 125 = .ok (.iload_n 3, 1) := by decide +kernel
theorem dX7_fires_126 : decode cX7_fires 126 = .ok (.iaload, 1) := by decide +kernel
theorem dX7_fires_127 : decode cX7_fires 127 = .ok (.isub, 1) := by decide +kernel
theorem dX7_fires_128 : decode cX7_fires 128 = .ok (.iastore, 1) := by decide +kernel
theorem dX7_fires_129 : decode cX7_fires 129 = .ok (.aload_n 0, 1) := by decide +kernel
theorem dX7_fires_130 : decode cX7_fires 130 = .ok (.getfield 7, 3) := by decide +kernel
theorem dX7_fires_133 : decode cX7_fires 133 = .ok (.iload_n 3, 1) := by decide +kernel
theorem dX7_fires_134 : decode cX7_fires 134 = .ok (.iconst 4, 1) := by decide +kernel
theorem dX7_fires_135 : decode cX7_fires 135 = .ok (.iadd, 1) := by decide +kernel
theorem dX7_fires_136 : decode cX7_fires 136 = .ok (.dup2, 1) := by decide +kernel
theorem dX7_fires_137 : decode cX7_fires 137 = .ok (.iaload, 1) := by decide +kernel
theorem dX7_fires_138 : decode cX7_fires 138 = .ok (.iconst 3, 1) := by decide +kernel
theorem dX7_fires_139 : decode cX7_fires 139 = .ok (.aload_n 0, 1) := by decide +kernel
theorem dX7_fires_140 : decode cX7_fires 140 = .ok (.getfield 7, 3) := by decide +kernel
theorem dX7_fires_143 : decode cX7_fires 143 = .ok (.iload_n 3, 1) := by decide +kernel
theorem dX7_fires_144 : decode cX7_fires 144 = .ok (.iaload, 1) := by decide +kernel
theorem dX7_fires_145 : decode cX7_fires 145 = .ok (.imul, 1) := by decide +kernel
theorem dX7_fires_146 : decode cX7_fires 146 = .ok (.iadd, 1) := by decide +kernel
theorem dX7_fires_147 : decode cX7_fires 147 = .ok (.iastore, 1) := by decide +kernel
theorem dX7_fires_148 : decode cX7_fires 148 = .ok (.goto 10, 3) := by decide +kernel
theorem dX7_fires_151 : decode cX7_fires 151 = .ok (.aload_n 0, 1) := by decide +kernel
theorem dX7_fires_152 : decode cX7_fires 152 = .ok (.getfield 7, 3) := by decide +kernel
theorem dX7_fires_155 : decode cX7_fires 155 = .ok (.iload_n 3, 1) := by decide +kernel
theorem dX7_fires_156 : decode cX7_fires 156 = .ok (.iconst 0, 1) := by decide +kernel
theorem dX7_fires_157 : decode cX7_fires 157 = .ok (.iastore, 1) := by decide +kernel
theorem dX7_fires_158 : decode cX7_fires 158 = .ok (.return_, 1) := by decide +kernel
theorem dX7_need_0 : decode cX7_need 0 = .ok (.iconst 0, 1) := by decide +kernel
theorem dX7_need_1 : decode cX7_need 1 = .ok (.istore_n 2, 1) := by decide +kernel
theorem dX7_need_2 : decode cX7_need 2 = .ok (.iconst 0, 1) := by decide +kernel
theorem dX7_need_3 : decode cX7_need 3 = .ok (.istore_n 3, 1) := by decide +kernel
theorem dX7_need_4 : decode cX7_need 4 = .ok (.iload_n 3, 1) := by decide +kernel
theorem dX7_need_5 : decode cX7_need 5 = .ok (.iconst 4, 1) := by decide +kernel
theorem dX7_need_6 : decode cX7_need 6 = .ok (.if_icmp .ge 45, 3) := by decide +kernel
theorem dX7_need_9 : decode cX7_need 9 = .ok (.iload_n 2, 1) := by decide +kernel
theorem dX7_need_10 : decode cX7_need 10 = .ok (.aload_n 0, 1) := by decide +kernel
theorem dX7_need_11 : decode cX7_need 11 = .ok (.getfield 7, 3) := by decide +kernel
theorem dX7_need_14 : decode cX7_need 14 = .ok (.iload_n 1, 1) := by decide +kernel
theorem dX7_need_15 : decode cX7_need 15 = .ok (.bipush 13, 2) := by decide +kernel
theorem dX7_need_17 : decode cX7_need 17 = .ok (.iadd, 1) := by decide +kernel
theorem dX7_need_18 : decode cX7_need 18 = .ok (.iload_n 3, 1) := by decide +kernel
theorem dX7_need_19 : decode cX7_need 19 = .ok (.iadd, 1) := by decide +kernel
theorem dX7_need_20 : decode cX7_need 20 = .ok (.iaload, 1) := by decide +kernel
theorem dX7_need_21 : decode cX7_need 21 = .ok (.ifCond .ge 7, 3) := by decide +kernel
theorem dX7_need_24 : decode cX7_need 24 = .ok (.iconst 0, 1) := by decide +kernel
theorem dX7_need_25 : decode cX7_need 25 = .ok (.goto 18, 3) := by decide +kernel
theorem dX7_need_28 : decode cX7_need 28 = .ok (.iconst 2, 1) := by decide +kernel
theorem dX7_need_29 : decode cX7_need 29 = .ok (.aload_n 0, 1) := by decide +kernel
theorem dX7_need_30 : decode cX7_need 30 = .ok (.getfield 7, 3) := by decide +kernel
theorem dX7_need_33 : decode cX7_need 33 = .ok (.iload_n 1, 1) := by decide +kernel
theorem dX7_need_34 : decode cX7_need 34 = .ok (.bipush 13, 2) := by decide +kernel
theorem dX7_need_36 : decode cX7_need 36 = .ok (.iadd, 1) := by decide +kernel
theorem dX7_need_37 : decode cX7_need 37 = .ok (.iload_n 3, 1) := by decide +kernel
theorem dX7_need_38 : decode cX7_need 38 = .ok (.iadd, 1) := by decide +kernel
theorem dX7_need_39 : decode cX7_need 39 = .ok (.iaload, 1) := by decide +kernel
theorem dX7_need_40 : decode cX7_need 40 = .ok (.imul, 1) := by decide +kernel
theorem dX7_need_41 : decode cX7_need 41 = .ok (.iconst 2, 1) := by decide +kernel
theorem dX7_need_42 : decode cX7_need 42 = .ok (.iadd, 1) := by decide +kernel
theorem dX7_need_43 : decode cX7_need 43 = .ok (.iadd, 1) := by decide +kernel
theorem dX7_need_44 : decode cX7_need 44 = .ok (.istore_n 2, 1) := by decide +kernel
theorem dX7_need_45 : decode cX7_need 45 = .ok (.iinc 3 1, 3) := by decide +kernel
theorem dX7_need_48 : decode cX7_need 48 = .ok (.goto (-44), 3) := by decide +kernel
theorem dX7_need_51 : decode cX7_need 51 = .ok (.iload_n 2, 1) := by decide +kernel
theorem dX7_need_52 : decode cX7_need 52 = .ok (.ireturn, 1) := by decide +kernel
theorem dX7_pressure_0 : decode cX7_pressure 0 = .ok (.aload_n 0, 1) := by decide +kernel
theorem dX7_pressure_1 : decode cX7_pressure 1 = .ok (.getfield 7, 3) := by decide +kernel
theorem dX7_pressure_4 : decode cX7_pressure 4 = .ok (.iload_n 1, 1) := by decide +kernel
theorem dX7_pressure_5 : decode cX7_pressure 5 = .ok (.iconst 4, 1) := by decide +kernel
theorem dX7_pressure_6 : decode cX7_pressure 6 = .ok (.iadd, 1) := by decide +kernel
theorem dX7_pressure_7 : decode cX7_pressure 7 = .ok (.iaload, 1) := by decide +kernel
theorem dX7_pressure_8 : decode cX7_pressure 8 = .ok (.aload_n 0, 1) := by decide +kernel
theorem dX7_pressure_9 : decode cX7_pressure 9 = .ok (.getfield 7, 3) := by decide +kernel
theorem dX7_pressure_12 : decode cX7_pressure 12 = .ok (.iload_n 1, 1) := by decide +kernel
theorem dX7_pressure_13 : decode cX7_pressure 13 = .ok (.iconst 4, 1) := by decide +kernel
theorem dX7_pressure_14 : decode cX7_pressure 14 = .ok (.iadd, 1) := by decide +kernel
theorem dX7_pressure_15 : decode cX7_pressure 15 = .ok (.iconst 1, 1) := by decide +kernel
theorem dX7_pressure_16 : decode cX7_pressure 16 = .ok (.iadd, 1) := by decide +kernel
theorem dX7_pressure_17 : decode cX7_pressure 17 = .ok (.iaload, 1) := by decide +kernel
theorem dX7_pressure_18 : decode cX7_pressure 18 = .ok (.iadd, 1) := by decide +kernel
theorem dX7_pressure_19 : decode cX7_pressure 19 = .ok (.ireturn, 1) := by decide +kernel
theorem dX7_empties_0 : decode cX7_empties 0 = .ok (.aload_n 0, 1) := by decide +kernel
theorem dX7_empties_1 : decode cX7_empties 1 = .ok (.getfield 7, 3) := by decide +kernel
theorem dX7_empties_4 : decode cX7_empties 4 = .ok (.iload_n 1, 1) := by decide +kernel
theorem dX7_empties_5 : decode cX7_empties 5 = .ok (.bipush 13, 2) := by decide +kernel
theorem dX7_empties_7 : decode cX7_empties 7 = .ok (.iadd, 1) := by decide +kernel
theorem dX7_empties_8 : decode cX7_empties 8 = .ok (.iload_n 2, 1) := by decide +kernel
theorem dX7_empties_9 : decode cX7_empties 9 = .ok (.iadd, 1) := by decide +kernel
theorem dX7_empties_10 : decode cX7_empties 10 = .ok (.iconst (-1), 1) := by decide +kernel
theorem dX7_empties_11 : decode cX7_empties 11 = .ok (.iastore, 1) := by decide +kernel
theorem dX7_empties_12 : decode cX7_empties 12 = .ok (.aload_n 0, 1) := by decide +kernel
theorem dX7_empties_13 : decode cX7_empties 13 = .ok (.getfield 7, 3) := by decide +kernel
theorem dX7_empties_16 : decode cX7_empties 16 = .ok (.iload_n 1, 1) := by decide +kernel
theorem dX7_empties_17 : decode cX7_empties 17 = .ok (.bipush 17, 2) := by decide +kernel
theorem dX7_empties_19 : decode cX7_empties 19 = .ok (.iadd, 1) := by decide +kernel
theorem dX7_empties_20 : decode cX7_empties 20 = .ok (.iload_n 2, 1) := by decide +kernel
theorem dX7_empties_21 : decode cX7_empties 21 = .ok (.iadd, 1) := by decide +kernel
theorem dX7_empties_22 : decode cX7_empties 22 = .ok (.iconst 0, 1) := by decide +kernel
theorem dX7_empties_23 : decode cX7_empties 23 = .ok (.iastore, 1) := by decide +kernel
theorem dX7_empties_24 : decode cX7_empties 24 = .ok (.aload_n 0, 1) := by decide +kernel
theorem dX7_empties_25 : decode cX7_empties 25 = .ok (.getfield 7, 3) := by decide +kernel
theorem dX7_empties_28 : decode cX7_empties 28 = .ok (.iload_n 1, 1) := by decide +kernel
theorem dX7_empties_29 : decode cX7_empties 29 = .ok (.bipush 21, 2) := by decide +kernel
theorem dX7_empties_31 : decode cX7_empties 31 = .ok (.iadd, 1) := by decide +kernel
theorem dX7_empties_32 : decode cX7_empties 32 = .ok (.iload_n 2, 1) := by decide +kernel
theorem dX7_empties_33 : decode cX7_empties 33 = .ok (.iadd, 1) := by decide +kernel
theorem dX7_empties_34 : decode cX7_empties 34 = .ok (.iconst 0, 1) := by decide +kernel
theorem dX7_empties_35 : decode cX7_empties 35 = .ok (.iastore, 1) := by decide +kernel
theorem dX7_empties_36 : decode cX7_empties 36 = .ok (.return_, 1) := by decide +kernel
set_option maxRecDepth 20000 in
theorem ggX7_washes_X7_worthOf : GoodIn wsX7_washes wsX7_worthOf := goodIn_r _ [5] (by decide +kernel) (by decide +kernel)
set_option maxRecDepth 20000 in
theorem gX7_washes_X7_worthOf : GoodIn wsX7_washes (va_wsS RX7 31 yX7_worthOf wsX7_worthOf) := goodIn_app (goodIn_of _ (by decide +kernel)) ggX7_washes_X7_worthOf
set_option maxRecDepth 20000 in
theorem ggX7_washes_X7_empties : GoodIn wsX7_washes wsX7_empties := goodIn_r _ [9, 1, 10, 11, 12, 13, 14, 15, 16, 17, 18, 19, 20] (by decide +kernel) (by decide +kernel)
set_option maxRecDepth 20000 in
theorem gX7_washes_X7_empties : GoodIn wsX7_washes (wsV RX7 35 RX7 yX7_empties wsX7_empties) := goodIn_app (goodIn_of _ (by decide +kernel)) ggX7_washes_X7_empties
theorem dX7_washes_0 : decode cX7_washes 0 = .ok (.iconst 0, 1) := by decide +kernel
theorem dX7_washes_1 : decode cX7_washes 1 = .ok (.istore_n 2, 1) := by decide +kernel
theorem dX7_washes_2 : decode cX7_washes 2 = .ok (.iload_n 2, 1) := by decide +kernel
theorem dX7_washes_3 : decode cX7_washes 3 = .ok (.iconst 4, 1) := by decide +kernel
theorem dX7_washes_4 : decode cX7_washes 4 = .ok (.if_icmp .ge 89, 3) := by decide +kernel
theorem dX7_washes_7 : decode cX7_washes 7 = .ok (.aload_n 0, 1) := by decide +kernel
theorem dX7_washes_8 : decode cX7_washes 8 = .ok (.getfield 7, 3) := by decide +kernel
theorem dX7_washes_11 : decode cX7_washes 11 = .ok (.iload_n 1, 1) := by decide +kernel
theorem dX7_washes_12 : decode cX7_washes 12 = .ok (.bipush 13, 2) := by decide +kernel
theorem dX7_washes_14 : decode cX7_washes 14 = .ok (.iadd, 1) := by decide +kernel
theorem dX7_washes_15 : decode cX7_washes 15 = .ok (.iload_n 2, 1) := by decide +kernel
theorem dX7_washes_16 : decode cX7_washes 16 = .ok (.iadd, 1) := by decide +kernel
theorem dX7_washes_17 : decode cX7_washes 17 = .ok (.iaload, 1) := by decide +kernel
theorem dX7_washes_18 : decode cX7_washes 18 = .ok (.istore_n 3, 1) := by decide +kernel
theorem dX7_washes_19 : decode cX7_washes 19 = .ok (.iload_n 3, 1) := by decide +kernel
theorem dX7_washes_20 : decode cX7_washes 20 = .ok (.ifCond .lt 67, 3) := by decide +kernel
theorem dX7_washes_23 : decode cX7_washes 23 = .ok (.aload_n 0, 1) := by decide +kernel
theorem dX7_washes_24 : decode cX7_washes 24 = .ok (.getfield 7, 3) := by decide +kernel
theorem dX7_washes_27 : decode cX7_washes 27 = .ok (.iload_n 1, 1) := by decide +kernel
theorem dX7_washes_28 : decode cX7_washes 28 = .ok (.bipush 17, 2) := by decide +kernel
theorem dX7_washes_30 : decode cX7_washes 30 = .ok (.iadd, 1) := by decide +kernel
theorem dX7_washes_31 : decode cX7_washes 31 = .ok (.iload_n 2, 1) := by decide +kernel
theorem dX7_washes_32 : decode cX7_washes 32 = .ok (.iadd, 1) := by decide +kernel
theorem dX7_washes_33 : decode cX7_washes 33 = .ok (.dup2, 1) := by decide +kernel
theorem dX7_washes_34 : decode cX7_washes 34 = .ok (.iaload, 1) := by decide +kernel
theorem dX7_washes_35 : decode cX7_washes 35 = .ok (.iconst 1, 1) := by decide +kernel
theorem dX7_washes_36 : decode cX7_washes 36 = .ok (.isub, 1) := by decide +kernel
theorem dX7_washes_37 : decode cX7_washes 37 = .ok (.iastore, 1) := by decide +kernel
theorem dX7_washes_38 : decode cX7_washes 38 = .ok (.aload_n 0, 1) := by decide +kernel
theorem dX7_washes_39 : decode cX7_washes 39 = .ok (.getfield 7, 3) := by decide +kernel
theorem dX7_washes_42 : decode cX7_washes 42 = .ok (.iload_n 1, 1) := by decide +kernel
theorem dX7_washes_43 : decode cX7_washes 43 = .ok (.bipush 17, 2) := by decide +kernel
theorem dX7_washes_45 : decode cX7_washes 45 = .ok (.iadd, 1) := by decide +kernel
theorem dX7_washes_46 : decode cX7_washes 46 = .ok (.iload_n 2, 1) := by decide +kernel
theorem dX7_washes_47 : decode cX7_washes 47 = .ok (.iadd, 1) := by decide +kernel
theorem dX7_washes_48 : decode cX7_washes 48 = .ok (.iaload, 1) := by decide +kernel
theorem dX7_washes_49 : decode cX7_washes 49 = .ok (.ifCond .ne 38, 3) := by decide +kernel
theorem dX7_washes_52 : decode cX7_washes 52 = .ok (.aload_n 0, 1) := by decide +kernel
theorem dX7_washes_53 : decode cX7_washes 53 = .ok (.getfield 7, 3) := by decide +kernel
theorem dX7_washes_56 : decode cX7_washes 56 = .ok (.iload_n 1, 1) := by decide +kernel
theorem dX7_washes_57 : decode cX7_washes 57 = .ok (.bipush 41, 2) := by decide +kernel
theorem dX7_washes_59 : decode cX7_washes 59 = .ok (.iadd, 1) := by decide +kernel
theorem dX7_washes_60 : decode cX7_washes 60 = .ok (.dup2, 1) := by decide +kernel
theorem dX7_washes_61 : decode cX7_washes 61 = .ok (.iaload, 1) := by decide +kernel
theorem dX7_washes_62 : decode cX7_washes 62 = .ok (.iconst 1, 1) := by decide +kernel
theorem dX7_washes_63 : decode cX7_washes 63 = .ok (.iadd, 1) := by decide +kernel
theorem dX7_washes_64 : decode cX7_washes 64 = .ok (.iastore, 1) := by decide +kernel
theorem dX7_washes_65 : decode cX7_washes 65 = .ok (.aload_n 0, 1) := by decide +kernel
theorem dX7_washes_66 : decode cX7_washes 66 = .ok (.getfield 7, 3) := by decide +kernel
theorem dX7_washes_69 : decode cX7_washes 69 = .ok (.iload_n 1, 1) := by decide +kernel
theorem dX7_washes_70 : decode cX7_washes 70 = .ok (.bipush 44, 2) := by decide +kernel
theorem dX7_washes_72 : decode cX7_washes 72 = .ok (.iadd, 1) := by decide +kernel
theorem dX7_washes_73 : decode cX7_washes 73 = .ok (.dup2, 1) := by decide +kernel
theorem dX7_washes_74 : decode cX7_washes 74 = .ok (.iaload, 1) := by decide +kernel
theorem dX7_washes_75 : decode cX7_washes 75 = .ok (.iload_n 3, 1) := by decide +kernel
theorem dX7_washes_76 : decode cX7_washes 76 = .ok (.invokestatic 31, 3) := by decide +kernel
theorem dX7_washes_79 : decode cX7_washes 79 = .ok (.iadd, 1) := by decide +kernel
theorem dX7_washes_80 : decode cX7_washes 80 = .ok (.iastore, 1) := by decide +kernel
theorem dX7_washes_81 : decode cX7_washes 81 = .ok (.aload_n 0, 1) := by decide +kernel
theorem dX7_washes_82 : decode cX7_washes 82 = .ok (.iload_n 1, 1) := by decide +kernel
theorem dX7_washes_83 : decode cX7_washes 83 = .ok (.iload_n 2, 1) := by decide +kernel
theorem dX7_washes_84 : decode cX7_washes 84 = .ok (.invokevirtual 35, 3) := by decide +kernel
theorem dX7_washes_87 : decode cX7_washes 87 = .ok (.iinc 2 1, 3) := by decide +kernel
theorem dX7_washes_90 : decode cX7_washes 90 = .ok (.goto (-88), 3) := by decide +kernel
theorem dX7_washes_93 : decode cX7_washes 93 = .ok (.return_, 1) := by decide +kernel
set_option maxRecDepth 20000 in
theorem ggX7_waits_X7_empties : GoodIn wsX7_waits wsX7_empties := goodIn_r _ [6, 1, 7, 8, 9, 10, 11, 12, 13, 14, 15, 16, 17] (by decide +kernel) (by decide +kernel)
set_option maxRecDepth 20000 in
theorem gX7_waits_X7_empties : GoodIn wsX7_waits (wsV RX7 35 RX7 yX7_empties wsX7_empties) := goodIn_app (goodIn_of _ (by decide +kernel)) ggX7_waits_X7_empties
theorem dX7_waits_0 : decode cX7_waits 0 = .ok (.aload_n 0, 1) := by decide +kernel
theorem dX7_waits_1 : decode cX7_waits 1 = .ok (.getfield 7, 3) := by decide +kernel
theorem dX7_waits_4 : decode cX7_waits 4 = .ok (.iload_n 1, 1) := by decide +kernel
theorem dX7_waits_5 : decode cX7_waits 5 = .ok (.bipush 45, 2) := by decide +kernel
theorem dX7_waits_7 : decode cX7_waits 7 = .ok (.iadd, 1) := by decide +kernel
theorem dX7_waits_8 : decode cX7_waits 8 = .ok (.dup2, 1) := by decide +kernel
theorem dX7_waits_9 : decode cX7_waits 9 = .ok (.iaload, 1) := by decide +kernel
theorem dX7_waits_10 : decode cX7_waits 10 = .ok (.iconst 1, 1) := by decide +kernel
theorem dX7_waits_11 : decode cX7_waits 11 = .ok (.iadd, 1) := by decide +kernel
theorem dX7_waits_12 : decode cX7_waits 12 = .ok (.iastore, 1) := by decide +kernel
theorem dX7_waits_13 : decode cX7_waits 13 = .ok (.iconst 0, 1) := by decide +kernel
theorem dX7_waits_14 : decode cX7_waits 14 = .ok (.istore_n 2, 1) := by decide +kernel
theorem dX7_waits_15 : decode cX7_waits 15 = .ok (.iload_n 2, 1) := by decide +kernel
theorem dX7_waits_16 : decode cX7_waits 16 = .ok (.iconst 4, 1) := by decide +kernel
theorem dX7_waits_17 : decode cX7_waits 17 = .ok (.if_icmp .ge 72, 3) := by decide +kernel
theorem dX7_waits_20 : decode cX7_waits 20 = .ok (.aload_n 0, 1) := by decide +kernel
theorem dX7_waits_21 : decode cX7_waits 21 = .ok (.getfield 7, 3) := by decide +kernel
theorem dX7_waits_24 : decode cX7_waits 24 = .ok (.iload_n 1, 1) := by decide +kernel
theorem dX7_waits_25 : decode cX7_waits 25 = .ok (.bipush 13, 2) := by decide +kernel
theorem dX7_waits_27 : decode cX7_waits 27 = .ok (.iadd, 1) := by decide +kernel
theorem dX7_waits_28 : decode cX7_waits 28 = .ok (.iload_n 2, 1) := by decide +kernel
theorem dX7_waits_29 : decode cX7_waits 29 = .ok (.iadd, 1) := by decide +kernel
theorem dX7_waits_30 : decode cX7_waits 30 = .ok (.iaload, 1) := by decide +kernel
theorem dX7_waits_31 : decode cX7_waits 31 = .ok (.ifCond .lt 52, 3) := by decide +kernel
theorem dX7_waits_34 : decode cX7_waits 34 = .ok (.aload_n 0, 1) := by decide +kernel
theorem dX7_waits_35 : decode cX7_waits 35 = .ok (.getfield 7, 3) := by decide +kernel
theorem dX7_waits_38 : decode cX7_waits 38 = .ok (.iload_n 1, 1) := by decide +kernel
theorem dX7_waits_39 : decode cX7_waits 39 = .ok (.bipush 21, 2) := by decide +kernel
theorem dX7_waits_41 : decode cX7_waits 41 = .ok (.iadd, 1) := by decide +kernel
theorem dX7_waits_42 : decode cX7_waits 42 = .ok (.iload_n 2, 1) := by decide +kernel
theorem dX7_waits_43 : decode cX7_waits 43 = .ok (.iadd, 1) := by decide +kernel
theorem dX7_waits_44 : decode cX7_waits 44 = .ok (.dup2, 1) := by decide +kernel
theorem dX7_waits_45 : decode cX7_waits 45 = .ok (.iaload, 1) := by decide +kernel
theorem dX7_waits_46 : decode cX7_waits 46 = .ok (.iconst 1, 1) := by decide +kernel
theorem dX7_waits_47 : decode cX7_waits 47 = .ok (.iadd, 1) := by decide +kernel
theorem dX7_waits_48 : decode cX7_waits 48 = .ok (.iastore, 1) := by decide +kernel
theorem dX7_waits_49 : decode cX7_waits 49 = .ok (.aload_n 0, 1) := by decide +kernel
theorem dX7_waits_50 : decode cX7_waits 50 = .ok (.getfield 7, 3) := by decide +kernel
theorem dX7_waits_53 : decode cX7_waits 53 = .ok (.iload_n 1, 1) := by decide +kernel
theorem dX7_waits_54 : decode cX7_waits 54 = .ok (.bipush 21, 2) := by decide +kernel
theorem dX7_waits_56 : decode cX7_waits 56 = .ok (.iadd, 1) := by decide +kernel
theorem dX7_waits_57 : decode cX7_waits 57 = .ok (.iload_n 2, 1) := by decide +kernel
theorem dX7_waits_58 : decode cX7_waits 58 = .ok (.iadd, 1) := by decide +kernel
theorem dX7_waits_59 : decode cX7_waits 59 = .ok (.iaload, 1) := by decide +kernel
theorem dX7_waits_60 : decode cX7_waits 60 = .ok (.iconst 3, 1) := by decide +kernel
theorem dX7_waits_61 : decode cX7_waits 61 = .ok (.if_icmp .ne 22, 3) := by decide +kernel
theorem dX7_waits_64 : decode cX7_waits 64 = .ok (.aload_n 0, 1) := by decide +kernel
theorem dX7_waits_65 : decode cX7_waits 65 = .ok (.getfield 7, 3) := by decide +kernel
theorem dX7_waits_68 : decode cX7_waits 68 = .ok (.iload_n 1, 1) := by decide +kernel
theorem dX7_waits_69 : decode cX7_waits 69 = .ok (.bipush 42, 2) := by decide +kernel
theorem dX7_waits_71 : decode cX7_waits 71 = .ok (.iadd, 1) := by decide +kernel
theorem dX7_waits_72 : decode cX7_waits 72 = .ok (.dup2, 1) := by decide +kernel
theorem dX7_waits_73 : decode cX7_waits 73 = .ok (.iaload, 1) := by decide +kernel
theorem dX7_waits_74 : decode cX7_waits 74 = .ok (.iconst 1, 1) := by decide +kernel
theorem dX7_waits_75 : decode cX7_waits 75 = .ok (.iadd, 1) := by decide +kernel
theorem dX7_waits_76 : decode cX7_waits 76 = .ok (.iastore, 1) := by decide +kernel
theorem dX7_waits_77 : decode cX7_waits 77 = .ok (.aload_n 0, 1) := by decide +kernel
theorem dX7_waits_78 : decode cX7_waits 78 = .ok (.iload_n 1, 1) := by decide +kernel
theorem dX7_waits_79 : decode cX7_waits 79 = .ok (.iload_n 2, 1) := by decide +kernel
theorem dX7_waits_80 : decode cX7_waits 80 = .ok (.invokevirtual 35, 3) := by decide +kernel
theorem dX7_waits_83 : decode cX7_waits 83 = .ok (.iinc 2 1, 3) := by decide +kernel
theorem dX7_waits_86 : decode cX7_waits 86 = .ok (.goto (-71), 3) := by decide +kernel
theorem dX7_waits_89 : decode cX7_waits 89 = .ok (.return_, 1) := by decide +kernel
set_option maxRecDepth 20000 in
theorem ggX7_works_X7_need : GoodIn wsX7_works wsX7_need := goodIn_r _ [6, 1, 26, 27, 28, 29, 30, 31, 32, 33, 34, 35, 36] (by decide +kernel) (by decide +kernel)
set_option maxRecDepth 20000 in
theorem gX7_works_X7_need : GoodIn wsX7_works (wsV RX7 38 RX7 yX7_need wsX7_need) := goodIn_app (goodIn_of _ (by decide +kernel)) ggX7_works_X7_need
set_option maxRecDepth 20000 in
theorem ggX7_works_X7_pressure : GoodIn wsX7_works wsX7_pressure := goodIn_r _ [10, 1, 26, 27, 28, 29, 30, 31, 32, 33, 34, 35, 36] (by decide +kernel) (by decide +kernel)
set_option maxRecDepth 20000 in
theorem gX7_works_X7_pressure : GoodIn wsX7_works (wsV RX7 41 RX7 yX7_pressure wsX7_pressure) := goodIn_app (goodIn_of _ (by decide +kernel)) ggX7_works_X7_pressure
set_option maxRecDepth 20000 in
theorem ggX7_works_X7_waits : GoodIn wsX7_works wsX7_waits := goodIn_r _ [14, 1, 15, 16, 17, 5, 18, 26, 27, 28, 29, 30, 31, 32, 33, 34, 35, 36] (by decide +kernel) (by decide +kernel)
set_option maxRecDepth 20000 in
theorem gX7_works_X7_waits : GoodIn wsX7_works (wsV RX7 44 RX7 yX7_waits wsX7_waits) := goodIn_app (goodIn_of _ (by decide +kernel)) ggX7_works_X7_waits
set_option maxRecDepth 20000 in
theorem ggX7_works_X7_washes : GoodIn wsX7_works wsX7_washes := goodIn_r _ [22, 1, 23, 24, 5, 25, 15, 16, 17, 18, 26, 27, 28, 29, 30, 31, 32, 33, 34, 35, 36] (by decide +kernel) (by decide +kernel)
set_option maxRecDepth 20000 in
theorem gX7_works_X7_washes : GoodIn wsX7_works (wsV RX7 48 RX7 yX7_washes wsX7_washes) := goodIn_app (goodIn_of _ (by decide +kernel)) ggX7_works_X7_washes
theorem dX7_works_0 : decode cX7_works 0 = .ok (.aload_n 0, 1) := by decide +kernel
theorem dX7_works_1 : decode cX7_works 1 = .ok (.iload_n 1, 1) := by decide +kernel
theorem dX7_works_2 : decode cX7_works 2 = .ok (.invokevirtual 38, 3) := by decide +kernel
theorem dX7_works_5 : decode cX7_works 5 = .ok (.istore_n 2, 1) := by decide +kernel
theorem dX7_works_6 : decode cX7_works 6 = .ok (.aload_n 0, 1) := by decide +kernel
theorem dX7_works_7 : decode cX7_works 7 = .ok (.iload_n 1, 1) := by decide +kernel
theorem dX7_works_8 : decode cX7_works 8 = .ok (.invokevirtual 41, 3) := by decide +kernel
theorem dX7_works_11 : decode cX7_works 11 = .ok (.iload_n 2, 1) := by decide +kernel
theorem dX7_works_12 : decode cX7_works 12 = .ok (.if_icmp .ge 9, 3) := by decide +kernel
theorem dX7_works_15 : decode cX7_works 15 = .ok (.aload_n 0, 1) := by decide +kernel
theorem dX7_works_16 : decode cX7_works 16 = .ok (.iload_n 1, 1) := by decide +kernel
theorem dX7_works_17 : decode cX7_works 17 = .ok (.invokevirtual 44, 3) := by decide +kernel
theorem dX7_works_20 : decode cX7_works 20 = .ok (.return_, 1) := by decide +kernel
theorem dX7_works_21 : decode cX7_works 21 = .ok (.iconst 0, 1) := by decide +kernel
theorem dX7_works_22 : decode cX7_works 22 = .ok (.istore_n 3, 1) := by decide +kernel
theorem dX7_works_23 : decode cX7_works 23 = .ok (.iload_n 3, 1) := by decide +kernel
theorem dX7_works_24 : decode cX7_works 24 = .ok (.iload_n 2, 1) := by decide +kernel
theorem dX7_works_25 : decode cX7_works 25 = .ok (.if_icmp .ge 52, 3) := by decide +kernel
theorem dX7_works_28 : decode cX7_works 28 = .ok (.aload_n 0, 1) := by decide +kernel
theorem dX7_works_29 : decode cX7_works 29 = .ok (.getfield 7, 3) := by decide +kernel
theorem dX7_works_32 : decode cX7_works 32 = .ok (.iload_n 1, 1) := by decide +kernel
theorem dX7_works_33 : decode cX7_works 33 = .ok (.iconst 4, 1) := by decide +kernel
theorem dX7_works_34 : decode cX7_works 34 = .ok (.iadd, 1) := by decide +kernel
theorem dX7_works_35 : decode cX7_works 35 = .ok (.iaload, 1) := by decide +kernel
theorem dX7_works_36 : decode cX7_works 36 = .ok (.aload_n 0, 1) := by decide +kernel
theorem dX7_works_37 : decode cX7_works 37 = .ok (.getfield 7, 3) := by decide +kernel
theorem dX7_works_40 : decode cX7_works 40 = .ok (.iload_n 1, 1) := by decide +kernel
theorem dX7_works_41 : decode cX7_works 41 = .ok (.iconst 4, 1) := by decide +kernel
theorem dX7_works_42 : decode cX7_works 42 = .ok (.iadd, 1) := by decide +kernel
theorem dX7_works_43 : decode cX7_works 43 = .ok (.iconst 1, 1) := by decide +kernel
theorem dX7_works_44 : decode cX7_works 44 = .ok (.iadd, 1) := by decide +kernel
theorem dX7_works_45 : decode cX7_works 45 = .ok (.iaload, 1) := by decide +kernel
theorem dX7_works_46 : decode cX7_works 46 = .ok (.if_icmp .lt 7, 3) := by decide +kernel
theorem dX7_works_49 : decode cX7_works 49 = .ok (.iconst 0, 1) := by decide +kernel
theorem dX7_works_50 : decode cX7_works 50 = .ok (.goto 4, 3) := by decide +kernel
theorem dX7_works_53 : decode cX7_works 53 = .ok (.iconst 1, 1) := by decide +kernel
theorem dX7_works_54 : decode cX7_works 54 = .ok (.istore 4, 2) := by decide +kernel
theorem dX7_works_56 : decode cX7_works 56 = .ok (.aload_n 0, 1) := by decide +kernel
theorem dX7_works_57 : decode cX7_works 57 = .ok (.getfield 7, 3) := by decide +kernel
theorem dX7_works_60 : decode cX7_works 60 = .ok (.iload_n 1, 1) := by decide +kernel
theorem dX7_works_61 : decode cX7_works 61 = .ok (.iconst 4, 1) := by decide +kernel
theorem dX7_works_62 : decode cX7_works 62 = .ok (.iadd, 1) := by decide +kernel
theorem dX7_works_63 : decode cX7_works 63 = .ok (.iload 4, 2) := by decide +kernel
theorem dX7_works_65 : decode cX7_works 65 = .ok (.iadd, 1) := by decide +kernel
theorem dX7_works_66 : decode cX7_works 66 = .ok (.dup2, 1) := by decide +kernel
theorem dX7_works_67 : decode cX7_works 67 = .ok (.iaload, 1) := by decide +kernel
theorem dX7_works_68 : decode cX7_works 68 = .ok (.iconst 1, 1) := by decide +kernel
theorem dX7_works_69 : decode cX7_works 69 = .ok (.isub, 1) := by decide +kernel
theorem dX7_works_70 : decode cX7_works 70 = .ok (.iastore, 1) := by decide +kernel
theorem dX7_works_71 : decode cX7_works 71 = .ok (.iinc 3 1, 3) := by decide +kernel
theorem dX7_works_74 : decode cX7_works 74 = .ok (.goto (-51), 3) := by decide +kernel
theorem dX7_works_77 : decode cX7_works 77 = .ok (.aload_n 0, 1) := by decide +kernel
theorem dX7_works_78 : decode cX7_works 78 = .ok (.iload_n 1, 1) := by decide +kernel
theorem dX7_works_79 : decode cX7_works 79 = .ok (.invokevirtual 48, 3) := by decide +kernel
theorem dX7_works_82 : decode cX7_works 82 = .ok (.return_, 1) := by decide +kernel
theorem dX7_lowestEmpty_0 : decode cX7_lowestEmpty 0 = .ok (.iconst (-1), 1) := by decide +kernel
theorem dX7_lowestEmpty_1 : decode cX7_lowestEmpty 1 = .ok (.istore_n 2, 1) := by decide +kernel
theorem dX7_lowestEmpty_2 : decode cX7_lowestEmpty 2 = .ok (.iconst 3, 1) := by decide +kernel
theorem dX7_lowestEmpty_3 : decode cX7_lowestEmpty 3 = .ok (.istore_n 3, 1) := by decide +kernel
theorem dX7_lowestEmpty_4 : decode cX7_lowestEmpty 4 = .ok (.iload_n 3, 1) := by decide +kernel
theorem dX7_lowestEmpty_5 : decode cX7_lowestEmpty 5 = .ok (.ifCond .lt 29, 3) := by decide +kernel
theorem dX7_lowestEmpty_8 : decode cX7_lowestEmpty 8 = .ok (.aload_n 0, 1) := by decide +kernel
theorem dX7_lowestEmpty_9 : decode cX7_lowestEmpty 9 = .ok (.getfield 7, 3) := by decide +kernel
theorem dX7_lowestEmpty_12 : decode cX7_lowestEmpty 12 = .ok (.iload_n 1, 1) := by decide +kernel
theorem dX7_lowestEmpty_13 : decode cX7_lowestEmpty 13 = .ok (.bipush 13, 2) := by decide +kernel
theorem dX7_lowestEmpty_15 : decode cX7_lowestEmpty 15 = .ok (.iadd, 1) := by decide +kernel
theorem dX7_lowestEmpty_16 : decode cX7_lowestEmpty 16 = .ok (.iload_n 3, 1) := by decide +kernel
theorem dX7_lowestEmpty_17 : decode cX7_lowestEmpty 17 = .ok (.iadd, 1) := by decide +kernel
theorem dX7_lowestEmpty_18 : decode cX7_lowestEmpty 18 = .ok (.iaload, 1) := by decide +kernel
theorem dX7_lowestEmpty_19 : decode cX7_lowestEmpty 19 = .ok (.ifCond .ge 7, 3) := by decide +kernel
theorem dX7_lowestEmpty_22 : decode cX7_lowestEmpty 22 = .ok (.iload_n 3, 1) := by decide +kernel
theorem dX7_lowestEmpty_23 : decode cX7_lowestEmpty 23 = .ok (.goto 4, 3) := by decide +kernel
theorem dX7_lowestEmpty_26 : decode cX7_lowestEmpty 26 = .ok (.iload_n 2, 1) := by decide +kernel
theorem dX7_lowestEmpty_27 : decode cX7_lowestEmpty 27 = .ok (.istore_n 2, 1) := by decide +kernel
theorem dX7_lowestEmpty_28 : decode cX7_lowestEmpty 28 = .ok (.iinc 3 (-1), 3) := by decide +kernel
theorem dX7_lowestEmpty_31 : decode cX7_lowestEmpty 31 = .ok (.goto (-27), 3) := by decide +kernel
theorem dX7_lowestEmpty_34 : decode cX7_lowestEmpty 34 = .ok (.iload_n 2, 1) := by decide +kernel
theorem dX7_lowestEmpty_35 : decode cX7_lowestEmpty 35 = .ok (.ireturn, 1) := by decide +kernel
set_option maxRecDepth 20000 in
theorem ggX7_puts_X7_ticksOf : GoodIn wsX7_puts wsX7_ticksOf := goodIn_r _ [5] (by decide +kernel) (by decide +kernel)
set_option maxRecDepth 20000 in
theorem gX7_puts_X7_ticksOf : GoodIn wsX7_puts (va_wsS RX7 51 yX7_ticksOf wsX7_ticksOf) := goodIn_app (goodIn_of _ (by decide +kernel)) ggX7_puts_X7_ticksOf
theorem dX7_puts_0 : decode cX7_puts 0 = .ok (.aload_n 0, 1) := by decide +kernel
theorem dX7_puts_1 : decode cX7_puts 1 = .ok (.getfield 7, 3) := by decide +kernel
theorem dX7_puts_4 : decode cX7_puts 4 = .ok (.iload_n 1, 1) := by decide +kernel
theorem dX7_puts_5 : decode cX7_puts 5 = .ok (.bipush 13, 2) := by decide +kernel
theorem dX7_puts_7 : decode cX7_puts 7 = .ok (.iadd, 1) := by decide +kernel
theorem dX7_puts_8 : decode cX7_puts 8 = .ok (.iload_n 2, 1) := by decide +kernel
theorem dX7_puts_9 : decode cX7_puts 9 = .ok (.iadd, 1) := by decide +kernel
theorem dX7_puts_10 : decode cX7_puts 10 = .ok (.iload_n 3, 1) := by decide +kernel
theorem dX7_puts_11 : decode cX7_puts 11 = .ok (.iastore, 1) := by decide +kernel
theorem dX7_puts_12 : decode cX7_puts 12 = .ok (.aload_n 0, 1) := by decide +kernel
theorem dX7_puts_13 : decode cX7_puts 13 = .ok (.getfield 7, 3) := by decide +kernel
theorem dX7_puts_16 : decode cX7_puts 16 = .ok (.iload_n 1, 1) := by decide +kernel
theorem dX7_puts_17 : decode cX7_puts 17 = .ok (.bipush 17, 2) := by decide +kernel
theorem dX7_puts_19 : decode cX7_puts 19 = .ok (.iadd, 1) := by decide +kernel
theorem dX7_puts_20 : decode cX7_puts 20 = .ok (.iload_n 2, 1) := by decide +kernel
theorem dX7_puts_21 : decode cX7_puts 21 = .ok (.iadd, 1) := by decide +kernel
theorem dX7_puts_22 : decode cX7_puts 22 = .ok (.iload_n 3, 1) := by decide +kernel
theorem dX7_puts_23 : decode cX7_puts 23 = .ok (.invokestatic 51, 3) := by decide +kernel
theorem dX7_puts_26 : decode cX7_puts 26 = .ok (.iastore, 1) := by decide +kernel
theorem dX7_puts_27 : decode cX7_puts 27 = .ok (.aload_n 0, 1) := by decide +kernel
theorem dX7_puts_28 : decode cX7_puts 28 = .ok (.getfield 7, 3) := by decide +kernel
theorem dX7_puts_31 : decode cX7_puts 31 = .ok (.iload_n 1, 1) := by decide +kernel
theorem dX7_puts_32 : decode cX7_puts 32 = .ok (.bipush 21, 2) := by decide +kernel
theorem dX7_puts_34 : decode cX7_puts 34 = .ok (.iadd, 1) := by decide +kernel
theorem dX7_puts_35 : decode cX7_puts 35 = .ok (.iload_n 2, 1) := by decide +kernel
theorem dX7_puts_36 : decode cX7_puts 36 = .ok (.iadd, 1) := by decide +kernel
theorem dX7_puts_37 : decode cX7_puts 37 = .ok (.iconst 0, 1) := by decide +kernel
theorem dX7_puts_38 : decode cX7_puts 38 = .ok (.iastore, 1) := by decide +kernel
theorem dX7_puts_39 : decode cX7_puts 39 = .ok (.aload_n 0, 1) := by decide +kernel
theorem dX7_puts_40 : decode cX7_puts 40 = .ok (.getfield 7, 3) := by decide +kernel
theorem dX7_puts_43 : decode cX7_puts 43 = .ok (.iload_n 1, 1) := by decide +kernel
theorem dX7_puts_44 : decode cX7_puts 44 = .ok (.bipush 40, 2) := by decide +kernel
theorem dX7_puts_46 : decode cX7_puts 46 = .ok (.iadd, 1) := by decide +kernel
theorem dX7_puts_47 : decode cX7_puts 47 = .ok (.dup2, 1) := by decide +kernel
theorem dX7_puts_48 : decode cX7_puts 48 = .ok (.iaload, 1) := by decide +kernel
theorem dX7_puts_49 : decode cX7_puts 49 = .ok (.iconst 1, 1) := by decide +kernel
theorem dX7_puts_50 : decode cX7_puts 50 = .ok (.iadd, 1) := by decide +kernel
theorem dX7_puts_51 : decode cX7_puts 51 = .ok (.iastore, 1) := by decide +kernel
theorem dX7_puts_52 : decode cX7_puts 52 = .ok (.return_, 1) := by decide +kernel
set_option maxRecDepth 20000 in
theorem ggX7_passes_X7_fires : GoodIn wsX7_passes wsX7_fires := goodIn_r _ [6, 1, 34, 35, 36, 37, 38, 39, 40, 41, 42, 43, 44] (by decide +kernel) (by decide +kernel)
set_option maxRecDepth 20000 in
theorem gX7_passes_X7_fires : GoodIn wsX7_passes (wsV RX7 54 RX7 yX7_fires wsX7_fires) := goodIn_app (goodIn_of _ (by decide +kernel)) ggX7_passes_X7_fires
set_option maxRecDepth 20000 in
theorem ggX7_passes_X7_works : GoodIn wsX7_passes wsX7_works := goodIn_r _ [10, 1, 11, 12, 13, 5, 14, 15, 16, 17, 18, 19, 20, 21, 22, 23, 24, 25, 26, 27, 28, 29, 30, 31, 32, 33, 34, 35, 36, 37, 38, 39, 40, 41, 42, 43, 44] (by decide +kernel) (by decide +kernel)
set_option maxRecDepth 20000 in
theorem gX7_passes_X7_works : GoodIn wsX7_passes (wsV RX7 57 RX7 yX7_works wsX7_works) := goodIn_app (goodIn_of _ (by decide +kernel)) ggX7_passes_X7_works
theorem dX7_passes_0 : decode cX7_passes 0 = .ok (.aload_n 0, 1) := by decide +kernel
theorem dX7_passes_1 : decode cX7_passes 1 = .ok (.getfield 7, 3) := by decide +kernel
theorem dX7_passes_4 : decode cX7_passes 4 = .ok (.iload_n 1, 1) := by decide +kernel
theorem dX7_passes_5 : decode cX7_passes 5 = .ok (.bipush 12, 2) := by decide +kernel
theorem dX7_passes_7 : decode cX7_passes 7 = .ok (.iadd, 1) := by decide +kernel
theorem dX7_passes_8 : decode cX7_passes 8 = .ok (.dup2, 1) := by decide +kernel
theorem dX7_passes_9 : decode cX7_passes 9 = .ok (.iaload, 1) := by decide +kernel
theorem dX7_passes_10 : decode cX7_passes 10 = .ok (.iconst 1, 1) := by decide +kernel
theorem dX7_passes_11 : decode cX7_passes 11 = .ok (.iadd, 1) := by decide +kernel
theorem dX7_passes_12 : decode cX7_passes 12 = .ok (.iastore, 1) := by decide +kernel
theorem dX7_passes_13 : decode cX7_passes 13 = .ok (.aload_n 0, 1) := by decide +kernel
theorem dX7_passes_14 : decode cX7_passes 14 = .ok (.getfield 7, 3) := by decide +kernel
theorem dX7_passes_17 : decode cX7_passes 17 = .ok (.iload_n 1, 1) := by decide +kernel
theorem dX7_passes_18 : decode cX7_passes 18 = .ok (.bipush 12, 2) := by decide +kernel
theorem dX7_passes_20 : decode cX7_passes 20 = .ok (.iadd, 1) := by decide +kernel
theorem dX7_passes_21 : decode cX7_passes 21 = .ok (.iaload, 1) := by decide +kernel
theorem dX7_passes_22 : decode cX7_passes 22 = .ok (.bipush 60, 2) := by decide +kernel
theorem dX7_passes_24 : decode cX7_passes 24 = .ok (.irem, 1) := by decide +kernel
theorem dX7_passes_25 : decode cX7_passes 25 = .ok (.ifCond .ne 70, 3) := by decide +kernel
theorem dX7_passes_28 : decode cX7_passes 28 = .ok (.sipush 999, 3) := by decide +kernel
theorem dX7_passes_31 : decode cX7_passes 31 = .ok (.aload_n 0, 1) := by decide +kernel
theorem dX7_passes_32 : decode cX7_passes 32 = .ok (.getfield 7, 3) := by decide +kernel
theorem dX7_passes_35 : decode cX7_passes 35 = .ok (.iload_n 1, 1) := by decide +kernel
theorem dX7_passes_36 : decode cX7_passes 36 = .ok (.bipush 10, 2) := by decide +kernel
theorem dX7_passes_38 : decode cX7_passes 38 = .ok (.iadd, 1) := by decide +kernel
theorem dX7_passes_39 : decode cX7_passes 39 = .ok (.iaload, 1) := by decide +kernel
theorem dX7_passes_40 : decode cX7_passes 40 = .ok (.isub, 1) := by decide +kernel
theorem dX7_passes_41 : decode cX7_passes 41 = .ok (.istore_n 2, 1) := by decide +kernel
theorem dX7_passes_42 : decode cX7_passes 42 = .ok (.aload_n 0, 1) := by decide +kernel
theorem dX7_passes_43 : decode cX7_passes 43 = .ok (.getfield 7, 3) := by decide +kernel
theorem dX7_passes_46 : decode cX7_passes 46 = .ok (.iload_n 1, 1) := by decide +kernel
theorem dX7_passes_47 : decode cX7_passes 47 = .ok (.bipush 11, 2) := by decide +kernel
theorem dX7_passes_49 : decode cX7_passes 49 = .ok (.iadd, 1) := by decide +kernel
theorem dX7_passes_50 : decode cX7_passes 50 = .ok (.iaload, 1) := by decide +kernel
theorem dX7_passes_51 : decode cX7_passes 51 = .ok (.iload_n 2, 1) := by decide +kernel
theorem dX7_passes_52 : decode cX7_passes 52 = .ok (.if_icmp .ge 15, 3) := by decide +kernel
theorem dX7_passes_55 : decode cX7_passes 55 = .ok (.aload_n 0, 1) := by decide +kernel
theorem dX7_passes_56 : decode cX7_passes 56 = .ok (.getfield 7, 3) := by decide +kernel
theorem dX7_passes_59 : decode cX7_passes 59 = .ok (.iload_n 1, 1) := by decide +kernel
theorem dX7_passes_60 : decode cX7_passes 60 = .ok (.bipush 11, 2) := by decide +kernel
theorem dX7_passes_62 : decode cX7_passes 62 = .ok (.iadd, 1) := by decide +kernel
theorem dX7_passes_63 : decode cX7_passes 63 = .ok (.iaload, 1) := by decide +kernel
theorem dX7_passes_64 : decode cX7_passes 64 = .ok (.goto 4, 3) := by decide +kernel
theorem dX7_passes_67 : decode cX7_passes 67 = .ok (.iload_n 2, 1) := by decide +kernel
theorem dX7_passes_68 : decode cX7_passes 68 = .ok (.istore_n 3, 1) := by decide +kernel
theorem dX7_passes_69 : decode cX7_passes 69 = .ok (.aload_n 0, 1) := by decide +kernel
theorem dX7_passes_70 : decode cX7_passes 70 = .ok (.getfield 7, 3) := by decide +kernel
theorem dX7_passes_73 : decode cX7_passes 73 = .ok (.iload_n 1, 1) := by decide +kernel
theorem dX7_passes_74 : decode cX7_passes 74 = .ok (.bipush 10, 2) := by decide +kernel
theorem dX7_passes_76 : decode cX7_passes 76 = .ok (.iadd, 1) := by decide +kernel
theorem dX7_passes_77 : decode cX7_passes 77 = .ok (.dup2, 1) := by decide +kernel
theorem dX7_passes_78 : decode cX7_passes 78 = .ok (.iaload, 1) := by decide +kernel
theorem dX7_passes_79 : decode cX7_passes 79 = .ok (.iload_n 3, 1) := by decide +kernel
theorem dX7_passes_80 : decode cX7_passes 80 = .ok (.iadd, 1) := by decide +kernel
theorem dX7_passes_81 : decode cX7_passes 81 = .ok (.iastore, 1) := by decide +kernel
theorem dX7_passes_82 : decode cX7_passes 82 = .ok (.aload_n 0, 1) := by decide +kernel
theorem dX7_passes_83 : decode cX7_passes 83 = .ok (.getfield 7, 3) := by decide +kernel
theorem dX7_passes_86 : decode cX7_passes 86 = .ok (.iload_n 1, 1) := by decide +kernel
theorem dX7_passes_87 : decode cX7_passes 87 = .ok (.bipush 39, 2) := by decide +kernel
theorem dX7_passes_89 : decode cX7_passes 89 = .ok (.iadd, 1) := by decide +kernel
theorem dX7_passes_90 : decode cX7_passes 90 = .ok (.dup2, 1) := by decide +kernel
theorem dX7_passes_91 : decode cX7_passes 91 = .ok (.iaload, 1) := by decide +kernel
theorem dX7_passes_92 : decode cX7_passes 92 = .ok (.iload_n 3, 1) := by decide +kernel
theorem dX7_passes_93 : decode cX7_passes 93 = .ok (.iadd, 1) := by decide +kernel
theorem dX7_passes_94 : decode cX7_passes 94 = .ok (.iastore, 1) := by decide +kernel
theorem dX7_passes_95 : decode cX7_passes 95 = .ok (.aload_n 0, 1) := by decide +kernel
theorem dX7_passes_96 : decode cX7_passes 96 = .ok (.iload_n 1, 1) := by decide +kernel
theorem dX7_passes_97 : decode cX7_passes 97 = .ok (.iconst 0, 1) := by decide +kernel
theorem dX7_passes_98 : decode cX7_passes 98 = .ok (.invokevirtual 54, 3) := by decide +kernel
theorem dX7_passes_101 : decode cX7_passes 101 = .ok (.aload_n 0, 1) := by decide +kernel
theorem dX7_passes_102 : decode cX7_passes 102 = .ok (.iload_n 1, 1) := by decide +kernel
theorem dX7_passes_103 : decode cX7_passes 103 = .ok (.iconst 1, 1) := by decide +kernel
theorem dX7_passes_104 : decode cX7_passes 104 = .ok (.invokevirtual 54, 3) := by decide +kernel
theorem dX7_passes_107 : decode cX7_passes 107 = .ok (.aload_n 0, 1) := by decide +kernel
theorem dX7_passes_108 : decode cX7_passes 108 = .ok (.iload_n 1, 1) := by decide +kernel
theorem dX7_passes_109 : decode cX7_passes 109 = .ok (.invokevirtual 57, 3) := by decide +kernel
theorem dX7_passes_112 : decode cX7_passes 112 = .ok (.iconst 0, 1) := by decide +kernel
theorem dX7_passes_113 : decode cX7_passes 113 = .ok (.istore_n 2, 1) := by decide +kernel
theorem dX7_passes_114 : decode cX7_passes 114 = .ok (.iload_n 2, 1) := by decide +kernel
theorem dX7_passes_115 : decode cX7_passes 115 = .ok (.iconst 2, 1) := by decide +kernel
theorem dX7_passes_116 : decode cX7_passes 116 = .ok (.if_icmp .ge 94, 3) := by decide +kernel
theorem dX7_passes_119 : decode cX7_passes 119 = .ok (.iload_n 1, 1) := by decide +kernel
theorem dX7_passes_120 : decode cX7_passes 120 = .ok (.iconst 4, 1) := by decide +kernel
theorem dX7_passes_121 : decode cX7_passes 121 = .ok (.iadd, 1) := by decide +kernel
theorem dX7_passes_122 : decode cX7_passes 122 = .ok (.iload_n 2, 1) := by decide +kernel
theorem dX7_passes_123 : decode cX7_passes 123 = .ok (.iadd, 1) := by decide +kernel
theorem dX7_passes_124 : decode cX7_passes 124 = .ok (.istore_n 3, 1) := by decide +kernel
theorem dX7_passes_125 : decode cX7_passes 125 = .ok (.aload_n 0, 1) := by decide +kernel
theorem dX7_passes_126 : decode cX7_passes 126 = .ok (.getfield 7, 3) := by decide +kernel
theorem dX7_passes_129 : decode cX7_passes 129 = .ok (.iload_n 3, 1) := by decide +kernel
theorem dX7_passes_130 : decode cX7_passes 130 = .ok (.dup2, 1) := by decide +kernel
theorem dX7_passes_131 : decode cX7_passes 131 = .ok (.iaload, 1) := by decide +kernel
theorem dX7_passes_132 : decode cX7_passes 132 = .ok (.aload_n 0, 1) := by decide +kernel
theorem dX7_passes_133 : decode cX7_passes 133 = .ok (.getfield 7, 3) := by decide +kernel
theorem dX7_passes_136 : decode cX7_passes 136 = .ok (.iload_n 3, 1) := by decide +kernel
theorem dX7_passes_137 : decode cX7_passes 137 = .ok (.iaload, 1) := by decide +kernel
theorem dX7_passes_138 : decode cX7_passes 138 = .ok (.ifCond .le 7, 3) := by decide +kernel
theorem dX7_passes_141 : decode cX7_passes 141 = .ok (.iconst 1, 1) := by decide +kernel
theorem dX7_passes_142 : decode cX7_passes 142 = .ok (.goto 4, 3) := by decide +kernel
theorem dX7_passes_145 : decode cX7_passes 145 = .ok (.iconst 0, 1) := by decide +kernel
theorem dX7_passes_146 : decode cX7_passes 146 = .ok (.isub, 1) := by decide +kernel
theorem dX7_passes_147 : decode cX7_passes 147 = .ok (.iastore, 1) := by decide +kernel
theorem dX7_passes_148 : decode cX7_passes 148 = .ok (.aload_n 0, 1) := by decide +kernel
theorem dX7_passes_149 : decode cX7_passes 149 = .ok (.getfield 7, 3) := by decide +kernel
theorem dX7_passes_152 : decode cX7_passes 152 = .ok (.iload_n 3, 1) := by decide +kernel
theorem dX7_passes_153 : decode cX7_passes 153 = .ok (.iaload, 1) := by decide +kernel
theorem dX7_passes_154 : decode cX7_passes 154 = .ok (.bipush 70, 2) := by decide +kernel
theorem dX7_passes_156 : decode cX7_passes 156 = .ok (.if_icmp .le 48, 3) := by decide +kernel
theorem dX7_passes_159 : decode cX7_passes 159 = .ok (.aload_n 0, 1) := by decide +kernel
theorem dX7_passes_160 : decode cX7_passes 160 = .ok (.getfield 7, 3) := by decide +kernel
theorem dX7_passes_163 : decode cX7_passes 163 = .ok (.iload_n 3, 1) := by decide +kernel
theorem dX7_passes_164 : decode cX7_passes 164 = .ok (.bipush 30, 2) := by decide +kernel
theorem dX7_passes_166 : decode cX7_passes 166 = .ok (.iastore, 1) := by decide +kernel
theorem dX7_passes_167 : decode cX7_passes 167 = .ok (.aload_n 0, 1) := by decide +kernel
theorem dX7_passes_168 : decode cX7_passes 168 = .ok (.getfield 7, 3) := by decide +kernel
theorem dX7_passes_171 : decode cX7_passes 171 = .ok (.iload_n 1, 1) := by decide +kernel
theorem dX7_passes_172 : decode cX7_passes 172 = .ok (.iload_n 2, 1) := by decide +kernel
theorem dX7_passes_173 : decode cX7_passes 173 = .ok (.iadd, 1) := by decide +kernel
theorem dX7_passes_174 : decode cX7_passes 174 = .ok (.iconst 0, 1) := by decide +kernel
theorem dX7_passes_175 : decode cX7_passes 175 = .ok (.iastore, 1) := by decide +kernel
theorem dX7_passes_176 : decode cX7_passes 176 = .ok (.aload_n 0, 1) := by decide +kernel
theorem dX7_passes_177 : decode cX7_passes 177 = .ok (.getfield 7, 3) := by decide +kernel
theorem dX7_passes_180 : decode cX7_passes 180 = .ok (.iload_n 1, 1) := by decide +kernel
theorem dX7_passes_181 : decode cX7_passes 181 = .ok (.bipush 6, 2) := by decide +kernel
theorem dX7_passes_183 : decode cX7_passes 183 = .ok (.iadd, 1) := by decide +kernel
theorem dX7_passes_184 : decode cX7_passes 184 = .ok (.iload_n 2, 1) := by decide +kernel
theorem dX7_passes_185 : decode cX7_passes 185 = .ok (.iadd, 1) := by decide +kernel
theorem dX7_passes_186 : decode cX7_passes 186 = .ok (.bipush 10, 2) := by decide +kernel
theorem dX7_passes_188 : decode cX7_passes 188 = .ok (.iastore, 1) := by decide +kernel
theorem dX7_passes_189 : decode cX7_passes 189 = .ok (.aload_n 0, 1) := by decide +kernel
theorem dX7_passes_190 : decode cX7_passes 190 = .ok (.getfield 7, 3) := by decide +kernel
theorem dX7_passes_193 : decode cX7_passes 193 = .ok (.iload_n 1, 1) := by decide +kernel
theorem dX7_passes_194 : decode cX7_passes 194 = .ok (.bipush 8, 2) := by decide +kernel
theorem dX7_passes_196 : decode cX7_passes 196 = .ok (.iadd, 1) := by decide +kernel
theorem dX7_passes_197 : decode cX7_passes 197 = .ok (.iload_n 2, 1) := by decide +kernel
theorem dX7_passes_198 : decode cX7_passes 198 = .ok (.iadd, 1) := by decide +kernel
theorem dX7_passes_199 : decode cX7_passes 199 = .ok (.dup2, 1) := by decide +kernel
theorem dX7_passes_200 : decode cX7_passes 200 = .ok (.iaload, 1) := by decide +kernel
theorem dX7_passes_201 : decode cX7_passes 201 = .ok (.iconst 1, 1) := by decide +kernel
theorem dX7_passes_202 : decode cX7_passes 202 = .ok (.iadd, 1) := by decide +kernel
theorem dX7_passes_203 : decode cX7_passes 203 = .ok (.iastore, 1) := by decide +kernel
theorem dX7_passes_204 : decode cX7_passes 204 = .ok (.iinc 2 1, 3) := by decide +kernel
theorem dX7_passes_207 : decode cX7_passes 207 = .ok (.goto (-93), 3) := by decide +kernel
theorem dX7_passes_210 : decode cX7_passes 210 = .ok (.return_, 1) := by decide +kernel
set_option maxRecDepth 20000 in
theorem ggX7_why_X7_pressure : GoodIn wsX7_why wsX7_pressure := goodIn_r _ [6, 1, 49, 50, 51, 52, 53, 54, 55, 56, 57, 58, 59] (by decide +kernel) (by decide +kernel)
set_option maxRecDepth 20000 in
theorem gX7_why_X7_pressure : GoodIn wsX7_why (wsV RX7 41 RX7 yX7_pressure wsX7_pressure) := goodIn_app (goodIn_of _ (by decide +kernel)) ggX7_why_X7_pressure
set_option maxRecDepth 20000 in
theorem ggX7_why_X7_copies : GoodIn wsX7_why wsX7_copies := goodIn_r _ [10, 1, 49, 50, 51, 52, 53, 54, 55, 56, 57, 58, 59] (by decide +kernel) (by decide +kernel)
set_option maxRecDepth 20000 in
theorem gX7_why_X7_copies : GoodIn wsX7_why (wsV RX7 27 RX7 yX7_copies wsX7_copies) := goodIn_app (goodIn_of _ (by decide +kernel)) ggX7_why_X7_copies
set_option maxRecDepth 20000 in
theorem ggX7_why_X7_puts : GoodIn wsX7_why wsX7_puts := goodIn_r _ [14, 1, 15, 16, 5, 17, 49, 50, 51, 52, 53, 54, 55, 56, 57, 58, 59] (by decide +kernel) (by decide +kernel)
set_option maxRecDepth 20000 in
theorem gX7_why_X7_puts : GoodIn wsX7_why (wsV RX7 60 RX7 yX7_puts wsX7_puts) := goodIn_app (goodIn_of _ (by decide +kernel)) ggX7_why_X7_puts
set_option maxRecDepth 20000 in
theorem ggX7_why_X7_passes : GoodIn wsX7_why wsX7_passes := goodIn_r _ [21, 1, 22, 23, 24, 5, 25, 26, 27, 28, 29, 30, 31, 32, 33, 2, 3, 4, 6, 34, 35, 36, 37, 38, 39, 40, 41, 42, 43, 44, 45, 46, 47, 48, 49, 50, 51, 52, 53, 54, 55, 56, 57, 58, 59] (by decide +kernel) (by decide +kernel)
set_option maxRecDepth 20000 in
theorem gX7_why_X7_passes : GoodIn wsX7_why (wsV RX7 64 RX7 yX7_passes wsX7_passes) := goodIn_app (goodIn_of _ (by decide +kernel)) ggX7_why_X7_passes
theorem dX7_why_0 : decode cX7_why 0 = .ok (.bipush 46, 2) := by decide +kernel
theorem dX7_why_2 : decode cX7_why 2 = .ok (.iload_n 1, 1) := by decide +kernel
theorem dX7_why_3 : decode cX7_why 3 = .ok (.imul, 1) := by decide +kernel
theorem dX7_why_4 : decode cX7_why 4 = .ok (.istore 4, 2) := by decide +kernel
theorem dX7_why_6 : decode cX7_why 6 = .ok (.iload_n 2, 1) := by decide +kernel
theorem dX7_why_7 : decode cX7_why 7 = .ok (.ifCond .lt 18, 3) := by decide +kernel
theorem dX7_why_10 : decode cX7_why 10 = .ok (.aload_n 0, 1) := by decide +kernel
theorem dX7_why_11 : decode cX7_why 11 = .ok (.getfield 7, 3) := by decide +kernel
theorem dX7_why_14 : decode cX7_why 14 = .ok (.iload 4, 2) := by decide +kernel
theorem dX7_why_16 : decode cX7_why 16 = .ok (.bipush 13, 2) := by decide +kernel
theorem dX7_why_18 : decode cX7_why 18 = .ok (.iadd, 1) := by decide +kernel
theorem dX7_why_19 : decode cX7_why 19 = .ok (.iload_n 2, 1) := by decide +kernel
theorem dX7_why_20 : decode cX7_why 20 = .ok (.iadd, 1) := by decide +kernel
theorem dX7_why_21 : decode cX7_why 21 = .ok (.iaload, 1) := by decide +kernel
theorem dX7_why_22 : decode cX7_why 22 = .ok (.ifCond .lt 5, 3) := by decide +kernel
theorem dX7_why_25 : decode cX7_why 25 = .ok (.iconst 1, 1) := by decide +kernel
theorem dX7_why_26 : decode cX7_why 26 = .ok (.ireturn, 1) := by decide +kernel
theorem dX7_why_27 : decode cX7_why 27 = .ok (.aload_n 0, 1) := by decide +kernel
theorem dX7_why_28 : decode cX7_why 28 = .ok (.iload 4, 2) := by decide +kernel
theorem dX7_why_30 : decode cX7_why 30 = .ok (.invokevirtual 41, 3) := by decide +kernel
theorem dX7_why_33 : decode cX7_why 33 = .ok (.bipush 10, 2) := by decide +kernel
theorem dX7_why_35 : decode cX7_why 35 = .ok (.if_icmp .ge 5, 3) := by decide +kernel
theorem dX7_why_38 : decode cX7_why 38 = .ok (.iconst 2, 1) := by decide +kernel
theorem dX7_why_39 : decode cX7_why 39 = .ok (.ireturn, 1) := by decide +kernel
theorem dX7_why_40 : decode cX7_why 40 = .ok (.aload_n 0, 1) := by decide +kernel
theorem dX7_why_41 : decode cX7_why 41 = .ok (.iload_n 1, 1) := by decide +kernel
theorem dX7_why_42 : decode cX7_why 42 = .ok (.bipush 7, 2) := by decide +kernel
theorem dX7_why_44 : decode cX7_why 44 = .ok (.invokevirtual 27, 3) := by decide +kernel
theorem dX7_why_47 : decode cX7_why 47 = .ok (.sipush 322, 3) := by decide +kernel
theorem dX7_why_50 : decode cX7_why 50 = .ok (.istore 5, 2) := by decide +kernel
theorem dX7_why_52 : decode cX7_why 52 = .ok (.aload_n 0, 1) := by decide +kernel
theorem dX7_why_53 : decode cX7_why 53 = .ok (.iload 5, 2) := by decide +kernel
theorem dX7_why_55 : decode cX7_why 55 = .ok (.iload_n 2, 1) := by decide +kernel
theorem dX7_why_56 : decode cX7_why 56 = .ok (.iload_n 3, 1) := by decide +kernel
theorem dX7_why_57 : decode cX7_why 57 = .ok (.invokevirtual 60, 3) := by decide +kernel
theorem dX7_why_60 : decode cX7_why 60 = .ok (.aload_n 0, 1) := by decide +kernel
theorem dX7_why_61 : decode cX7_why 61 = .ok (.getfield 7, 3) := by decide +kernel
theorem dX7_why_64 : decode cX7_why 64 = .ok (.iload 5, 2) := by decide +kernel
theorem dX7_why_66 : decode cX7_why 66 = .ok (.bipush 45, 2) := by decide +kernel
theorem dX7_why_68 : decode cX7_why 68 = .ok (.iadd, 1) := by decide +kernel
theorem dX7_why_69 : decode cX7_why 69 = .ok (.iaload, 1) := by decide +kernel
theorem dX7_why_70 : decode cX7_why 70 = .ok (.istore 6, 2) := by decide +kernel
theorem dX7_why_72 : decode cX7_why 72 = .ok (.aload_n 0, 1) := by decide +kernel
theorem dX7_why_73 : decode cX7_why 73 = .ok (.getfield 7, 3) := by decide +kernel
theorem dX7_why_76 : decode cX7_why 76 = .ok (.iload 5, 2) := by decide +kernel
theorem dX7_why_78 : decode cX7_why 78 = .ok (.bipush 13, 2) := by decide +kernel
theorem dX7_why_80 : decode cX7_why 80 = .ok (.iadd, 1) := by decide +kernel
theorem dX7_why_81 : decode cX7_why 81 = .ok (.iload_n 2, 1) := by decide +kernel
theorem dX7_why_82 : decode cX7_why 82 = .ok (.iadd, 1) := by decide +kernel
theorem dX7_why_83 : decode cX7_why 83 = .ok (.iaload, 1) := by decide +kernel
theorem dX7_why_84 : decode cX7_why 84 = .ok (.ifCond .lt 27, 3) := by decide +kernel
theorem dX7_why_87 : decode cX7_why 87 = .ok (.aload_n 0, 1) := by decide +kernel
theorem dX7_why_88 : decode cX7_why 88 = .ok (.getfield 7, 3) := by decide +kernel
theorem dX7_why_91 : decode cX7_why 91 = .ok (.iload 5, 2) := by decide +kernel
theorem dX7_why_93 : decode cX7_why 93 = .ok (.bipush 45, 2) := by decide +kernel
theorem dX7_why_95 : decode cX7_why 95 = .ok (.iadd, 1) := by decide +kernel
theorem dX7_why_96 : decode cX7_why 96 = .ok (.iaload, 1) := by decide +kernel
theorem dX7_why_97 : decode cX7_why 97 = .ok (.iload 6, 2) := by decide +kernel
theorem dX7_why_99 : decode cX7_why 99 = .ok (.if_icmp .ne 12, 3) := by decide +kernel
theorem dX7_why_102 : decode cX7_why 102 = .ok (.aload_n 0, 1) := by decide +kernel
theorem dX7_why_103 : decode cX7_why 103 = .ok (.iload 5, 2) := by decide +kernel
theorem dX7_why_105 : decode cX7_why 105 = .ok (.invokevirtual 64, 3) := by decide +kernel
theorem dX7_why_108 : decode cX7_why 108 = .ok (.goto (-36), 3) := by decide +kernel
theorem dX7_why_111 : decode cX7_why 111 = .ok (.aload_n 0, 1) := by decide +kernel
theorem dX7_why_112 : decode cX7_why 112 = .ok (.getfield 7, 3) := by decide +kernel
theorem dX7_why_115 : decode cX7_why 115 = .ok (.iload 5, 2) := by decide +kernel
theorem dX7_why_117 : decode cX7_why 117 = .ok (.bipush 45, 2) := by decide +kernel
theorem dX7_why_119 : decode cX7_why 119 = .ok (.iadd, 1) := by decide +kernel
theorem dX7_why_120 : decode cX7_why 120 = .ok (.iaload, 1) := by decide +kernel
theorem dX7_why_121 : decode cX7_why 121 = .ok (.iload 6, 2) := by decide +kernel
theorem dX7_why_123 : decode cX7_why 123 = .ok (.if_icmp .ne 7, 3) := by decide +kernel
theorem dX7_why_126 : decode cX7_why 126 = .ok (.iconst 0, 1) := by decide +kernel
theorem dX7_why_127 : decode cX7_why 127 = .ok (.goto 4, 3) := by decide +kernel
theorem dX7_why_130 : decode cX7_why 130 = .ok (.iconst 3, 1) := by decide +kernel
theorem dX7_why_131 : decode cX7_why 131 = .ok (.ireturn, 1) := by decide +kernel
theorem dX7_leaves_0 : decode cX7_leaves 0 = .ok (.aload_n 0, 1) := by decide +kernel
theorem dX7_leaves_1 : decode cX7_leaves 1 = .ok (.getfield 7, 3) := by decide +kernel
theorem dX7_leaves_4 : decode cX7_leaves 4 = .ok (.iload_n 1, 1) := by decide +kernel
theorem dX7_leaves_5 : decode cX7_leaves 5 = .ok (.bipush 26, 2) := by decide +kernel
theorem dX7_leaves_7 : decode cX7_leaves 7 = .ok (.iadd, 1) := by decide +kernel
theorem dX7_leaves_8 : decode cX7_leaves 8 = .ok (.iload_n 2, 1) := by decide +kernel
theorem dX7_leaves_9 : decode cX7_leaves 9 = .ok (.iadd, 1) := by decide +kernel
theorem dX7_leaves_10 : decode cX7_leaves 10 = .ok (.iaload, 1) := by decide +kernel
theorem dX7_leaves_11 : decode cX7_leaves 11 = .ok (.istore_n 3, 1) := by decide +kernel
theorem dX7_leaves_12 : decode cX7_leaves 12 = .ok (.iload_n 2, 1) := by decide +kernel
theorem dX7_leaves_13 : decode cX7_leaves 13 = .ok (.istore 4, 2) := by decide +kernel
theorem dX7_leaves_15 : decode cX7_leaves 15 = .ok (.iload 4, 2) := by decide +kernel
theorem dX7_leaves_17 : decode cX7_leaves 17 = .ok (.iconst 1, 1) := by decide +kernel
theorem dX7_leaves_18 : decode cX7_leaves 18 = .ok (.iadd, 1) := by decide +kernel
theorem dX7_leaves_19 : decode cX7_leaves 19 = .ok (.aload_n 0, 1) := by decide +kernel
theorem dX7_leaves_20 : decode cX7_leaves 20 = .ok (.getfield 7, 3) := by decide +kernel
theorem dX7_leaves_23 : decode cX7_leaves 23 = .ok (.iload_n 1, 1) := by decide +kernel
theorem dX7_leaves_24 : decode cX7_leaves 24 = .ok (.bipush 25, 2) := by decide +kernel
theorem dX7_leaves_26 : decode cX7_leaves 26 = .ok (.iadd, 1) := by decide +kernel
theorem dX7_leaves_27 : decode cX7_leaves 27 = .ok (.iaload, 1) := by decide +kernel
theorem dX7_leaves_28 : decode cX7_leaves 28 = .ok (.if_icmp .ge 35, 3) := by decide +kernel
theorem dX7_leaves_31 : decode cX7_leaves 31 = .ok (.aload_n 0, 1) := by decide +kernel
theorem dX7_leaves_32 : decode cX7_leaves 32 = .ok (.getfield 7, 3) := by decide +kernel
theorem dX7_leaves_35 : decode cX7_leaves 35 = .ok (.iload_n 1, 1) := by decide +kernel
theorem dX7_leaves_36 : decode cX7_leaves 36 = .ok (.bipush 26, 2) := by decide +kernel
theorem dX7_leaves_38 : decode cX7_leaves 38 = .ok (.iadd, 1) := by decide +kernel
theorem dX7_leaves_39 : decode cX7_leaves 39 = .ok (.iload 4, 2) := by decide +kernel
theorem dX7_leaves_41 : decode cX7_leaves 41 = .ok (.iadd, 1) := by decide +kernel
theorem dX7_leaves_42 : decode cX7_leaves 42 = .ok (.aload_n 0, 1) := by decide +kernel
theorem dX7_leaves_43 : decode cX7_leaves 43 = .ok (.getfield 7, 3) := by decide +kernel
theorem dX7_leaves_46 : decode cX7_leaves 46 = .ok (.iload_n 1, 1) := by decide +kernel
theorem dX7_leaves_47 : decode cX7_leaves 47 = .ok (.bipush 26, 2) := by decide +kernel
theorem dX7_leaves_49 : decode cX7_leaves 49 = .ok (.iadd, 1) := by decide +kernel
theorem dX7_leaves_50 : decode cX7_leaves 50 = .ok (.iload 4, 2) := by decide +kernel
theorem dX7_leaves_52 : decode cX7_leaves 52 = .ok (.iadd, 1) := by decide +kernel
theorem dX7_leaves_53 : decode cX7_leaves 53 = .ok (.iconst 1, 1) := by decide +kernel
theorem dX7_leaves_54 : decode cX7_leaves 54 = .ok (.iadd, 1) := by decide +kernel
theorem dX7_leaves_55 : decode cX7_leaves 55 = .ok (.iaload, 1) := by decide +kernel
theorem dX7_leaves_56 : decode cX7_leaves 56 = .ok (.iastore, 1) := by decide +kernel
theorem dX7_leaves_57 : decode cX7_leaves 57 = .ok (.iinc 4 1, 3) := by decide +kernel
theorem dX7_leaves_60 : decode cX7_leaves 60 = .ok (.goto (-45), 3) := by decide +kernel
theorem dX7_leaves_63 : decode cX7_leaves 63 = .ok (.aload_n 0, 1) := by decide +kernel
theorem dX7_leaves_64 : decode cX7_leaves 64 = .ok (.getfield 7, 3) := by decide +kernel
theorem dX7_leaves_67 : decode cX7_leaves 67 = .ok (.iload_n 1, 1) := by decide +kernel
theorem dX7_leaves_68 : decode cX7_leaves 68 = .ok (.bipush 25, 2) := by decide +kernel
theorem dX7_leaves_70 : decode cX7_leaves 70 = .ok (.iadd, 1) := by decide +kernel
theorem dX7_leaves_71 : decode cX7_leaves 71 = .ok (.dup2, 1) := by decide +kernel
theorem dX7_leaves_72 : decode cX7_leaves 72 = .ok (.iaload, 1) := by decide +kernel
theorem dX7_leaves_73 : decode cX7_leaves 73 = .ok (.iconst 1, 1) := by decide +kernel
theorem dX7_leaves_74 : decode cX7_leaves 74 = .ok (.isub, 1) := by decide +kernel
theorem dX7_leaves_75 : decode cX7_leaves 75 = .ok (.iastore, 1) := by decide +kernel
theorem dX7_leaves_76 : decode cX7_leaves 76 = .ok (.iload_n 3, 1) := by decide +kernel
theorem dX7_leaves_77 : decode cX7_leaves 77 = .ok (.ireturn, 1) := by decide +kernel
set_option maxRecDepth 20000 in
theorem ggX7_ticks_X7_passes : GoodIn wsX7_ticks wsX7_passes := goodIn_r _ [6, 1, 7, 8, 9, 5, 10, 11, 12, 13, 14, 15, 16, 17, 18, 19, 20, 21, 22, 23, 24, 25, 26, 27, 28, 29, 30, 31, 32, 33, 34, 35, 36, 37, 61, 62, 63, 64, 65, 66, 67, 68, 69, 70, 71] (by decide +kernel) (by decide +kernel)
set_option maxRecDepth 20000 in
theorem gX7_ticks_X7_passes : GoodIn wsX7_ticks (wsV RX7 64 RX7 yX7_passes wsX7_passes) := goodIn_app (goodIn_of _ (by decide +kernel)) ggX7_ticks_X7_passes
set_option maxRecDepth 20000 in
theorem ggX7_ticks_X7_lowestEmpty : GoodIn wsX7_ticks wsX7_lowestEmpty := goodIn_r _ [41, 1, 61, 62, 63, 64, 65, 66, 67, 68, 69, 70, 71] (by decide +kernel) (by decide +kernel)
set_option maxRecDepth 20000 in
theorem gX7_ticks_X7_lowestEmpty : GoodIn wsX7_ticks (wsV RX7 67 RX7 yX7_lowestEmpty wsX7_lowestEmpty) := goodIn_app (goodIn_of _ (by decide +kernel)) ggX7_ticks_X7_lowestEmpty
set_option maxRecDepth 20000 in
theorem ggX7_ticks_X7_why : GoodIn wsX7_ticks wsX7_why := goodIn_r _ [45, 1, 19, 20, 21, 5, 22, 46, 47, 48, 49, 50, 51, 52, 53, 54, 55, 56, 2, 3, 4, 6, 7, 8, 9, 10, 11, 12, 13, 14, 15, 16, 17, 18, 23, 24, 25, 26, 27, 28, 29, 30, 31, 32, 33, 34, 35, 36, 37, 61, 62, 63, 64, 65, 66, 67, 68, 69, 70, 71] (by decide +kernel) (by decide +kernel)
set_option maxRecDepth 20000 in
theorem gX7_ticks_X7_why : GoodIn wsX7_ticks (wsV RX7 70 RX7 yX7_why wsX7_why) := goodIn_app (goodIn_of _ (by decide +kernel)) ggX7_ticks_X7_why
set_option maxRecDepth 20000 in
theorem ggX7_ticks_X7_leaves : GoodIn wsX7_ticks wsX7_leaves := goodIn_r _ [60, 1, 61, 62, 63, 64, 65, 66, 67, 68, 69, 70, 71] (by decide +kernel) (by decide +kernel)
set_option maxRecDepth 20000 in
theorem gX7_ticks_X7_leaves : GoodIn wsX7_ticks (wsV RX7 74 RX7 yX7_leaves wsX7_leaves) := goodIn_app (goodIn_of _ (by decide +kernel)) ggX7_ticks_X7_leaves
set_option maxRecDepth 20000 in
theorem ggX7_ticks_X7_puts : GoodIn wsX7_ticks wsX7_puts := goodIn_r _ [53, 1, 54, 55, 5, 56, 61, 62, 63, 64, 65, 66, 67, 68, 69, 70, 71] (by decide +kernel) (by decide +kernel)
set_option maxRecDepth 20000 in
theorem gX7_ticks_X7_puts : GoodIn wsX7_ticks (wsV RX7 60 RX7 yX7_puts wsX7_puts) := goodIn_app (goodIn_of _ (by decide +kernel)) ggX7_ticks_X7_puts
theorem dX7_ticks_0 : decode cX7_ticks 0 = .ok (.bipush 46, 2) := by decide +kernel
theorem dX7_ticks_2 : decode cX7_ticks 2 = .ok (.iload_n 1, 1) := by decide +kernel
theorem dX7_ticks_3 : decode cX7_ticks 3 = .ok (.imul, 1) := by decide +kernel
theorem dX7_ticks_4 : decode cX7_ticks 4 = .ok (.istore_n 3, 1) := by decide +kernel
theorem dX7_ticks_5 : decode cX7_ticks 5 = .ok (.iconst 0, 1) := by decide +kernel
theorem dX7_ticks_6 : decode cX7_ticks 6 = .ok (.istore 4, 2) := by decide +kernel
theorem dX7_ticks_8 : decode cX7_ticks 8 = .ok (.iload 4, 2) := by decide +kernel
theorem dX7_ticks_10 : decode cX7_ticks 10 = .ok (.iload_n 2, 1) := by decide +kernel
theorem dX7_ticks_11 : decode cX7_ticks 11 = .ok (.if_icmp .ge 65, 3) := by decide +kernel
theorem dX7_ticks_14 : decode cX7_ticks 14 = .ok (.aload_n 0, 1) := by decide +kernel

