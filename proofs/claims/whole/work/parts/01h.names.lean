theorem dX7_reads_147 : decode cX7_reads 147 = .ok (.bipush 119, 2) := by decide +kernel
theorem dX7_reads_149 : decode cX7_reads 149 = .ok (.if_icmp .eq 9, 3) := by decide +kernel
theorem dX7_reads_152 : decode cX7_reads 152 = .ok (.iload_n 1, 1) := by decide +kernel
theorem dX7_reads_153 : decode cX7_reads 153 = .ok (.bipush 109, 2) := by decide +kernel
theorem dX7_reads_155 : decode cX7_reads 155 = .ok (.if_icmp .ne 65, 3) := by decide +kernel
theorem dX7_reads_158 : decode cX7_reads 158 = .ok (.aload_n 0, 1) := by decide +kernel
theorem dX7_reads_159 : decode cX7_reads 159 = .ok (.aload_n 0, 1) := by decide +kernel
theorem dX7_reads_160 : decode cX7_reads 160 = .ok (.bipush 58, 2) := by decide +kernel
theorem dX7_reads_162 : decode cX7_reads 162 = .ok (.bipush 58, 2) := by decide +kernel
theorem dX7_reads_164 : decode cX7_reads 164 = .ok (.invokevirtual 117, 3) := by decide +kernel
theorem dX7_reads_167 : decode cX7_reads 167 = .ok (.putfield 107, 3) := by decide +kernel
theorem dX7_reads_170 : decode cX7_reads 170 = .ok (.aload_n 0, 1) := by decide +kernel
theorem dX7_reads_171 : decode cX7_reads 171 = .ok (.dup, 1) := by decide +kernel
theorem dX7_reads_172 : decode cX7_reads 172 = .ok (.getfield 111, 3) := by decide +kernel
theorem dX7_reads_175 : decode cX7_reads 175 = .ok (.aload_n 0, 1) := by decide +kernel
theorem dX7_reads_176 : decode cX7_reads 176 = .ok (.getfield 107, 3) := by decide +kernel
theorem dX7_reads_179 : decode cX7_reads 179 = .ok (.ifCond .eq 7, 3) := by decide +kernel
theorem dX7_reads_182 : decode cX7_reads 182 = .ok (.iconst 1, 1) := by decide +kernel
theorem dX7_reads_183 : decode cX7_reads 183 = .ok (.goto 4, 3) := by decide +kernel
theorem dX7_reads_186 : decode cX7_reads 186 = .ok (.iconst 0, 1) := by decide +kernel
theorem dX7_reads_187 : decode cX7_reads 187 = .ok (.iadd, 1) := by decide +kernel
theorem dX7_reads_188 : decode cX7_reads 188 = .ok (.putfield 111, 3) := by decide +kernel
theorem dX7_reads_191 : decode cX7_reads 191 = .ok (.iload_n 1, 1) := by decide +kernel
theorem dX7_reads_192 : decode cX7_reads 192 = .ok (.bipush 119, 2) := by decide +kernel
theorem dX7_reads_194 : decode cX7_reads 194 = .ok (.if_icmp .ne 10, 3) := by decide +kernel
theorem dX7_reads_197 : decode cX7_reads 197 = .ok (.aload_n 0, 1) := by decide +kernel
theorem dX7_reads_198 : decode cX7_reads 198 = .ok (.invokevirtual 121, 3) := by decide +kernel
theorem dX7_reads_201 : decode cX7_reads 201 = .ok (.goto 18, 3) := by decide +kernel
theorem dX7_reads_204 : decode cX7_reads 204 = .ok (.aload_n 0, 1) := by decide +kernel
theorem dX7_reads_205 : decode cX7_reads 205 = .ok (.iload_n 1, 1) := by decide +kernel
theorem dX7_reads_206 : decode cX7_reads 206 = .ok (.bipush 102, 2) := by decide +kernel
theorem dX7_reads_208 : decode cX7_reads 208 = .ok (.if_icmp .ne 7, 3) := by decide +kernel
theorem dX7_reads_211 : decode cX7_reads 211 = .ok (.iconst 5, 1) := by decide +kernel
theorem dX7_reads_212 : decode cX7_reads 212 = .ok (.goto 4, 3) := by decide +kernel
theorem dX7_reads_215 : decode cX7_reads 215 = .ok (.iconst 2, 1) := by decide +kernel
theorem dX7_reads_216 : decode cX7_reads 216 = .ok (.invokevirtual 125, 3) := by decide +kernel
theorem dX7_reads_219 : decode cX7_reads 219 = .ok (.istore_n 3, 1) := by decide +kernel
theorem dX7_reads_220 : decode cX7_reads 220 = .ok (.aload_n 0, 1) := by decide +kernel
theorem dX7_reads_221 : decode cX7_reads 221 = .ok (.getfield 107, 3) := by decide +kernel
theorem dX7_reads_224 : decode cX7_reads 224 = .ok (.ifCond .eq 53, 3) := by decide +kernel
theorem dX7_reads_227 : decode cX7_reads 227 = .ok (.aload_n 0, 1) := by decide +kernel
theorem dX7_reads_228 : decode cX7_reads 228 = .ok (.getfield 17, 3) := by decide +kernel
theorem dX7_reads_231 : decode cX7_reads 231 = .ok (.iconst 3, 1) := by decide +kernel
theorem dX7_reads_232 : decode cX7_reads 232 = .ok (.aload_n 0, 1) := by decide +kernel
theorem dX7_reads_233 : decode cX7_reads 233 = .ok (.getfield 128, 3) := by decide +kernel
theorem dX7_reads_236 : decode cX7_reads 236 = .ok (.imul, 1) := by decide +kernel
theorem dX7_reads_237 : decode cX7_reads 237 = .ok (.iload_n 1, 1) := by decide +kernel
theorem dX7_reads_238 : decode cX7_reads 238 = .ok (.iastore, 1) := by decide +kernel
theorem dX7_reads_239 : decode cX7_reads 239 = .ok (.aload_n 0, 1) := by decide +kernel
theorem dX7_reads_240 : decode cX7_reads 240 = .ok (.getfield 17, 3) := by decide +kernel
theorem dX7_reads_243 : decode cX7_reads 243 = .ok (.iconst 3, 1) := by decide +kernel
theorem dX7_reads_244 : decode cX7_reads 244 = .ok (.aload_n 0, 1) := by decide +kernel
theorem dX7_reads_245 : decode cX7_reads 245 = .ok (.getfield 128, 3) := by decide +kernel
theorem dX7_reads_248 : decode cX7_reads 248 = .ok (.imul, 1) := by decide +kernel
theorem dX7_reads_249 : decode cX7_reads 249 = .ok (.iconst 1, 1) := by decide +kernel
theorem dX7_reads_250 : decode cX7_reads 250 = .ok (.iadd, 1) := by decide +kernel
theorem dX7_reads_251 : decode cX7_reads 251 = .ok (.iload_n 2, 1) := by decide +kernel
theorem dX7_reads_252 : decode cX7_reads 252 = .ok (.iastore, 1) := by decide +kernel
theorem dX7_reads_253 : decode cX7_reads 253 = .ok (.aload_n 0, 1) := by decide +kernel
theorem dX7_reads_254 : decode cX7_reads 254 = .ok (.getfield 17, 3) := by decide +kernel
theorem dX7_reads_257 : decode cX7_reads 257 = .ok (.iconst 3, 1) := by decide +kernel
theorem dX7_reads_258 : decode cX7_reads 258 = .ok (.aload_n 0, 1) := by decide +kernel
theorem dX7_reads_259 : decode cX7_reads 259 = .ok (.getfield 128, 3) := by decide +kernel
theorem dX7_reads_262 : decode cX7_reads 262 = .ok (.imul, 1) := by decide +kernel
theorem dX7_reads_263 : decode cX7_reads 263 = .ok (.iconst 2, 1) := by decide +kernel
theorem dX7_reads_264 : decode cX7_reads 264 = .ok (.iadd, 1) := by decide +kernel
theorem dX7_reads_265 : decode cX7_reads 265 = .ok (.iload_n 3, 1) := by decide +kernel
theorem dX7_reads_266 : decode cX7_reads 266 = .ok (.iastore, 1) := by decide +kernel
theorem dX7_reads_267 : decode cX7_reads 267 = .ok (.aload_n 0, 1) := by decide +kernel
theorem dX7_reads_268 : decode cX7_reads 268 = .ok (.dup, 1) := by decide +kernel
theorem dX7_reads_269 : decode cX7_reads 269 = .ok (.getfield 128, 3) := by decide +kernel
theorem dX7_reads_272 : decode cX7_reads 272 = .ok (.iconst 1, 1) := by decide +kernel
theorem dX7_reads_273 : decode cX7_reads 273 = .ok (.iadd, 1) := by decide +kernel
theorem dX7_reads_274 : decode cX7_reads 274 = .ok (.putfield 128, 3) := by decide +kernel
theorem dX7_reads_277 : decode cX7_reads 277 = .ok (.return_, 1) := by decide +kernel
set_option maxRecDepth 20000 in
theorem ggX7_fault_X7_reads : GoodIn wsX7_fault wsX7_reads := goodIn_r _ [10, 2, 1, 4, 5, 11, 3, 12, 13, 14, 9, 15, 16, 17, 18, 19, 20, 21, 22, 23, 24, 25, 26, 27, 28, 29, 30, 31, 32, 33, 34, 35, 36, 37] (by decide +kernel) (by decide +kernel)
set_option maxRecDepth 20000 in
theorem gX7_fault_X7_reads : GoodIn wsX7_fault (wsV RX7 131 RX7 yX7_reads wsX7_reads) := goodIn_app (goodIn_of _ (by decide +kernel)) ggX7_fault_X7_reads
theorem dX7_fault_0 : decode cX7_fault 0 = .ok (.aload_n 0, 1) := by decide +kernel
theorem dX7_fault_1 : decode cX7_fault 1 = .ok (.iconst 0, 1) := by decide +kernel
theorem dX7_fault_2 : decode cX7_fault 2 = .ok (.putfield 111, 3) := by decide +kernel
theorem dX7_fault_5 : decode cX7_fault 5 = .ok (.aload_n 0, 1) := by decide +kernel
theorem dX7_fault_6 : decode cX7_fault 6 = .ok (.iconst 1, 1) := by decide +kernel
theorem dX7_fault_7 : decode cX7_fault 7 = .ok (.putfield 107, 3) := by decide +kernel
theorem dX7_fault_10 : decode cX7_fault 10 = .ok (.aload_n 0, 1) := by decide +kernel
theorem dX7_fault_11 : decode cX7_fault 11 = .ok (.iconst 0, 1) := by decide +kernel
theorem dX7_fault_12 : decode cX7_fault 12 = .ok (.putfield 128, 3) := by decide +kernel
theorem dX7_fault_15 : decode cX7_fault 15 = .ok (.aload_n 0, 1) := by decide +kernel
theorem dX7_fault_16 : decode cX7_fault 16 = .ok (.invokevirtual 131, 3) := by decide +kernel
theorem dX7_fault_19 : decode cX7_fault 19 = .ok (.aload_n 0, 1) := by decide +kernel
theorem dX7_fault_20 : decode cX7_fault 20 = .ok (.getfield 107, 3) := by decide +kernel
theorem dX7_fault_23 : decode cX7_fault 23 = .ok (.ifCond .eq 72, 3) := by decide +kernel
theorem dX7_fault_26 : decode cX7_fault 26 = .ok (.aload_n 0, 1) := by decide +kernel
theorem dX7_fault_27 : decode cX7_fault 27 = .ok (.getfield 111, 3) := by decide +kernel
theorem dX7_fault_30 : decode cX7_fault 30 = .ok (.aload_n 0, 1) := by decide +kernel
theorem dX7_fault_31 : decode cX7_fault 31 = .ok (.getfield 114, 3) := by decide +kernel
theorem dX7_fault_34 : decode cX7_fault 34 = .ok (.if_icmp .ge 61, 3) := by decide +kernel
theorem dX7_fault_37 : decode cX7_fault 37 = .ok (.aload_n 0, 1) := by decide +kernel
theorem dX7_fault_38 : decode cX7_fault 38 = .ok (.aload_n 0, 1) := by decide +kernel
theorem dX7_fault_39 : decode cX7_fault 39 = .ok (.getfield 13, 3) := by decide +kernel
theorem dX7_fault_42 : decode cX7_fault 42 = .ok (.aload_n 0, 1) := by decide +kernel
theorem dX7_fault_43 : decode cX7_fault 43 = .ok (.getfield 111, 3) := by decide +kernel
theorem dX7_fault_46 : decode cX7_fault 46 = .ok (.caload, 1) := by decide +kernel
theorem dX7_fault_47 : decode cX7_fault 47 = .ok (.bipush 44, 2) := by decide +kernel
theorem dX7_fault_49 : decode cX7_fault 49 = .ok (.if_icmp .ne 7, 3) := by decide +kernel
theorem dX7_fault_52 : decode cX7_fault 52 = .ok (.iconst 1, 1) := by decide +kernel
theorem dX7_fault_53 : decode cX7_fault 53 = .ok (.goto 4, 3) := by decide +kernel
theorem dX7_fault_56 : decode cX7_fault 56 = .ok (.iconst 0, 1) := by decide +kernel
theorem dX7_fault_57 : decode cX7_fault 57 = .ok (.putfield 107, 3) := by decide +kernel
theorem dX7_fault_60 : decode cX7_fault 60 = .ok (.aload_n 0, 1) := by decide +kernel
theorem dX7_fault_61 : decode cX7_fault 61 = .ok (.dup, 1) := by decide +kernel
theorem dX7_fault_62 : decode cX7_fault 62 = .ok (.getfield 111, 3) := by decide +kernel
theorem dX7_fault_65 : decode cX7_fault 65 = .ok (.aload_n 0, 1) := by decide +kernel
theorem dX7_fault_66 : decode cX7_fault 66 = .ok (.getfield 107, 3) := by decide +kernel
theorem dX7_fault_69 : decode cX7_fault 69 = .ok (.ifCond .eq 7, 3) := by decide +kernel
theorem dX7_fault_72 : decode cX7_fault 72 = .ok (.iconst 1, 1) := by decide +kernel
theorem dX7_fault_73 : decode cX7_fault 73 = .ok (.goto 4, 3) := by decide +kernel
theorem dX7_fault_76 : decode cX7_fault 76 = .ok (.iconst 0, 1) := by decide +kernel
theorem dX7_fault_77 : decode cX7_fault 77 = .ok (.iadd, 1) := by decide +kernel
theorem dX7_fault_78 : decode cX7_fault 78 = .ok (.putfield 111, 3) := by decide +kernel
theorem dX7_fault_81 : decode cX7_fault 81 = .ok (.aload_n 0, 1) := by decide +kernel
theorem dX7_fault_82 : decode cX7_fault 82 = .ok (.getfield 107, 3) := by decide +kernel
theorem dX7_fault_85 : decode cX7_fault 85 = .ok (.ifCond .eq (-66), 3) := by decide +kernel
theorem dX7_fault_88 : decode cX7_fault 88 = .ok (.aload_n 0, 1) := by decide +kernel
theorem dX7_fault_89 : decode cX7_fault 89 = .ok (.invokevirtual 131, 3) := by decide +kernel
theorem dX7_fault_92 : decode cX7_fault 92 = .ok (.goto (-73), 3) := by decide +kernel
theorem dX7_fault_95 : decode cX7_fault 95 = .ok (.aload_n 0, 1) := by decide +kernel
theorem dX7_fault_96 : decode cX7_fault 96 = .ok (.getfield 107, 3) := by decide +kernel
theorem dX7_fault_99 : decode cX7_fault 99 = .ok (.ifCond .eq 7, 3) := by decide +kernel
theorem dX7_fault_102 : decode cX7_fault 102 = .ok (.iconst (-1), 1) := by decide +kernel
theorem dX7_fault_103 : decode cX7_fault 103 = .ok (.goto 7, 3) := by decide +kernel
theorem dX7_fault_106 : decode cX7_fault 106 = .ok (.aload_n 0, 1) := by decide +kernel
theorem dX7_fault_107 : decode cX7_fault 107 = .ok (.getfield 111, 3) := by decide +kernel
theorem dX7_fault_110 : decode cX7_fault 110 = .ok (.ireturn, 1) := by decide +kernel
set_option maxRecDepth 20000 in
theorem ggX7_does_X7_sets : GoodIn wsX7_does wsX7_sets := goodIn_r _ [6, 7, 8, 9, 5, 10, 90, 91, 92, 93, 94, 95, 96, 97, 98, 99, 100] (by decide +kernel) (by decide +kernel)
set_option maxRecDepth 20000 in
theorem gX7_does_X7_sets : GoodIn wsX7_does (wsV RX7 89 RX7 yX7_sets wsX7_sets) := goodIn_app (goodIn_of _ (by decide +kernel)) ggX7_does_X7_sets
set_option maxRecDepth 20000 in
theorem ggX7_does_X7_fills : GoodIn wsX7_does wsX7_fills := goodIn_r _ [14, 7, 8, 9, 5, 10, 90, 91, 92, 93, 94, 95, 96, 97, 98, 99, 100] (by decide +kernel) (by decide +kernel)
set_option maxRecDepth 20000 in
theorem gX7_does_X7_fills : GoodIn wsX7_does (wsV RX7 95 RX7 yX7_fills wsX7_fills) := goodIn_app (goodIn_of _ (by decide +kernel)) ggX7_does_X7_fills
set_option maxRecDepth 20000 in
theorem ggX7_does_X7_starts : GoodIn wsX7_does wsX7_starts := goodIn_r _ [18, 8, 9, 5, 10, 19, 20, 21, 22, 7, 23, 24, 25, 26, 27, 28, 29, 30, 31, 32, 33, 34, 35, 36, 37, 38, 39, 40, 41, 42, 43, 44, 45, 46, 47, 48, 49, 50, 51, 52, 53, 54, 55, 56, 57, 58, 59, 60, 61, 62, 63, 64, 65, 66, 67, 68, 90, 91, 92, 93, 94, 95, 96, 97, 98, 99, 100] (by decide +kernel) (by decide +kernel)
set_option maxRecDepth 20000 in
theorem gX7_does_X7_starts : GoodIn wsX7_does (wsV RX7 98 RX7 yX7_starts wsX7_starts) := goodIn_app (goodIn_of _ (by decide +kernel)) ggX7_does_X7_starts
set_option maxRecDepth 20000 in
theorem ggX7_does_X7_queues : GoodIn wsX7_does wsX7_queues := goodIn_r _ [72, 7, 8, 9, 5, 10, 90, 91, 92, 93, 94, 95, 96, 97, 98, 99, 100] (by decide +kernel) (by decide +kernel)
set_option maxRecDepth 20000 in
theorem gX7_does_X7_queues : GoodIn wsX7_does (wsV RX7 101 RX7 yX7_queues wsX7_queues) := goodIn_app (goodIn_of _ (by decide +kernel)) ggX7_does_X7_queues
set_option maxRecDepth 20000 in
theorem ggX7_does_X7_runs : GoodIn wsX7_does wsX7_runs := goodIn_r _ [76, 7, 77, 8, 9, 5, 10, 78, 79, 80, 81, 38, 39, 40, 41, 42, 43, 44, 45, 46, 47, 48, 49, 50, 51, 52, 53, 23, 24, 25, 26, 54, 55, 56, 57, 58, 59, 60, 61, 62, 63, 64, 65, 66, 67, 68, 82, 83, 84, 85, 19, 20, 21, 22, 27, 28, 29, 30, 31, 32, 33, 34, 35, 36, 37, 86, 87, 88, 89, 90, 91, 92, 93, 94, 95, 96, 97, 98, 99, 100] (by decide +kernel) (by decide +kernel)
set_option maxRecDepth 20000 in
theorem gX7_does_X7_runs : GoodIn wsX7_does (wsV RX7 104 RX7 yX7_runs wsX7_runs) := goodIn_app (goodIn_of _ (by decide +kernel)) ggX7_does_X7_runs
theorem dX7_does_0 : decode cX7_does 0 = .ok (.aload_n 0, 1) := by decide +kernel
theorem dX7_does_1 : decode cX7_does 1 = .ok (.getfield 17, 3) := by decide +kernel
theorem dX7_does_4 : decode cX7_does 4 = .ok (.iconst 3, 1) := by decide +kernel
theorem dX7_does_5 : decode cX7_does 5 = .ok (.iload_n 1, 1) := by decide +kernel
theorem dX7_does_6 : decode cX7_does 6 = .ok (.imul, 1) := by decide +kernel
theorem dX7_does_7 : decode cX7_does 7 = .ok (.iconst 1, 1) := by decide +kernel
theorem dX7_does_8 : decode cX7_does 8 = .ok (.iadd, 1) := by decide +kernel
theorem dX7_does_9 : decode cX7_does 9 = .ok (.iaload, 1) := by decide +kernel
theorem dX7_does_10 : decode cX7_does 10 = .ok (.istore_n 2, 1) := by decide +kernel
theorem dX7_does_11 : decode cX7_does 11 = .ok (.aload_n 0, 1) := by decide +kernel
theorem dX7_does_12 : decode cX7_does 12 = .ok (.getfield 17, 3) := by decide +kernel
theorem dX7_does_15 : decode cX7_does 15 = .ok (.iconst 3, 1) := by decide +kernel
theorem dX7_does_16 : decode cX7_does 16 = .ok (.iload_n 1, 1) := by decide +kernel
theorem dX7_does_17 : decode cX7_does 17 = .ok (.imul, 1) := by decide +kernel
theorem dX7_does_18 : decode cX7_does 18 = .ok (.iconst 2, 1) := by decide +kernel
theorem dX7_does_19 : decode cX7_does 19 = .ok (.iadd, 1) := by decide +kernel
theorem dX7_does_20 : decode cX7_does 20 = .ok (.iaload, 1) := by decide +kernel
theorem dX7_does_21 : decode cX7_does 21 = .ok (.istore_n 3, 1) := by decide +kernel
theorem dX7_does_22 : decode cX7_does 22 = .ok (.aload_n 0, 1) := by decide +kernel
theorem dX7_does_23 : decode cX7_does 23 = .ok (.getfield 17, 3) := by decide +kernel
theorem dX7_does_26 : decode cX7_does 26 = .ok (.iconst 3, 1) := by decide +kernel
theorem dX7_does_27 : decode cX7_does 27 = .ok (.iload_n 1, 1) := by decide +kernel
theorem dX7_does_28 : decode cX7_does 28 = .ok (.imul, 1) := by decide +kernel
theorem dX7_does_29 : decode cX7_does 29 = .ok (.iaload, 1) := by decide +kernel
theorem dX7_does_30 : decode cX7_does 30 = .ok (.lookupswitch 77 #[(102, 42), (108, 69), (109, 60), (119, 51)], 42) := by decide +kernel
theorem dX7_does_72 : decode cX7_does 72 = .ok (.aload_n 0, 1) := by decide +kernel
theorem dX7_does_73 : decode cX7_does 73 = .ok (.bipush 6, 2) := by decide +kernel
theorem dX7_does_75 : decode cX7_does 75 = .ok (.iload_n 2, 1) := by decide +kernel
theorem dX7_does_76 : decode cX7_does 76 = .ok (.iload_n 3, 1) := by decide +kernel
theorem dX7_does_77 : decode cX7_does 77 = .ok (.invokevirtual 89, 3) := by decide +kernel
theorem dX7_does_80 : decode cX7_does 80 = .ok (.ireturn, 1) := by decide +kernel
theorem dX7_does_81 : decode cX7_does 81 = .ok (.aload_n 0, 1) := by decide +kernel
theorem dX7_does_82 : decode cX7_does 82 = .ok (.bipush 6, 2) := by decide +kernel
theorem dX7_does_84 : decode cX7_does 84 = .ok (.iload_n 2, 1) := by decide +kernel
theorem dX7_does_85 : decode cX7_does 85 = .ok (.iload_n 3, 1) := by decide +kernel
theorem dX7_does_86 : decode cX7_does 86 = .ok (.invokevirtual 95, 3) := by decide +kernel
theorem dX7_does_89 : decode cX7_does 89 = .ok (.ireturn, 1) := by decide +kernel
theorem dX7_does_90 : decode cX7_does 90 = .ok (.aload_n 0, 1) := by decide +kernel
theorem dX7_does_91 : decode cX7_does 91 = .ok (.bipush 6, 2) := by decide +kernel
theorem dX7_does_93 : decode cX7_does 93 = .ok (.iload_n 2, 1) := by decide +kernel
theorem dX7_does_94 : decode cX7_does 94 = .ok (.iload_n 3, 1) := by decide +kernel
theorem dX7_does_95 : decode cX7_does 95 = .ok (.invokevirtual 98, 3) := by decide +kernel
theorem dX7_does_98 : decode cX7_does 98 = .ok (.ireturn, 1) := by decide +kernel
theorem dX7_does_99 : decode cX7_does 99 = .ok (.aload_n 0, 1) := by decide +kernel
theorem dX7_does_100 : decode cX7_does 100 = .ok (.bipush 6, 2) := by decide +kernel
theorem dX7_does_102 : decode cX7_does 102 = .ok (.iload_n 2, 1) := by decide +kernel
theorem dX7_does_103 : decode cX7_does 103 = .ok (.invokevirtual 101, 3) := by decide +kernel
theorem dX7_does_106 : decode cX7_does 106 = .ok (.ireturn, 1) := by decide +kernel
theorem dX7_does_107 : decode cX7_does 107 = .ok (.aload_n 0, 1) := by decide +kernel
theorem dX7_does_108 : decode cX7_does 108 = .ok (.bipush 6, 2) := by decide +kernel
theorem dX7_does_110 : decode cX7_does 110 = .ok (.iload_n 2, 1) := by decide +kernel
theorem dX7_does_111 : decode cX7_does 111 = .ok (.invokevirtual 104, 3) := by decide +kernel
theorem dX7_does_114 : decode cX7_does 114 = .ok (.ireturn, 1) := by decide +kernel
set_option maxRecDepth 20000 in
theorem ggX7_perform_X7_fault : GoodIn wsX7_perform wsX7_fault := goodIn_r _ [8, 9, 10, 1, 11, 12, 13, 14, 15, 7, 16, 17, 18, 19, 20, 21, 22, 23, 24, 25, 26, 27, 28, 29, 30, 31, 32, 130, 131, 132, 133, 134, 135, 136, 137, 138, 139, 140] (by decide +kernel) (by decide +kernel)
set_option maxRecDepth 20000 in
theorem gX7_perform_X7_fault : GoodIn wsX7_perform (wsV RX7 134 RX7 yX7_fault wsX7_fault) := goodIn_app (goodIn_of _ (by decide +kernel)) ggX7_perform_X7_fault
set_option maxRecDepth 20000 in
theorem ggX7_perform_X7_copies : GoodIn wsX7_perform wsX7_copies := goodIn_r _ [36, 37, 130, 131, 132, 133, 134, 135, 136, 137, 138, 139, 140] (by decide +kernel) (by decide +kernel)
set_option maxRecDepth 20000 in
theorem gX7_perform_X7_copies : GoodIn wsX7_perform (wsV RX7 27 RX7 yX7_copies wsX7_copies) := goodIn_app (goodIn_of _ (by decide +kernel)) ggX7_perform_X7_copies
set_option maxRecDepth 20000 in
theorem ggX7_perform_X7_does : GoodIn wsX7_perform wsX7_does := goodIn_r _ [41, 17, 42, 43, 44, 7, 45, 37, 26, 27, 28, 46, 47, 48, 49, 50, 51, 52, 53, 54, 55, 56, 57, 58, 59, 60, 61, 33, 34, 35, 36, 62, 63, 64, 65, 66, 67, 68, 69, 70, 71, 72, 73, 74, 75, 76, 77, 78, 79, 80, 81, 82, 83, 84, 85, 86, 87, 88, 89, 90, 91, 92, 93, 94, 95, 96, 97, 98, 99, 100, 101, 102, 103, 104, 105, 106, 107, 108, 109, 110, 111, 112, 113, 114, 115, 116, 117, 118, 119, 120, 130, 131, 132, 133, 134, 135, 136, 137, 138, 139, 140] (by decide +kernel) (by decide +kernel)
set_option maxRecDepth 20000 in
theorem gX7_perform_X7_does : GoodIn wsX7_perform (wsV RX7 137 RX7 yX7_does wsX7_does) := goodIn_app (goodIn_of _ (by decide +kernel)) ggX7_perform_X7_does
set_option maxRecDepth 20000 in
theorem ggX7_perform_X7_settles : GoodIn wsX7_perform wsX7_settles := goodIn_r _ [124, 125, 126, 127, 7, 128, 129, 33, 34, 35, 36, 37, 130, 131, 132, 133, 134, 135, 136, 137, 138, 139, 140] (by decide +kernel) (by decide +kernel)
set_option maxRecDepth 20000 in
theorem gX7_perform_X7_settles : GoodIn wsX7_perform (wsV RX7 92 RX7 yX7_settles wsX7_settles) := goodIn_app (goodIn_of _ (by decide +kernel)) ggX7_perform_X7_settles
theorem dX7_perform_0 : decode cX7_perform 0 = .ok (.aload_n 0, 1) := by decide +kernel
theorem dX7_perform_1 : decode cX7_perform 1 = .ok (.invokevirtual 134, 3) := by decide +kernel
theorem dX7_perform_4 : decode cX7_perform 4 = .ok (.istore_n 1, 1) := by decide +kernel
theorem dX7_perform_5 : decode cX7_perform 5 = .ok (.iload_n 1, 1) := by decide +kernel
theorem dX7_perform_6 : decode cX7_perform 6 = .ok (.ifCond .lt 8, 3) := by decide +kernel
theorem dX7_perform_9 : decode cX7_perform 9 = .ok (.bipush (-100), 2) := by decide +kernel
theorem dX7_perform_11 : decode cX7_perform 11 = .ok (.iload_n 1, 1) := by decide +kernel
theorem dX7_perform_12 : decode cX7_perform 12 = .ok (.isub, 1) := by decide +kernel
theorem dX7_perform_13 : decode cX7_perform 13 = .ok (.ireturn, 1) := by decide +kernel
theorem dX7_perform_14 : decode cX7_perform 14 = .ok (.aload_n 0, 1) := by decide +kernel
theorem dX7_perform_15 : decode cX7_perform 15 = .ok (.iconst 0, 1) := by decide +kernel
theorem dX7_perform_16 : decode cX7_perform 16 = .ok (.bipush 6, 2) := by decide +kernel
theorem dX7_perform_18 : decode cX7_perform 18 = .ok (.invokevirtual 27, 3) := by decide +kernel
theorem dX7_perform_21 : decode cX7_perform 21 = .ok (.iconst 0, 1) := by decide +kernel
theorem dX7_perform_22 : decode cX7_perform 22 = .ok (.istore_n 2, 1) := by decide +kernel
theorem dX7_perform_23 : decode cX7_perform 23 = .ok (.iload_n 2, 1) := by decide +kernel
theorem dX7_perform_24 : decode cX7_perform 24 = .ok (.aload_n 0, 1) := by decide +kernel
theorem dX7_perform_25 : decode cX7_perform 25 = .ok (.getfield 128, 3) := by decide +kernel
theorem dX7_perform_28 : decode cX7_perform 28 = .ok (.if_icmp .ge 38, 3) := by decide +kernel
theorem dX7_perform_31 : decode cX7_perform 31 = .ok (.aload_n 0, 1) := by decide +kernel
theorem dX7_perform_32 : decode cX7_perform 32 = .ok (.iload_n 2, 1) := by decide +kernel
theorem dX7_perform_33 : decode cX7_perform 33 = .ok (.invokevirtual 137, 3) := by decide +kernel
theorem dX7_perform_36 : decode cX7_perform 36 = .ok (.istore_n 3, 1) := by decide +kernel
theorem dX7_perform_37 : decode cX7_perform 37 = .ok (.iload_n 3, 1) := by decide +kernel
theorem dX7_perform_38 : decode cX7_perform 38 = .ok (.ifCond .ge 22, 3) := by decide +kernel
theorem dX7_perform_41 : decode cX7_perform 41 = .ok (.iload_n 3, 1) := by decide +kernel
theorem dX7_perform_42 : decode cX7_perform 42 = .ok (.bipush (-5), 2) := by decide +kernel
theorem dX7_perform_44 : decode cX7_perform 44 = .ok (.if_icmp .eq 16, 3) := by decide +kernel
theorem dX7_perform_47 : decode cX7_perform 47 = .ok (.aload_n 0, 1) := by decide +kernel
theorem dX7_perform_48 : decode cX7_perform 48 = .ok (.iload_n 2, 1) := by decide +kernel
theorem dX7_perform_49 : decode cX7_perform 49 = .ok (.putfield 20, 3) := by decide +kernel
theorem dX7_perform_52 : decode cX7_perform 52 = .ok (.aload_n 0, 1) := by decide +kernel
theorem dX7_perform_53 : decode cX7_perform 53 = .ok (.iload_n 3, 1) := by decide +kernel
theorem dX7_perform_54 : decode cX7_perform 54 = .ok (.putfield 140, 3) := by decide +kernel
theorem dX7_perform_57 : decode cX7_perform 57 = .ok (.bipush (-4), 2) := by decide +kernel
theorem dX7_perform_59 : decode cX7_perform 59 = .ok (.ireturn, 1) := by decide +kernel
theorem dX7_perform_60 : decode cX7_perform 60 = .ok (.iinc 2 1, 3) := by decide +kernel
theorem dX7_perform_63 : decode cX7_perform 63 = .ok (.goto (-40), 3) := by decide +kernel
theorem dX7_perform_66 : decode cX7_perform 66 = .ok (.aload_n 0, 1) := by decide +kernel
theorem dX7_perform_67 : decode cX7_perform 67 = .ok (.aload_n 0, 1) := by decide +kernel
theorem dX7_perform_68 : decode cX7_perform 68 = .ok (.getfield 128, 3) := by decide +kernel
theorem dX7_perform_71 : decode cX7_perform 71 = .ok (.invokevirtual 92, 3) := by decide +kernel
theorem dX7_perform_74 : decode cX7_perform 74 = .ok (.ireturn, 1) := by decide +kernel
set_option maxRecDepth 20000 in
theorem ggX7_stopped_X7_in : GoodIn wsX7_stopped wsX7_in := goodIn_r _ [6] (by decide +kernel) (by decide +kernel)
set_option maxRecDepth 20000 in
theorem gX7_stopped_X7_in : GoodIn wsX7_stopped (va_wsS RX7 78 yX7_in wsX7_in) := goodIn_app (goodIn_of _ (by decide +kernel)) ggX7_stopped_X7_in
theorem dX7_stopped_0 : decode cX7_stopped 0 = .ok (.iload_n 1, 1) := by decide +kernel
theorem dX7_stopped_1 : decode cX7_stopped 1 = .ok (.iconst 0, 1) := by decide +kernel
theorem dX7_stopped_2 : decode cX7_stopped 2 = .ok (.iconst 1, 1) := by decide +kernel
theorem dX7_stopped_3 : decode cX7_stopped 3 = .ok (.invokestatic 78, 3) := by decide +kernel
theorem dX7_stopped_6 : decode cX7_stopped 6 = .ok (.ifCond .ne 6, 3) := by decide +kernel
theorem dX7_stopped_9 : decode cX7_stopped 9 = .ok (.bipush (-2), 2) := by decide +kernel
theorem dX7_stopped_11 : decode cX7_stopped 11 = .ok (.ireturn, 1) := by decide +kernel
theorem dX7_stopped_12 : decode cX7_stopped 12 = .ok (.aload_n 0, 1) := by decide +kernel
theorem dX7_stopped_13 : decode cX7_stopped 13 = .ok (.getfield 20, 3) := by decide +kernel
theorem dX7_stopped_16 : decode cX7_stopped 16 = .ok (.ifCond .ge 8, 3) := by decide +kernel
theorem dX7_stopped_19 : decode cX7_stopped 19 = .ok (.bipush (-5), 2) := by decide +kernel
theorem dX7_stopped_21 : decode cX7_stopped 21 = .ok (.goto 18, 3) := by decide +kernel
theorem dX7_stopped_24 : decode cX7_stopped 24 = .ok (.iload_n 1, 1) := by decide +kernel
theorem dX7_stopped_25 : decode cX7_stopped 25 = .ok (.ifCond .ne 10, 3) := by decide +kernel
theorem dX7_stopped_28 : decode cX7_stopped 28 = .ok (.aload_n 0, 1) := by decide +kernel
theorem dX7_stopped_29 : decode cX7_stopped 29 = .ok (.getfield 20, 3) := by decide +kernel
theorem dX7_stopped_32 : decode cX7_stopped 32 = .ok (.goto 7, 3) := by decide +kernel
theorem dX7_stopped_35 : decode cX7_stopped 35 = .ok (.aload_n 0, 1) := by decide +kernel
theorem dX7_stopped_36 : decode cX7_stopped 36 = .ok (.getfield 140, 3) := by decide +kernel
theorem dX7_stopped_39 : decode cX7_stopped 39 = .ok (.ireturn, 1) := by decide +kernel
theorem dX7_type_0 : decode cX7_type 0 = .ok (.aload_n 0, 1) := by decide +kernel
theorem dX7_type_1 : decode cX7_type 1 = .ok (.getfield 114, 3) := by decide +kernel
theorem dX7_type_4 : decode cX7_type 4 = .ok (.bipush 80, 2) := by decide +kernel
theorem dX7_type_6 : decode cX7_type 6 = .ok (.if_icmp .ne 6, 3) := by decide +kernel
theorem dX7_type_9 : decode cX7_type 9 = .ok (.bipush (-3), 2) := by decide +kernel
theorem dX7_type_11 : decode cX7_type 11 = .ok (.ireturn, 1) := by decide +kernel
theorem dX7_type_12 : decode cX7_type 12 = .ok (.aload_n 0, 1) := by decide +kernel
theorem dX7_type_13 : decode cX7_type 13 = .ok (.getfield 13, 3) := by decide +kernel
theorem dX7_type_16 : decode cX7_type 16 = .ok (.aload_n 0, 1) := by decide +kernel
theorem dX7_type_17 : decode cX7_type 17 = .ok (.getfield 114, 3) := by decide +kernel
theorem dX7_type_20 : decode cX7_type 20 = .ok (.iload_n 1, 1) := by decide +kernel
theorem dX7_type_21 : decode cX7_type 21 = .ok (.castore, 1) := by decide +kernel
theorem dX7_type_22 : decode cX7_type 22 = .ok (.aload_n 0, 1) := by decide +kernel
theorem dX7_type_23 : decode cX7_type 23 = .ok (.dup, 1) := by decide +kernel
theorem dX7_type_24 : decode cX7_type 24 = .ok (.getfield 114, 3) := by decide +kernel
theorem dX7_type_27 : decode cX7_type 27 = .ok (.iconst 1, 1) := by decide +kernel
theorem dX7_type_28 : decode cX7_type 28 = .ok (.iadd, 1) := by decide +kernel
theorem dX7_type_29 : decode cX7_type 29 = .ok (.putfield 114, 3) := by decide +kernel
theorem dX7_type_32 : decode cX7_type 32 = .ok (.aload_n 0, 1) := by decide +kernel
theorem dX7_type_33 : decode cX7_type 33 = .ok (.getfield 114, 3) := by decide +kernel
theorem dX7_type_36 : decode cX7_type 36 = .ok (.ireturn, 1) := by decide +kernel
theorem dX7_clearText_0 : decode cX7_clearText 0 = .ok (.aload_n 0, 1) := by decide +kernel
theorem dX7_clearText_1 : decode cX7_clearText 1 = .ok (.getfield 114, 3) := by decide +kernel
theorem dX7_clearText_4 : decode cX7_clearText 4 = .ok (.istore_n 1, 1) := by decide +kernel
theorem dX7_clearText_5 : decode cX7_clearText 5 = .ok (.aload_n 0, 1) := by decide +kernel
theorem dX7_clearText_6 : decode cX7_clearText 6 = .ok (.iconst 0, 1) := by decide +kernel
theorem dX7_clearText_7 : decode cX7_clearText 7 = .ok (.putfield 114, 3) := by decide +kernel
theorem dX7_clearText_10 : decode cX7_clearText 10 = .ok (.iload_n 1, 1) := by decide +kernel
theorem dX7_clearText_11 : decode cX7_clearText 11 = .ok (.ireturn, 1) := by decide +kernel
set_option maxRecDepth 20000 in
theorem ggX7_undo_X7_copies : GoodIn wsX7_undo wsX7_copies := goodIn_r _ [6, 7, 8, 9, 10, 11, 12, 13, 14, 15, 16, 17, 18] (by decide +kernel) (by decide +kernel)
set_option maxRecDepth 20000 in
theorem gX7_undo_X7_copies : GoodIn wsX7_undo (wsV RX7 27 RX7 yX7_copies wsX7_copies) := goodIn_app (goodIn_of _ (by decide +kernel)) ggX7_undo_X7_copies
theorem dX7_undo_0 : decode cX7_undo 0 = .ok (.aload_n 0, 1) := by decide +kernel
theorem dX7_undo_1 : decode cX7_undo 1 = .ok (.getfield 24, 3) := by decide +kernel
theorem dX7_undo_4 : decode cX7_undo 4 = .ok (.ifCond .ne 6, 3) := by decide +kernel
theorem dX7_undo_7 : decode cX7_undo 7 = .ok (.bipush (-5), 2) := by decide +kernel
theorem dX7_undo_9 : decode cX7_undo 9 = .ok (.ireturn, 1) := by decide +kernel
theorem dX7_undo_10 : decode cX7_undo 10 = .ok (.aload_n 0, 1) := by decide +kernel
theorem dX7_undo_11 : decode cX7_undo 11 = .ok (.aload_n 0, 1) := by decide +kernel
theorem dX7_undo_12 : decode cX7_undo 12 = .ok (.getfield 24, 3) := by decide +kernel
theorem dX7_undo_15 : decode cX7_undo 15 = .ok (.iconst 0, 1) := by decide +kernel
theorem dX7_undo_16 : decode cX7_undo 16 = .ok (.invokevirtual 27, 3) := by decide +kernel
theorem dX7_undo_19 : decode cX7_undo 19 = .ok (.aload_n 0, 1) := by decide +kernel
theorem dX7_undo_20 : decode cX7_undo 20 = .ok (.dup, 1) := by decide +kernel
theorem dX7_undo_21 : decode cX7_undo 21 = .ok (.getfield 24, 3) := by decide +kernel
theorem dX7_undo_24 : decode cX7_undo 24 = .ok (.iconst 1, 1) := by decide +kernel
theorem dX7_undo_25 : decode cX7_undo 25 = .ok (.isub, 1) := by decide +kernel
theorem dX7_undo_26 : decode cX7_undo 26 = .ok (.putfield 24, 3) := by decide +kernel
theorem dX7_undo_29 : decode cX7_undo 29 = .ok (.aload_n 0, 1) := by decide +kernel
theorem dX7_undo_30 : decode cX7_undo 30 = .ok (.getfield 24, 3) := by decide +kernel
theorem dX7_undo_33 : decode cX7_undo 33 = .ok (.ireturn, 1) := by decide +kernel
set_option maxRecDepth 20000 in
theorem ggX7_keep_X7_copies : GoodIn wsX7_keep wsX7_copies := goodIn_r _ [7, 2, 8, 9, 10, 11, 12, 13, 14, 15, 16, 17, 18] (by decide +kernel) (by decide +kernel)
set_option maxRecDepth 20000 in
theorem gX7_keep_X7_copies : GoodIn wsX7_keep (wsV RX7 27 RX7 yX7_copies wsX7_copies) := goodIn_app (goodIn_of _ (by decide +kernel)) ggX7_keep_X7_copies
theorem dX7_keep_0 : decode cX7_keep 0 = .ok (.aload_n 0, 1) := by decide +kernel
theorem dX7_keep_1 : decode cX7_keep 1 = .ok (.iconst 0, 1) := by decide +kernel
theorem dX7_keep_2 : decode cX7_keep 2 = .ok (.iconst 5, 1) := by decide +kernel
theorem dX7_keep_3 : decode cX7_keep 3 = .ok (.invokevirtual 27, 3) := by decide +kernel
theorem dX7_keep_6 : decode cX7_keep 6 = .ok (.aload_n 0, 1) := by decide +kernel
theorem dX7_keep_7 : decode cX7_keep 7 = .ok (.iconst 1, 1) := by decide +kernel
theorem dX7_keep_8 : decode cX7_keep 8 = .ok (.putfield 143, 3) := by decide +kernel
theorem dX7_keep_11 : decode cX7_keep 11 = .ok (.aload_n 0, 1) := by decide +kernel
theorem dX7_keep_12 : decode cX7_keep 12 = .ok (.getfield 7, 3) := by decide +kernel
theorem dX7_keep_15 : decode cX7_keep 15 = .ok (.bipush 12, 2) := by decide +kernel
theorem dX7_keep_17 : decode cX7_keep 17 = .ok (.iaload, 1) := by decide +kernel
theorem dX7_keep_18 : decode cX7_keep 18 = .ok (.ireturn, 1) := by decide +kernel
set_option maxRecDepth 20000 in
theorem ggX7_restore_X7_records : GoodIn wsX7_restore wsX7_records := goodIn_r _ [7, 8, 9, 10, 11, 6, 12, 2, 13, 14, 15, 16, 17, 18, 19, 20, 21, 22, 23] (by decide +kernel) (by decide +kernel)
set_option maxRecDepth 20000 in
theorem gX7_restore_X7_records : GoodIn wsX7_restore (wsV RX7 86 RX7 yX7_records wsX7_records) := goodIn_app (goodIn_of _ (by decide +kernel)) ggX7_restore_X7_records
set_option maxRecDepth 20000 in
theorem ggX7_restore_X7_copies : GoodIn wsX7_restore wsX7_copies := goodIn_r _ [12, 2, 13, 14, 15, 16, 17, 18, 19, 20, 21, 22, 23] (by decide +kernel) (by decide +kernel)
set_option maxRecDepth 20000 in
theorem gX7_restore_X7_copies : GoodIn wsX7_restore (wsV RX7 27 RX7 yX7_copies wsX7_copies) := goodIn_app (goodIn_of _ (by decide +kernel)) ggX7_restore_X7_copies
theorem dX7_restore_0 : decode cX7_restore 0 = .ok (.aload_n 0, 1) := by decide +kernel
theorem dX7_restore_1 : decode cX7_restore 1 = .ok (.getfield 143, 3) := by decide +kernel
theorem dX7_restore_4 : decode cX7_restore 4 = .ok (.ifCond .ne 6, 3) := by decide +kernel
theorem dX7_restore_7 : decode cX7_restore 7 = .ok (.bipush (-5), 2) := by decide +kernel
theorem dX7_restore_9 : decode cX7_restore 9 = .ok (.ireturn, 1) := by decide +kernel
theorem dX7_restore_10 : decode cX7_restore 10 = .ok (.aload_n 0, 1) := by decide +kernel
theorem dX7_restore_11 : decode cX7_restore 11 = .ok (.invokevirtual 86, 3) := by decide +kernel
theorem dX7_restore_14 : decode cX7_restore 14 = .ok (.aload_n 0, 1) := by decide +kernel
theorem dX7_restore_15 : decode cX7_restore 15 = .ok (.iconst 5, 1) := by decide +kernel
theorem dX7_restore_16 : decode cX7_restore 16 = .ok (.iconst 0, 1) := by decide +kernel
theorem dX7_restore_17 : decode cX7_restore 17 = .ok (.invokevirtual 27, 3) := by decide +kernel
theorem dX7_restore_20 : decode cX7_restore 20 = .ok (.aload_n 0, 1) := by decide +kernel
theorem dX7_restore_21 : decode cX7_restore 21 = .ok (.getfield 7, 3) := by decide +kernel
theorem dX7_restore_24 : decode cX7_restore 24 = .ok (.bipush 12, 2) := by decide +kernel
theorem dX7_restore_26 : decode cX7_restore 26 = .ok (.iaload, 1) := by decide +kernel
theorem dX7_restore_27 : decode cX7_restore 27 = .ok (.ireturn, 1) := by decide +kernel
set_option maxRecDepth 20000 in
theorem ggX7_boiler_X7_in : GoodIn wsX7_boiler wsX7_in := goodIn_r _ [5] (by decide +kernel) (by decide +kernel)
set_option maxRecDepth 20000 in
theorem gX7_boiler_X7_in : GoodIn wsX7_boiler (va_wsS RX7 78 yX7_in wsX7_in) := goodIn_app (goodIn_of _ (by decide +kernel)) ggX7_boiler_X7_in
theorem dX7_boiler_0 : decode cX7_boiler 0 = .ok (.iload_n 1, 1) := by decide +kernel
theorem dX7_boiler_1 : decode cX7_boiler 1 = .ok (.iconst 0, 1) := by decide +kernel
theorem dX7_boiler_2 : decode cX7_boiler 2 = .ok (.iconst 1, 1) := by decide +kernel
theorem dX7_boiler_3 : decode cX7_boiler 3 = .ok (.invokestatic 78, 3) := by decide +kernel
theorem dX7_boiler_6 : decode cX7_boiler 6 = .ok (.ifCond .ne 5, 3) := by decide +kernel
theorem dX7_boiler_9 : decode cX7_boiler 9 = .ok (.iconst (-1), 1) := by decide +kernel
theorem dX7_boiler_10 : decode cX7_boiler 10 = .ok (.ireturn, 1) := by decide +kernel
theorem dX7_boiler_11 : decode cX7_boiler 11 = .ok (.iload_n 2, 1) := by decide +kernel
theorem dX7_boiler_12 : decode cX7_boiler 12 = .ok (.iconst 0, 1) := by decide +kernel
theorem dX7_boiler_13 : decode cX7_boiler 13 = .ok (.iconst 4, 1) := by decide +kernel
theorem dX7_boiler_14 : decode cX7_boiler 14 = .ok (.invokestatic 78, 3) := by decide +kernel
theorem dX7_boiler_17 : decode cX7_boiler 17 = .ok (.ifCond .eq 16, 3) := by decide +kernel
theorem dX7_boiler_20 : decode cX7_boiler 20 = .ok (.aload_n 0, 1) := by decide +kernel
theorem dX7_boiler_21 : decode cX7_boiler 21 = .ok (.getfield 7, 3) := by decide +kernel
theorem dX7_boiler_24 : decode cX7_boiler 24 = .ok (.iconst 2, 1) := by decide +kernel
theorem dX7_boiler_25 : decode cX7_boiler 25 = .ok (.iload_n 2, 1) := by decide +kernel
theorem dX7_boiler_26 : decode cX7_boiler 26 = .ok (.imul, 1) := by decide +kernel
theorem dX7_boiler_27 : decode cX7_boiler 27 = .ok (.iload_n 1, 1) := by decide +kernel
theorem dX7_boiler_28 : decode cX7_boiler 28 = .ok (.iadd, 1) := by decide +kernel
theorem dX7_boiler_29 : decode cX7_boiler 29 = .ok (.iaload, 1) := by decide +kernel
theorem dX7_boiler_30 : decode cX7_boiler 30 = .ok (.goto 5, 3) := by decide +kernel
theorem dX7_boiler_33 : decode cX7_boiler 33 = .ok (.bipush (-2), 2) := by decide +kernel
theorem dX7_boiler_35 : decode cX7_boiler 35 = .ok (.ireturn, 1) := by decide +kernel
set_option maxRecDepth 20000 in
theorem ggX7_machine_X7_in : GoodIn wsX7_machine wsX7_in := goodIn_r _ [5] (by decide +kernel) (by decide +kernel)
set_option maxRecDepth 20000 in
theorem gX7_machine_X7_in : GoodIn wsX7_machine (va_wsS RX7 78 yX7_in wsX7_in) := goodIn_app (goodIn_of _ (by decide +kernel)) ggX7_machine_X7_in
theorem dX7_machine_0 : decode cX7_machine 0 = .ok (.iload_n 1, 1) := by decide +kernel
theorem dX7_machine_1 : decode cX7_machine 1 = .ok (.iconst 0, 1) := by decide +kernel
theorem dX7_machine_2 : decode cX7_machine 2 = .ok (.iconst 3, 1) := by decide +kernel
theorem dX7_machine_3 : decode cX7_machine 3 = .ok (.invokestatic 78, 3) := by decide +kernel
theorem dX7_machine_6 : decode cX7_machine 6 = .ok (.ifCond .ne 5, 3) := by decide +kernel
theorem dX7_machine_9 : decode cX7_machine 9 = .ok (.iconst (-1), 1) := by decide +kernel
theorem dX7_machine_10 : decode cX7_machine 10 = .ok (.ireturn, 1) := by decide +kernel
theorem dX7_machine_11 : decode cX7_machine 11 = .ok (.iload_n 2, 1) := by decide +kernel
theorem dX7_machine_12 : decode cX7_machine 12 = .ok (.iconst 0, 1) := by decide +kernel
theorem dX7_machine_13 : decode cX7_machine 13 = .ok (.iconst 2, 1) := by decide +kernel
theorem dX7_machine_14 : decode cX7_machine 14 = .ok (.invokestatic 78, 3) := by decide +kernel
theorem dX7_machine_17 : decode cX7_machine 17 = .ok (.ifCond .ne 6, 3) := by decide +kernel
theorem dX7_machine_20 : decode cX7_machine 20 = .ok (.bipush (-2), 2) := by decide +kernel
theorem dX7_machine_22 : decode cX7_machine 22 = .ok (.ireturn, 1) := by decide +kernel
theorem dX7_machine_23 : decode cX7_machine 23 = .ok (.aload_n 0, 1) := by decide +kernel
theorem dX7_machine_24 : decode cX7_machine 24 = .ok (.getfield 7, 3) := by decide +kernel
theorem dX7_machine_27 : decode cX7_machine 27 = .ok (.bipush 13, 2) := by decide +kernel
theorem dX7_machine_29 : decode cX7_machine 29 = .ok (.iconst 4, 1) := by decide +kernel
theorem dX7_machine_30 : decode cX7_machine 30 = .ok (.iload_n 2, 1) := by decide +kernel
theorem dX7_machine_31 : decode cX7_machine 31 = .ok (.imul, 1) := by decide +kernel
theorem dX7_machine_32 : decode cX7_machine 32 = .ok (.iadd, 1) := by decide +kernel
theorem dX7_machine_33 : decode cX7_machine 33 = .ok (.iload_n 1, 1) := by decide +kernel
theorem dX7_machine_34 : decode cX7_machine 34 = .ok (.iadd, 1) := by decide +kernel
theorem dX7_machine_35 : decode cX7_machine 35 = .ok (.iaload, 1) := by decide +kernel
theorem dX7_machine_36 : decode cX7_machine 36 = .ok (.istore_n 3, 1) := by decide +kernel
theorem dX7_machine_37 : decode cX7_machine 37 = .ok (.iload_n 3, 1) := by decide +kernel
theorem dX7_machine_38 : decode cX7_machine 38 = .ok (.ifCond .ge 8, 3) := by decide +kernel
theorem dX7_machine_41 : decode cX7_machine 41 = .ok (.bipush (-5), 2) := by decide +kernel
theorem dX7_machine_43 : decode cX7_machine 43 = .ok (.goto 4, 3) := by decide +kernel
theorem dX7_machine_46 : decode cX7_machine 46 = .ok (.iload_n 3, 1) := by decide +kernel
theorem dX7_machine_47 : decode cX7_machine 47 = .ok (.ireturn, 1) := by decide +kernel
theorem dX7_line_0 : decode cX7_line 0 = .ok (.iload_n 1, 1) := by decide +kernel
theorem dX7_line_1 : decode cX7_line 1 = .ok (.ifCond .ge 6, 3) := by decide +kernel
theorem dX7_line_4 : decode cX7_line 4 = .ok (.bipush (-2), 2) := by decide +kernel
theorem dX7_line_6 : decode cX7_line 6 = .ok (.ireturn, 1) := by decide +kernel
theorem dX7_line_7 : decode cX7_line 7 = .ok (.iload_n 1, 1) := by decide +kernel
theorem dX7_line_8 : decode cX7_line 8 = .ok (.aload_n 0, 1) := by decide +kernel
theorem dX7_line_9 : decode cX7_line 9 = .ok (.getfield 7, 3) := by decide +kernel
theorem dX7_line_12 : decode cX7_line 12 = .ok (.bipush 25, 2) := by decide +kernel
theorem dX7_line_14 : decode cX7_line 14 = .ok (.iaload, 1) := by decide +kernel
theorem dX7_line_15 : decode cX7_line 15 = .ok (.if_icmp .ge 15, 3) := by decide +kernel
theorem dX7_line_18 : decode cX7_line 18 = .ok (.aload_n 0, 1) := by decide +kernel
theorem dX7_line_19 : decode cX7_line 19 = .ok (.getfield 7, 3) := by decide +kernel
theorem dX7_line_22 : decode cX7_line 22 = .ok (.bipush 26, 2) := by decide +kernel
theorem dX7_line_24 : decode cX7_line 24 = .ok (.iload_n 1, 1) := by decide +kernel
theorem dX7_line_25 : decode cX7_line 25 = .ok (.iadd, 1) := by decide +kernel
theorem dX7_line_26 : decode cX7_line 26 = .ok (.iaload, 1) := by decide +kernel
theorem dX7_line_27 : decode cX7_line 27 = .ok (.goto 5, 3) := by decide +kernel
theorem dX7_line_30 : decode cX7_line 30 = .ok (.bipush (-5), 2) := by decide +kernel
theorem dX7_line_32 : decode cX7_line 32 = .ok (.ireturn, 1) := by decide +kernel
set_option maxRecDepth 20000 in
theorem ggX7_reason_X7_in : GoodIn wsX7_reason wsX7_in := goodIn_r _ [4] (by decide +kernel) (by decide +kernel)
set_option maxRecDepth 20000 in
theorem gX7_reason_X7_in : GoodIn wsX7_reason (va_wsS RX7 78 yX7_in wsX7_in) := goodIn_app (goodIn_of _ (by decide +kernel)) ggX7_reason_X7_in
set_option maxRecDepth 20000 in
theorem ggX7_reason_X7_lowestEmpty : GoodIn wsX7_reason wsX7_lowestEmpty := goodIn_r _ [8, 9, 60, 61, 62, 63, 64, 65, 66, 67, 68, 69, 70] (by decide +kernel) (by decide +kernel)
set_option maxRecDepth 20000 in
theorem gX7_reason_X7_lowestEmpty : GoodIn wsX7_reason (wsV RX7 67 RX7 yX7_lowestEmpty wsX7_lowestEmpty) := goodIn_app (goodIn_of _ (by decide +kernel)) ggX7_reason_X7_lowestEmpty
set_option maxRecDepth 20000 in
theorem ggX7_reason_X7_why : GoodIn wsX7_reason wsX7_why := goodIn_r _ [13, 9, 14, 15, 16, 3, 17, 18, 19, 20, 21, 22, 23, 24, 25, 26, 27, 28, 29, 30, 31, 32, 33, 34, 35, 36, 37, 38, 39, 40, 41, 42, 43, 44, 45, 46, 47, 48, 49, 50, 51, 52, 53, 54, 55, 56, 57, 58, 59, 60, 61, 62, 63, 64, 65, 66, 67, 68, 69, 70] (by decide +kernel) (by decide +kernel)
set_option maxRecDepth 20000 in
theorem gX7_reason_X7_why : GoodIn wsX7_reason (wsV RX7 70 RX7 yX7_why wsX7_why) := goodIn_app (goodIn_of _ (by decide +kernel)) ggX7_reason_X7_why
theorem dX7_reason_0 : decode cX7_reason 0 = .ok (.iload_n 1, 1) := by decide +kernel
theorem dX7_reason_1 : decode cX7_reason 1 = .ok (.iconst 0, 1) := by decide +kernel
theorem dX7_reason_2 : decode cX7_reason 2 = .ok (.iconst 2, 1) := by decide +kernel
theorem dX7_reason_3 : decode cX7_reason 3 = .ok (.invokestatic 78, 3) := by decide +kernel
theorem dX7_reason_6 : decode cX7_reason 6 = .ok (.ifCond .eq 17, 3) := by decide +kernel
theorem dX7_reason_9 : decode cX7_reason 9 = .ok (.aload_n 0, 1) := by decide +kernel
theorem dX7_reason_10 : decode cX7_reason 10 = .ok (.iconst 0, 1) := by decide +kernel
theorem dX7_reason_11 : decode cX7_reason 11 = .ok (.aload_n 0, 1) := by decide +kernel
theorem dX7_reason_12 : decode cX7_reason 12 = .ok (.iconst 0, 1) := by decide +kernel
theorem dX7_reason_13 : decode cX7_reason 13 = .ok (.invokevirtual 67, 3) := by decide +kernel
theorem dX7_reason_16 : decode cX7_reason 16 = .ok (.iload_n 1, 1) := by decide +kernel
theorem dX7_reason_17 : decode cX7_reason 17 = .ok (.invokevirtual 70, 3) := by decide +kernel
theorem dX7_reason_20 : decode cX7_reason 20 = .ok (.goto 4, 3) := by decide +kernel
theorem dX7_reason_23 : decode cX7_reason 23 = .ok (.iconst (-1), 1) := by decide +kernel
theorem dX7_reason_24 : decode cX7_reason 24 = .ok (.ireturn, 1) := by decide +kernel
set_option maxRecDepth 20000 in
theorem ggX7_isDone_X7_need : GoodIn wsX7_isDone wsX7_need := goodIn_r _ [6, 1, 7, 8, 9, 10, 11, 12, 13, 14, 15, 16, 17] (by decide +kernel) (by decide +kernel)
set_option maxRecDepth 20000 in
theorem gX7_isDone_X7_need : GoodIn wsX7_isDone (wsV RX7 38 RX7 yX7_need wsX7_need) := goodIn_app (goodIn_of _ (by decide +kernel)) ggX7_isDone_X7_need
theorem dX7_isDone_0 : decode cX7_isDone 0 = .ok (.aload_n 0, 1) := by decide +kernel
theorem dX7_isDone_1 : decode cX7_isDone 1 = .ok (.getfield 7, 3) := by decide +kernel
theorem dX7_isDone_4 : decode cX7_isDone 4 = .ok (.iload_n 1, 1) := by decide +kernel
theorem dX7_isDone_5 : decode cX7_isDone 5 = .ok (.bipush 25, 2) := by decide +kernel
theorem dX7_isDone_7 : decode cX7_isDone 7 = .ok (.iadd, 1) := by decide +kernel
theorem dX7_isDone_8 : decode cX7_isDone 8 = .ok (.iaload, 1) := by decide +kernel
theorem dX7_isDone_9 : decode cX7_isDone 9 = .ok (.ifCond .ne 15, 3) := by decide +kernel
theorem dX7_isDone_12 : decode cX7_isDone 12 = .ok (.aload_n 0, 1) := by decide +kernel
theorem dX7_isDone_13 : decode cX7_isDone 13 = .ok (.iload_n 1, 1) := by decide +kernel
theorem dX7_isDone_14 : decode cX7_isDone 14 = .ok (.invokevirtual 38, 3) := by decide +kernel
theorem dX7_isDone_17 : decode cX7_isDone 17 = .ok (.ifCond .ne 7, 3) := by decide +kernel
theorem dX7_isDone_20 : decode cX7_isDone 20 = .ok (.iconst 1, 1) := by decide +kernel
theorem dX7_isDone_21 : decode cX7_isDone 21 = .ok (.goto 4, 3) := by decide +kernel
theorem dX7_isDone_24 : decode cX7_isDone 24 = .ok (.iconst 0, 1) := by decide +kernel
theorem dX7_isDone_25 : decode cX7_isDone 25 = .ok (.ireturn, 1) := by decide +kernel
set_option maxRecDepth 20000 in
theorem ggX7_doneIn_X7_copies : GoodIn wsX7_doneIn wsX7_copies := goodIn_r _ [5, 6, 69, 70, 71, 72, 73, 74, 75, 76, 77, 78, 79] (by decide +kernel) (by decide +kernel)
set_option maxRecDepth 20000 in
theorem gX7_doneIn_X7_copies : GoodIn wsX7_doneIn (wsV RX7 27 RX7 yX7_copies wsX7_copies) := goodIn_app (goodIn_of _ (by decide +kernel)) ggX7_doneIn_X7_copies
set_option maxRecDepth 20000 in
theorem ggX7_doneIn_X7_isDone : GoodIn wsX7_doneIn wsX7_isDone := goodIn_r _ [10, 6, 11, 12, 13, 4, 14, 69, 70, 71, 72, 73, 74, 75, 76, 77, 78, 79] (by decide +kernel) (by decide +kernel)
set_option maxRecDepth 20000 in
theorem gX7_doneIn_X7_isDone : GoodIn wsX7_doneIn (wsV RX7 146 RX7 yX7_isDone wsX7_isDone) := goodIn_app (goodIn_of _ (by decide +kernel)) ggX7_doneIn_X7_isDone
set_option maxRecDepth 20000 in
theorem ggX7_doneIn_X7_ticks : GoodIn wsX7_doneIn wsX7_ticks := goodIn_r _ [18, 6, 19, 20, 21, 4, 22, 23, 24, 25, 26, 27, 28, 29, 30, 11, 12, 13, 14, 31, 32, 33, 34, 35, 36, 37, 38, 39, 40, 41, 42, 43, 44, 45, 46, 47, 48, 49, 50, 51, 52, 53, 54, 55, 56, 57, 1, 2, 3, 5, 58, 59, 60, 61, 62, 63, 64, 65, 66, 67, 68, 69, 70, 71, 72, 73, 74, 75, 76, 77, 78, 79] (by decide +kernel) (by decide +kernel)
set_option maxRecDepth 20000 in
theorem gX7_doneIn_X7_ticks : GoodIn wsX7_doneIn (wsV RX7 83 RX7 yX7_ticks wsX7_ticks) := goodIn_app (goodIn_of _ (by decide +kernel)) ggX7_doneIn_X7_ticks
theorem dX7_doneIn_0 : decode cX7_doneIn 0 = .ok (.aload_n 0, 1) := by decide +kernel
theorem dX7_doneIn_1 : decode cX7_doneIn 1 = .ok (.iconst 0, 1) := by decide +kernel
theorem dX7_doneIn_2 : decode cX7_doneIn 2 = .ok (.bipush 6, 2) := by decide +kernel
theorem dX7_doneIn_4 : decode cX7_doneIn 4 = .ok (.invokevirtual 27, 3) := by decide +kernel
theorem dX7_doneIn_7 : decode cX7_doneIn 7 = .ok (.iconst 0, 1) := by decide +kernel
theorem dX7_doneIn_8 : decode cX7_doneIn 8 = .ok (.istore_n 1, 1) := by decide +kernel
theorem dX7_doneIn_9 : decode cX7_doneIn 9 = .ok (.aload_n 0, 1) := by decide +kernel
theorem dX7_doneIn_10 : decode cX7_doneIn 10 = .ok (.sipush 276, 3) := by decide +kernel
theorem dX7_doneIn_13 : decode cX7_doneIn 13 = .ok (.invokevirtual 146, 3) := by decide +kernel
theorem dX7_doneIn_16 : decode cX7_doneIn 16 = .ok (.ifCond .ne 23, 3) := by decide +kernel
theorem dX7_doneIn_19 : decode cX7_doneIn 19 = .ok (.iload_n 1, 1) := by decide +kernel
theorem dX7_doneIn_20 : decode cX7_doneIn 20 = .ok (.sipush 400, 3) := by decide +kernel
theorem dX7_doneIn_23 : decode cX7_doneIn 23 = .ok (.if_icmp .ge 16, 3) := by decide +kernel
theorem dX7_doneIn_26 : decode cX7_doneIn 26 = .ok (.aload_n 0, 1) := by decide +kernel
theorem dX7_doneIn_27 : decode cX7_doneIn 27 = .ok (.bipush 6, 2) := by decide +kernel
theorem dX7_doneIn_29 : decode cX7_doneIn 29 = .ok (.iconst 1, 1) := by decide +kernel
theorem dX7_doneIn_30 : decode cX7_doneIn 30 = .ok (.invokevirtual 83, 3) := by decide +kernel
theorem dX7_doneIn_33 : decode cX7_doneIn 33 = .ok (.iinc 1 1, 3) := by decide +kernel
theorem dX7_doneIn_36 : decode cX7_doneIn 36 = .ok (.goto (-27), 3) := by decide +kernel
theorem dX7_doneIn_39 : decode cX7_doneIn 39 = .ok (.aload_n 0, 1) := by decide +kernel
theorem dX7_doneIn_40 : decode cX7_doneIn 40 = .ok (.sipush 276, 3) := by decide +kernel
theorem dX7_doneIn_43 : decode cX7_doneIn 43 = .ok (.invokevirtual 146, 3) := by decide +kernel
theorem dX7_doneIn_46 : decode cX7_doneIn 46 = .ok (.ifCond .eq 7, 3) := by decide +kernel
theorem dX7_doneIn_49 : decode cX7_doneIn 49 = .ok (.iload_n 1, 1) := by decide +kernel
theorem dX7_doneIn_50 : decode cX7_doneIn 50 = .ok (.goto 5, 3) := by decide +kernel
theorem dX7_doneIn_53 : decode cX7_doneIn 53 = .ok (.bipush (-5), 2) := by decide +kernel
theorem dX7_doneIn_55 : decode cX7_doneIn 55 = .ok (.ireturn, 1) := by decide +kernel
set_option maxRecDepth 20000 in
theorem ggX7_tries_X7_copies : GoodIn wsX7_tries wsX7_copies := goodIn_r _ [6, 1, 65, 66, 67, 68, 69, 70, 71, 72, 73, 74, 75] (by decide +kernel) (by decide +kernel)
set_option maxRecDepth 20000 in
theorem gX7_tries_X7_copies : GoodIn wsX7_tries (wsV RX7 27 RX7 yX7_copies wsX7_copies) := goodIn_app (goodIn_of _ (by decide +kernel)) ggX7_tries_X7_copies
set_option maxRecDepth 20000 in
theorem ggX7_tries_X7_ticks : GoodIn wsX7_tries wsX7_ticks := goodIn_r _ [10, 1, 11, 12, 13, 5, 14, 15, 16, 17, 18, 19, 20, 21, 22, 23, 24, 25, 26, 27, 28, 29, 30, 31, 32, 33, 34, 35, 36, 37, 38, 39, 40, 41, 42, 43, 44, 45, 46, 47, 48, 49, 50, 51, 52, 53, 2, 3, 4, 6, 54, 55, 56, 57, 58, 59, 60, 61, 62, 63, 64, 65, 66, 67, 68, 69, 70, 71, 72, 73, 74, 75] (by decide +kernel) (by decide +kernel)
set_option maxRecDepth 20000 in
theorem gX7_tries_X7_ticks : GoodIn wsX7_tries (wsV RX7 83 RX7 yX7_ticks wsX7_ticks) := goodIn_app (goodIn_of _ (by decide +kernel)) ggX7_tries_X7_ticks
theorem dX7_tries_0 : decode cX7_tries 0 = .ok (.aload_n 0, 1) := by decide +kernel
theorem dX7_tries_1 : decode cX7_tries 1 = .ok (.iconst 0, 1) := by decide +kernel
theorem dX7_tries_2 : decode cX7_tries 2 = .ok (.bipush 6, 2) := by decide +kernel
theorem dX7_tries_4 : decode cX7_tries 4 = .ok (.invokevirtual 27, 3) := by decide +kernel
theorem dX7_tries_7 : decode cX7_tries 7 = .ok (.aload_n 0, 1) := by decide +kernel
theorem dX7_tries_8 : decode cX7_tries 8 = .ok (.getfield 7, 3) := by decide +kernel
theorem dX7_tries_11 : decode cX7_tries 11 = .ok (.sipush 276, 3) := by decide +kernel
theorem dX7_tries_14 : decode cX7_tries 14 = .ok (.iload_n 1, 1) := by decide +kernel
theorem dX7_tries_15 : decode cX7_tries 15 = .ok (.iastore, 1) := by decide +kernel
theorem dX7_tries_16 : decode cX7_tries 16 = .ok (.aload_n 0, 1) := by decide +kernel
theorem dX7_tries_17 : decode cX7_tries 17 = .ok (.getfield 7, 3) := by decide +kernel
theorem dX7_tries_20 : decode cX7_tries 20 = .ok (.sipush 277, 3) := by decide +kernel
theorem dX7_tries_23 : decode cX7_tries 23 = .ok (.iload_n 2, 1) := by decide +kernel
theorem dX7_tries_24 : decode cX7_tries 24 = .ok (.iastore, 1) := by decide +kernel
theorem dX7_tries_25 : decode cX7_tries 25 = .ok (.aload_n 0, 1) := by decide +kernel
theorem dX7_tries_26 : decode cX7_tries 26 = .ok (.bipush 6, 2) := by decide +kernel
theorem dX7_tries_28 : decode cX7_tries 28 = .ok (.iload_n 3, 1) := by decide +kernel
theorem dX7_tries_29 : decode cX7_tries 29 = .ok (.invokevirtual 83, 3) := by decide +kernel
theorem dX7_tries_32 : decode cX7_tries 32 = .ok (.return_, 1) := by decide +kernel
theorem dX7_more_0 : decode cX7_more 0 = .ok (.aload_n 0, 1) := by decide +kernel
theorem dX7_more_1 : decode cX7_more 1 = .ok (.getfield 7, 3) := by decide +kernel
theorem dX7_more_4 : decode cX7_more 4 = .ok (.sipush 276, 3) := by decide +kernel
theorem dX7_more_7 : decode cX7_more 7 = .ok (.iload_n 1, 1) := by decide +kernel
theorem dX7_more_8 : decode cX7_more 8 = .ok (.iadd, 1) := by decide +kernel
theorem dX7_more_9 : decode cX7_more 9 = .ok (.iaload, 1) := by decide +kernel
theorem dX7_more_10 : decode cX7_more 10 = .ok (.aload_n 0, 1) := by decide +kernel
theorem dX7_more_11 : decode cX7_more 11 = .ok (.getfield 7, 3) := by decide +kernel
theorem dX7_more_14 : decode cX7_more 14 = .ok (.iload_n 1, 1) := by decide +kernel
theorem dX7_more_15 : decode cX7_more 15 = .ok (.iaload, 1) := by decide +kernel
theorem dX7_more_16 : decode cX7_more 16 = .ok (.isub, 1) := by decide +kernel
theorem dX7_more_17 : decode cX7_more 17 = .ok (.ireturn, 1) := by decide +kernel
set_option maxRecDepth 20000 in
theorem ggX7_ifFires_X7_in : GoodIn wsX7_ifFires wsX7_in := goodIn_r _ [4] (by decide +kernel) (by decide +kernel)
set_option maxRecDepth 20000 in
theorem gX7_ifFires_X7_in : GoodIn wsX7_ifFires (va_wsS RX7 78 yX7_in wsX7_in) := goodIn_app (goodIn_of _ (by decide +kernel)) ggX7_ifFires_X7_in
set_option maxRecDepth 20000 in
theorem ggX7_ifFires_X7_tries : GoodIn wsX7_ifFires wsX7_tries := goodIn_r _ [8, 9, 10, 11, 12, 3, 13, 14, 15, 16, 17, 18, 19, 20, 21, 22, 23, 24, 25, 26, 27, 28, 29, 30, 31, 32, 33, 34, 35, 36, 37, 38, 39, 40, 41, 42, 43, 44, 45, 46, 47, 48, 49, 50, 51, 52, 53, 54, 55, 56, 57, 58, 59, 60, 61, 62, 63, 64, 65, 66, 67, 68, 69, 70, 71, 76, 77, 78, 79, 80, 81, 82, 83, 84, 85, 86] (by decide +kernel) (by decide +kernel)
set_option maxRecDepth 20000 in
theorem gX7_ifFires_X7_tries : GoodIn wsX7_ifFires (wsV RX7 150 RX7 yX7_tries wsX7_tries) := goodIn_app (goodIn_of _ (by decide +kernel)) ggX7_ifFires_X7_tries
set_option maxRecDepth 20000 in
theorem ggX7_ifFires_X7_more : GoodIn wsX7_ifFires wsX7_more := goodIn_r _ [75, 9, 76, 77, 78, 79, 80, 81, 82, 83, 84, 85, 86] (by decide +kernel) (by decide +kernel)
set_option maxRecDepth 20000 in
theorem gX7_ifFires_X7_more : GoodIn wsX7_ifFires (wsV RX7 153 RX7 yX7_more wsX7_more) := goodIn_app (goodIn_of _ (by decide +kernel)) ggX7_ifFires_X7_more
theorem dX7_ifFires_0 : decode cX7_ifFires 0 = .ok (.iload_n 1, 1) := by decide +kernel
theorem dX7_ifFires_1 : decode cX7_ifFires 1 = .ok (.iconst 0, 1) := by decide +kernel
theorem dX7_ifFires_2 : decode cX7_ifFires 2 = .ok (.iconst 5, 1) := by decide +kernel
theorem dX7_ifFires_3 : decode cX7_ifFires 3 = .ok (.invokestatic 78, 3) := by decide +kernel
theorem dX7_ifFires_6 : decode cX7_ifFires 6 = .ok (.ifCond .eq 33, 3) := by decide +kernel
theorem dX7_ifFires_9 : decode cX7_ifFires 9 = .ok (.iload_n 2, 1) := by decide +kernel
theorem dX7_ifFires_10 : decode cX7_ifFires 10 = .ok (.iconst 0, 1) := by decide +kernel
theorem dX7_ifFires_11 : decode cX7_ifFires 11 = .ok (.iconst 5, 1) := by decide +kernel
theorem dX7_ifFires_12 : decode cX7_ifFires 12 = .ok (.invokestatic 78, 3) := by decide +kernel
theorem dX7_ifFires_15 : decode cX7_ifFires 15 = .ok (.ifCond .eq 24, 3) := by decide +kernel
theorem dX7_ifFires_18 : decode cX7_ifFires 18 = .ok (.iload_n 3, 1) := by decide +kernel
theorem dX7_ifFires_19 : decode cX7_ifFires 19 = .ok (.iconst 1, 1) := by decide +kernel
theorem dX7_ifFires_20 : decode cX7_ifFires 20 = .ok (.sipush 200, 3) := by decide +kernel
theorem dX7_ifFires_23 : decode cX7_ifFires 23 = .ok (.invokestatic 78, 3) := by decide +kernel
theorem dX7_ifFires_26 : decode cX7_ifFires 26 = .ok (.ifCond .eq 13, 3) := by decide +kernel
theorem dX7_ifFires_29 : decode cX7_ifFires 29 = .ok (.iload 4, 2) := by decide +kernel
theorem dX7_ifFires_31 : decode cX7_ifFires 31 = .ok (.iconst 0, 1) := by decide +kernel
theorem dX7_ifFires_32 : decode cX7_ifFires 32 = .ok (.iconst 3, 1) := by decide +kernel
theorem dX7_ifFires_33 : decode cX7_ifFires 33 = .ok (.invokestatic 78, 3) := by decide +kernel
theorem dX7_ifFires_36 : decode cX7_ifFires 36 = .ok (.ifCond .ne 6, 3) := by decide +kernel
theorem dX7_ifFires_39 : decode cX7_ifFires 39 = .ok (.bipush (-2), 2) := by decide +kernel
theorem dX7_ifFires_41 : decode cX7_ifFires 41 = .ok (.ireturn, 1) := by decide +kernel
theorem dX7_ifFires_42 : decode cX7_ifFires 42 = .ok (.aload_n 0, 1) := by decide +kernel
theorem dX7_ifFires_43 : decode cX7_ifFires 43 = .ok (.iload_n 1, 1) := by decide +kernel
theorem dX7_ifFires_44 : decode cX7_ifFires 44 = .ok (.iload_n 2, 1) := by decide +kernel
theorem dX7_ifFires_45 : decode cX7_ifFires 45 = .ok (.iload_n 3, 1) := by decide +kernel
theorem dX7_ifFires_46 : decode cX7_ifFires 46 = .ok (.invokevirtual 150, 3) := by decide +kernel
theorem dX7_ifFires_49 : decode cX7_ifFires 49 = .ok (.iload 4, 2) := by decide +kernel
theorem dX7_ifFires_51 : decode cX7_ifFires 51 = .ok (.ifCond .ne 12, 3) := by decide +kernel
theorem dX7_ifFires_54 : decode cX7_ifFires 54 = .ok (.aload_n 0, 1) := by decide +kernel
theorem dX7_ifFires_55 : decode cX7_ifFires 55 = .ok (.bipush 41, 2) := by decide +kernel
theorem dX7_ifFires_57 : decode cX7_ifFires 57 = .ok (.invokevirtual 153, 3) := by decide +kernel
theorem dX7_ifFires_60 : decode cX7_ifFires 60 = .ok (.goto 46, 3) := by decide +kernel
theorem dX7_ifFires_63 : decode cX7_ifFires 63 = .ok (.iload 4, 2) := by decide +kernel
theorem dX7_ifFires_65 : decode cX7_ifFires 65 = .ok (.iconst 1, 1) := by decide +kernel
theorem dX7_ifFires_66 : decode cX7_ifFires 66 = .ok (.if_icmp .ne 12, 3) := by decide +kernel
theorem dX7_ifFires_69 : decode cX7_ifFires 69 = .ok (.aload_n 0, 1) := by decide +kernel
theorem dX7_ifFires_70 : decode cX7_ifFires 70 = .ok (.bipush 42, 2) := by decide +kernel
theorem dX7_ifFires_72 : decode cX7_ifFires 72 = .ok (.invokevirtual 153, 3) := by decide +kernel
theorem dX7_ifFires_75 : decode cX7_ifFires 75 = .ok (.goto 31, 3) := by decide +kernel
theorem dX7_ifFires_78 : decode cX7_ifFires 78 = .ok (.iload 4, 2) := by decide +kernel
theorem dX7_ifFires_80 : decode cX7_ifFires 80 = .ok (.iconst 2, 1) := by decide +kernel
theorem dX7_ifFires_81 : decode cX7_ifFires 81 = .ok (.if_icmp .ne 12, 3) := by decide +kernel
theorem dX7_ifFires_84 : decode cX7_ifFires 84 = .ok (.aload_n 0, 1) := by decide +kernel
theorem dX7_ifFires_85 : decode cX7_ifFires 85 = .ok (.bipush 38, 2) := by decide +kernel
theorem dX7_ifFires_87 : decode cX7_ifFires 87 = .ok (.invokevirtual 153, 3) := by decide +kernel
theorem dX7_ifFires_90 : decode cX7_ifFires 90 = .ok (.goto 16, 3) := by decide +kernel
theorem dX7_ifFires_93 : decode cX7_ifFires 93 = .ok (.aload_n 0, 1) := by decide +kernel
theorem dX7_ifFires_94 : decode cX7_ifFires 94 = .ok (.bipush 8, 2) := by decide +kernel
theorem dX7_ifFires_96 : decode cX7_ifFires 96 = .ok (.invokevirtual 153, 3) := by decide +kernel
theorem dX7_ifFires_99 : decode cX7_ifFires 99 = .ok (.aload_n 0, 1) := by decide +kernel
theorem dX7_ifFires_100 : decode cX7_ifFires 100 = .ok (.bipush 9, 2) := by decide +kernel
theorem dX7_ifFires_102 : decode cX7_ifFires 102 = .ok (.invokevirtual 153, 3) := by decide +kernel
theorem dX7_ifFires_105 : decode cX7_ifFires 105 = .ok (.iadd, 1) := by decide +kernel
theorem dX7_ifFires_106 : decode cX7_ifFires 106 = .ok (.ireturn, 1) := by decide +kernel
set_option maxRecDepth 20000 in
theorem ggX7_bestFires_X7_in : GoodIn wsX7_bestFires wsX7_in := goodIn_r _ [4] (by decide +kernel) (by decide +kernel)
set_option maxRecDepth 20000 in
theorem gX7_bestFires_X7_in : GoodIn wsX7_bestFires (va_wsS RX7 78 yX7_in wsX7_in) := goodIn_app (goodIn_of _ (by decide +kernel)) ggX7_bestFires_X7_in
set_option maxRecDepth 20000 in
theorem ggX7_bestFires_X7_tries : GoodIn wsX7_bestFires wsX7_tries := goodIn_r _ [8, 9, 10, 11, 12, 3, 13, 14, 15, 16, 17, 18, 19, 20, 21, 22, 23, 24, 25, 26, 27, 28, 29, 30, 31, 32, 33, 34, 35, 36, 37, 38, 39, 40, 41, 42, 43, 44, 45, 46, 47, 48, 49, 50, 51, 52, 53, 54, 55, 56, 57, 58, 59, 60, 61, 62, 63, 64, 65, 66, 67, 68, 69, 70, 71, 76, 77, 78, 79, 80, 81, 82, 83, 84, 85, 86] (by decide +kernel) (by decide +kernel)
set_option maxRecDepth 20000 in
theorem gX7_bestFires_X7_tries : GoodIn wsX7_bestFires (wsV RX7 150 RX7 yX7_tries wsX7_tries) := goodIn_app (goodIn_of _ (by decide +kernel)) ggX7_bestFires_X7_tries
set_option maxRecDepth 20000 in
theorem ggX7_bestFires_X7_more : GoodIn wsX7_bestFires wsX7_more := goodIn_r _ [75, 9, 76, 77, 78, 79, 80, 81, 82, 83, 84, 85, 86] (by decide +kernel) (by decide +kernel)
set_option maxRecDepth 20000 in
theorem gX7_bestFires_X7_more : GoodIn wsX7_bestFires (wsV RX7 153 RX7 yX7_more wsX7_more) := goodIn_app (goodIn_of _ (by decide +kernel)) ggX7_bestFires_X7_more
theorem dX7_bestFires_0 : decode cX7_bestFires 0 = .ok (.iload_n 1, 1) := by decide +kernel
theorem dX7_bestFires_1 : decode cX7_bestFires 1 = .ok (.iconst 1, 1) := by decide +kernel
theorem dX7_bestFires_2 : decode cX7_bestFires 2 = .ok (.bipush 100, 2) := by decide +kernel
theorem dX7_bestFires_4 : decode cX7_bestFires 4 = .ok (.invokestatic 78, 3) := by decide +kernel
theorem dX7_bestFires_7 : decode cX7_bestFires 7 = .ok (.ifCond .ne 6, 3) := by decide +kernel
theorem dX7_bestFires_10 : decode cX7_bestFires 10 = .ok (.bipush (-2), 2) := by decide +kernel
theorem dX7_bestFires_12 : decode cX7_bestFires 12 = .ok (.ireturn, 1) := by decide +kernel
theorem dX7_bestFires_13 : decode cX7_bestFires 13 = .ok (.iconst 0, 1) := by decide +kernel
theorem dX7_bestFires_14 : decode cX7_bestFires 14 = .ok (.istore_n 2, 1) := by decide +kernel
theorem dX7_bestFires_15 : decode cX7_bestFires 15 = .ok (.iconst (-1), 1) := by decide +kernel
theorem dX7_bestFires_16 : decode cX7_bestFires 16 = .ok (.istore_n 3, 1) := by decide +kernel
theorem dX7_bestFires_17 : decode cX7_bestFires 17 = .ok (.iconst 0, 1) := by decide +kernel
theorem dX7_bestFires_18 : decode cX7_bestFires 18 = .ok (.istore 4, 2) := by decide +kernel
theorem dX7_bestFires_20 : decode cX7_bestFires 20 = .ok (.iconst 0, 1) := by decide +kernel
theorem dX7_bestFires_21 : decode cX7_bestFires 21 = .ok (.istore 5, 2) := by decide +kernel
theorem dX7_bestFires_23 : decode cX7_bestFires 23 = .ok (.iload 5, 2) := by decide +kernel
theorem dX7_bestFires_25 : decode cX7_bestFires 25 = .ok (.bipush 36, 2) := by decide +kernel
theorem dX7_bestFires_27 : decode cX7_bestFires 27 = .ok (.if_icmp .ge 81, 3) := by decide +kernel
theorem dX7_bestFires_30 : decode cX7_bestFires 30 = .ok (.aload_n 0, 1) := by decide +kernel
theorem dX7_bestFires_31 : decode cX7_bestFires 31 = .ok (.iload 5, 2) := by decide +kernel
theorem dX7_bestFires_33 : decode cX7_bestFires 33 = .ok (.bipush 6, 2) := by decide +kernel
theorem dX7_bestFires_35 : decode cX7_bestFires 35 = .ok (.idiv, 1) := by decide +kernel
theorem dX7_bestFires_36 : decode cX7_bestFires 36 = .ok (.iload 5, 2) := by decide +kernel
theorem dX7_bestFires_38 : decode cX7_bestFires 38 = .ok (.bipush 6, 2) := by decide +kernel
theorem dX7_bestFires_40 : decode cX7_bestFires 40 = .ok (.irem, 1) := by decide +kernel
theorem dX7_bestFires_41 : decode cX7_bestFires 41 = .ok (.iload_n 1, 1) := by decide +kernel
theorem dX7_bestFires_42 : decode cX7_bestFires 42 = .ok (.invokevirtual 150, 3) := by decide +kernel
theorem dX7_bestFires_45 : decode cX7_bestFires 45 = .ok (.aload_n 0, 1) := by decide +kernel
theorem dX7_bestFires_46 : decode cX7_bestFires 46 = .ok (.bipush 41, 2) := by decide +kernel
theorem dX7_bestFires_48 : decode cX7_bestFires 48 = .ok (.invokevirtual 153, 3) := by decide +kernel
theorem dX7_bestFires_51 : decode cX7_bestFires 51 = .ok (.istore 6, 2) := by decide +kernel
theorem dX7_bestFires_53 : decode cX7_bestFires 53 = .ok (.aload_n 0, 1) := by decide +kernel
theorem dX7_bestFires_54 : decode cX7_bestFires 54 = .ok (.bipush 38, 2) := by decide +kernel
theorem dX7_bestFires_56 : decode cX7_bestFires 56 = .ok (.invokevirtual 153, 3) := by decide +kernel
theorem dX7_bestFires_59 : decode cX7_bestFires 59 = .ok (.istore 7, 2) := by decide +kernel
theorem dX7_bestFires_61 : decode cX7_bestFires 61 = .ok (.iload 6, 2) := by decide +kernel
theorem dX7_bestFires_63 : decode cX7_bestFires 63 = .ok (.iload_n 3, 1) := by decide +kernel
theorem dX7_bestFires_64 : decode cX7_bestFires 64 = .ok (.if_icmp .gt 16, 3) := by decide +kernel
theorem dX7_bestFires_67 : decode cX7_bestFires 67 = .ok (.iload 6, 2) := by decide +kernel
theorem dX7_bestFires_69 : decode cX7_bestFires 69 = .ok (.iload_n 3, 1) := by decide +kernel
theorem dX7_bestFires_70 : decode cX7_bestFires 70 = .ok (.if_icmp .ne 32, 3) := by decide +kernel
theorem dX7_bestFires_73 : decode cX7_bestFires 73 = .ok (.iload 7, 2) := by decide +kernel
theorem dX7_bestFires_75 : decode cX7_bestFires 75 = .ok (.iload 4, 2) := by decide +kernel
theorem dX7_bestFires_77 : decode cX7_bestFires 77 = .ok (.if_icmp .ge 25, 3) := by decide +kernel
theorem dX7_bestFires_80 : decode cX7_bestFires 80 = .ok (.bipush 10, 2) := by decide +kernel
theorem dX7_bestFires_82 : decode cX7_bestFires 82 = .ok (.iload 5, 2) := by decide +kernel
theorem dX7_bestFires_84 : decode cX7_bestFires 84 = .ok (.bipush 6, 2) := by decide +kernel
theorem dX7_bestFires_86 : decode cX7_bestFires 86 = .ok (.idiv, 1) := by decide +kernel
theorem dX7_bestFires_87 : decode cX7_bestFires 87 = .ok (.imul, 1) := by decide +kernel
theorem dX7_bestFires_88 : decode cX7_bestFires 88 = .ok (.iload 5, 2) := by decide +kernel
theorem dX7_bestFires_90 : decode cX7_bestFires 90 = .ok (.bipush 6, 2) := by decide +kernel
theorem dX7_bestFires_92 : decode cX7_bestFires 92 = .ok (.irem, 1) := by decide +kernel
theorem dX7_bestFires_93 : decode cX7_bestFires 93 = .ok (.iadd, 1) := by decide +kernel
theorem dX7_bestFires_94 : decode cX7_bestFires 94 = .ok (.istore_n 2, 1) := by decide +kernel
theorem dX7_bestFires_95 : decode cX7_bestFires 95 = .ok (.iload 6, 2) := by decide +kernel
theorem dX7_bestFires_97 : decode cX7_bestFires 97 = .ok (.istore_n 3, 1) := by decide +kernel
theorem dX7_bestFires_98 : decode cX7_bestFires 98 = .ok (.iload 7, 2) := by decide +kernel
theorem dX7_bestFires_100 : decode cX7_bestFires 100 = .ok (.istore 4, 2) := by decide +kernel
theorem dX7_bestFires_102 : decode cX7_bestFires 102 = .ok (.iinc 5 1, 3) := by decide +kernel
theorem dX7_bestFires_105 : decode cX7_bestFires 105 = .ok (.goto (-82), 3) := by decide +kernel
theorem dX7_bestFires_108 : decode cX7_bestFires 108 = .ok (.iload_n 2, 1) := by decide +kernel
theorem dX7_bestFires_109 : decode cX7_bestFires 109 = .ok (.ireturn, 1) := by decide +kernel
theorem dX7_loaded_0 : decode cX7_loaded 0 = .ok (.iconst 0, 1) := by decide +kernel
theorem dX7_loaded_1 : decode cX7_loaded 1 = .ok (.istore_n 1, 1) := by decide +kernel
theorem dX7_loaded_2 : decode cX7_loaded 2 = .ok (.iconst 0, 1) := by decide +kernel
theorem dX7_loaded_3 : decode cX7_loaded 3 = .ok (.istore_n 2, 1) := by decide +kernel
theorem dX7_loaded_4 : decode cX7_loaded 4 = .ok (.iload_n 2, 1) := by decide +kernel
theorem dX7_loaded_5 : decode cX7_loaded 5 = .ok (.iconst 4, 1) := by decide +kernel
theorem dX7_loaded_6 : decode cX7_loaded 6 = .ok (.if_icmp .ge 29, 3) := by decide +kernel
theorem dX7_loaded_9 : decode cX7_loaded 9 = .ok (.iload_n 1, 1) := by decide +kernel
theorem dX7_loaded_10 : decode cX7_loaded 10 = .ok (.aload_n 0, 1) := by decide +kernel
theorem dX7_loaded_11 : decode cX7_loaded 11 = .ok (.getfield 7, 3) := by decide +kernel
theorem dX7_loaded_14 : decode cX7_loaded 14 = .ok (.bipush 13, 2) := by decide +kernel
theorem dX7_loaded_16 : decode cX7_loaded 16 = .ok (.iload_n 2, 1) := by decide +kernel
theorem dX7_loaded_17 : decode cX7_loaded 17 = .ok (.iadd, 1) := by decide +kernel
theorem dX7_loaded_18 : decode cX7_loaded 18 = .ok (.iaload, 1) := by decide +kernel
theorem dX7_loaded_19 : decode cX7_loaded 19 = .ok (.ifCond .ge 7, 3) := by decide +kernel
theorem dX7_loaded_22 : decode cX7_loaded 22 = .ok (.iconst 0, 1) := by decide +kernel
theorem dX7_loaded_23 : decode cX7_loaded 23 = .ok (.goto 4, 3) := by decide +kernel
theorem dX7_loaded_26 : decode cX7_loaded 26 = .ok (.iconst 1, 1) := by decide +kernel
theorem dX7_loaded_27 : decode cX7_loaded 27 = .ok (.iadd, 1) := by decide +kernel
theorem dX7_loaded_28 : decode cX7_loaded 28 = .ok (.istore_n 1, 1) := by decide +kernel
theorem dX7_loaded_29 : decode cX7_loaded 29 = .ok (.iinc 2 1, 3) := by decide +kernel

