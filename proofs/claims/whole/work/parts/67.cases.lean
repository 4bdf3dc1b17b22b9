/-! the law, call by call -/
set_option maxHeartbeats 4000000 in
set_option maxRecDepth 100000 in
theorem law_setFire {p : Program} {l : Launch} {e : Env} {s : State} {m : MethodId} {below : List Frame} {meth : Method} {c : Code} {b L i : Nat} {xs : Nat → Int32} {ls : Array Slot} {H : Heap} {locs : List Loc} {G : GG} {h hh ht hk tk : Nat} {xn xb xe xt xz a : Nat → Nat} {hs sn se tp tl tr tg tv : Int32} {nv nq bv bq av aq yv yq zv zq T g M Y : Nat → Int32} {hn : Nat} {ys : Nat → Nat → Nat} {vs qs : Nat → Nat → Int32} (C0 : lw_At p s m meth c b L xs) (hK : KN G s) (hL : L ≤ 2560) (hi : i + 4 < L) (hl : lv_has ls 4 [(0, .ref b), (1, .ref h), (2, .ref (a 0)), (3, .int (nI i))]) (hR : Rl hs sn se nv nq zv zq hn vs qs tl g M) (hW : BW G (A0 s) (WS G h xn xb xe xt xz hh ht hk tk a hs sn se nv nq bv bq av aq yv yq zv zq hn ys vs qs tp tl tr tg tv T g M T Y) H) (hS : va_S (A0 s) s.heap H locs) (kt : KT p l e s m below meth c b G h xn xb xe xt xz hh ht hk tk a ls) : W p l e room_1 s m #[Value.ref b] below meth c H locs 108 1188 (lw_Z below #[Value.ref b] s) (F0 m 140 ls []) := by
  obtain ⟨hx, hb, hr, hml, hown, hts0, hX, hbl, hlocks, hgv⟩ := id C0
  have hts : ∀ w ∈ wsL_law, w.before #[Value.ref b] s = true := fun w hw => hts0 w (wsL_law_in w hw)
  have hA : ∀ q : Nat, s.heap.size ≤ q → (A0 s) q := fun _ h => h
  have X0 : Cx p s m #[Value.ref b] meth c code 4 wsL_law RL ret := ⟨hx, hb, hr, hml, hown, hts, hlocks⟩
  refine lv_aload_n hx hb dL_law_140 rfl (lv_at hl 1 rfl) ?_
  refine law_arg (k := 1) C0 hS hl hL (by omega) (by decide) dL_law_141 dL_law_142 dL_law_143 dL_law_144 dL_law_145 ?_
  refine law_arg (k := 2) C0 hS hl hL (by omega) (by decide) dL_law_146 dL_law_147 dL_law_148 dL_law_149 dL_law_150 ?_
  refine gcallB_I (bc := [SC h xn xb xe xt xz hh ht hs sn se, LC G xn nv nq, LC G xb bv bq, HB G hh hk hn ys vs qs]) (runB_V (As := [.int (xs (i + 1)), .int (xs (i + 2))]) (rest := []) (bc := [SC h xn xb xe xt xz hh ht hs sn se, LC G xn nv nq, LC G xb bv bq, HB G hh hk hn ys vs qs]) X0 hK hW (c_X6_setFire l G h xn xb xe xt xz hh ht hk hs sn se nv nq bv bq hn ys vs qs H.size (xs (i + 1)) (xs (i + 2)) hR.1) (cwV 2 hts gL_law_X6_setFire rfl rfl rfl cd_X6_setFire ⟨Nat.le_of_ble_eq_true rfl, Nat.le_of_ble_eq_true rfl⟩) [0, 1, 2, 6] rfl rfl rfl 0 0 rfl (ci := 6) rfl rfl rfl rfl hl.1 rfl (Nat.le_of_ble_eq_true rfl) dL_law_151 ⟨Nat.le_of_ble_eq_true rfl, Nat.le_of_ble_eq_true rfl⟩) hW hS hA [0, 1, 2, 6] rfl rfl rfl (fun u6 => [SC h xn xb xe xt xz hh ht hs sn se, LC G xn u6.1 nq, LC G xb u6.2.1 u6.2.2.1, HB G hh hk u6.2.2.2.1 u6.2.2.2.2.1 u6.2.2.2.2.2.1 u6.2.2.2.2.2.2]) (fun _ => rfl) (fun _ => rfl) (fun r6 u6 H locs hw6 hW hS => ?_)
  have hW : BW G (A0 s) (WS G h xn xb xe xt xz hh ht hk tk a hs sn se u6.1 nq u6.2.1 u6.2.2.1 av aq yv yq zv zq u6.2.2.2.1 u6.2.2.2.2.1 u6.2.2.2.2.2.1 u6.2.2.2.2.2.2 tp tl tr tg tv T g M T Y) H := hW
  refine lv_aload_n hx hb dL_law_154 rfl (lv_at hl 2 rfl) ?_
  refine law_arg (k := 1) C0 hS hl hL (by omega) (by decide) dL_law_155 dL_law_156 dL_law_157 dL_law_158 dL_law_159 ?_
  refine law_arg (k := 2) C0 hS hl hL (by omega) (by decide) dL_law_160 dL_law_161 dL_law_162 dL_law_163 dL_law_164 ?_
  refine gcallB_I (bc := [MC G a g M T Y]) (runB_V (As := [.int (xs (i + 1)), .int (xs (i + 2))]) (rest := [.int r6]) (bc := [MC G a g M T Y]) X0 hK hW (c_X7_setFire l G a g M T Y H.size (xs (i + 1)) (xs (i + 2)) hn hR.2.1 hR.1) (cwV 2 hts gL_law_X7_setFire rfl rfl rfl cd_X7_setFire ⟨Nat.le_of_ble_eq_true rfl, Nat.le_of_ble_eq_true rfl⟩) [8] rfl rfl rfl 8 0 rfl (ci := 7) rfl rfl rfl rfl hl.1 rfl (Nat.le_of_ble_eq_true rfl) dL_law_165 ⟨Nat.le_of_ble_eq_true rfl, Nat.le_of_ble_eq_true rfl⟩) hW hS hA [8] rfl rfl rfl (fun u7 => [MC G a u7.1 u7.2 T Y]) (fun _ => rfl) (fun _ => rfl) (fun r7 u7 H locs hw7 hW hS => ?_)
  have hW : BW G (A0 s) (WS G h xn xb xe xt xz hh ht hk tk a hs sn se u6.1 nq u6.2.1 u6.2.2.1 av aq yv yq zv zq u6.2.2.2.1 u6.2.2.2.2.1 u6.2.2.2.2.2.1 u6.2.2.2.2.2.2 tp tl tr tg tv T u7.1 u7.2 T Y) H := hW
  have hq := eq_setFire (xs := ys) (p0 := (xs (i + 1))) (p1 := (xs (i + 2))) hR
  rw [hw6, hw7] at hq
  obtain ⟨hq, hR1⟩ := hq
  have hq : r6 = r7 := hq
  refine lv_icmp_eq (tgt := 691) hx hb dL_law_168 (by decide) (fun _ => ?_) (fun c9 => absurd hq c9)
  exact kt hs sn se u6.1 nq u6.2.1 u6.2.2.1 av aq yv yq zv zq u6.2.2.2.1 u6.2.2.2.2.1 u6.2.2.2.2.2.1 u6.2.2.2.2.2.2 tp tl tr tg tv T u7.1 u7.2 Y hR1 H locs hW hS
set_option maxHeartbeats 4000000 in
set_option maxRecDepth 100000 in
theorem law_fill {p : Program} {l : Launch} {e : Env} {s : State} {m : MethodId} {below : List Frame} {meth : Method} {c : Code} {b L i : Nat} {xs : Nat → Int32} {ls : Array Slot} {H : Heap} {locs : List Loc} {G : GG} {h hh ht hk tk : Nat} {xn xb xe xt xz a : Nat → Nat} {hs sn se tp tl tr tg tv : Int32} {nv nq bv bq av aq yv yq zv zq T g M Y : Nat → Int32} {hn : Nat} {ys : Nat → Nat → Nat} {vs qs : Nat → Nat → Int32} (C0 : lw_At p s m meth c b L xs) (hK : KN G s) (hL : L ≤ 2560) (hi : i + 4 < L) (hl : lv_has ls 4 [(0, .ref b), (1, .ref h), (2, .ref (a 0)), (3, .int (nI i))]) (hR : Rl hs sn se nv nq zv zq hn vs qs tl g M) (hW : BW G (A0 s) (WS G h xn xb xe xt xz hh ht hk tk a hs sn se nv nq bv bq av aq yv yq zv zq hn ys vs qs tp tl tr tg tv T g M T Y) H) (hS : va_S (A0 s) s.heap H locs) (kt : KT p l e s m below meth c b G h xn xb xe xt xz hh ht hk tk a ls) : W p l e room_1 s m #[Value.ref b] below meth c H locs 108 1188 (lw_Z below #[Value.ref b] s) (F0 m 173 ls []) := by
  obtain ⟨hx, hb, hr, hml, hown, hts0, hX, hbl, hlocks, hgv⟩ := id C0
  have hts : ∀ w ∈ wsL_law, w.before #[Value.ref b] s = true := fun w hw => hts0 w (wsL_law_in w hw)
  have hA : ∀ q : Nat, s.heap.size ≤ q → (A0 s) q := fun _ h => h
  have X0 : Cx p s m #[Value.ref b] meth c code 4 wsL_law RL ret := ⟨hx, hb, hr, hml, hown, hts, hlocks⟩
  refine lv_aload_n hx hb dL_law_173 rfl (lv_at hl 1 rfl) ?_
  refine law_arg (k := 1) C0 hS hl hL (by omega) (by decide) dL_law_174 dL_law_175 dL_law_176 dL_law_177 dL_law_178 ?_
  refine law_arg (k := 2) C0 hS hl hL (by omega) (by decide) dL_law_179 dL_law_180 dL_law_181 dL_law_182 dL_law_183 ?_
  refine gcallB_I (bc := [SC h xn xb xe xt xz hh ht hs sn se, LC G xn nv nq, LC G xb bv bq, HB G hh hk hn ys vs qs]) (runB_V (As := [.int (xs (i + 1)), .int (xs (i + 2))]) (rest := []) (bc := [SC h xn xb xe xt xz hh ht hs sn se, LC G xn nv nq, LC G xb bv bq, HB G hh hk hn ys vs qs]) X0 hK hW (c_X6_fill l G h xn xb xe xt xz hh ht hk hs sn se nv nq bv bq hn ys vs qs H.size (xs (i + 1)) (xs (i + 2)) hR.1) (cwV 2 hts gL_law_X6_fill rfl rfl rfl cd_X6_fill ⟨Nat.le_of_ble_eq_true rfl, Nat.le_of_ble_eq_true rfl⟩) [0, 1, 2, 6] rfl rfl rfl 0 0 rfl (ci := 6) rfl rfl rfl rfl hl.1 rfl (Nat.le_of_ble_eq_true rfl) dL_law_184 ⟨Nat.le_of_ble_eq_true rfl, Nat.le_of_ble_eq_true rfl⟩) hW hS hA [0, 1, 2, 6] rfl rfl rfl (fun u6 => [SC h xn xb xe xt xz hh ht hs sn se, LC G xn u6.1 nq, LC G xb u6.2.1 u6.2.2.1, HB G hh hk u6.2.2.2.1 u6.2.2.2.2.1 u6.2.2.2.2.2.1 u6.2.2.2.2.2.2]) (fun _ => rfl) (fun _ => rfl) (fun r6 u6 H locs hw6 hW hS => ?_)
  have hW : BW G (A0 s) (WS G h xn xb xe xt xz hh ht hk tk a hs sn se u6.1 nq u6.2.1 u6.2.2.1 av aq yv yq zv zq u6.2.2.2.1 u6.2.2.2.2.1 u6.2.2.2.2.2.1 u6.2.2.2.2.2.2 tp tl tr tg tv T g M T Y) H := hW
  refine lv_aload_n hx hb dL_law_187 rfl (lv_at hl 2 rfl) ?_
  refine law_arg (k := 1) C0 hS hl hL (by omega) (by decide) dL_law_188 dL_law_189 dL_law_190 dL_law_191 dL_law_192 ?_
  refine law_arg (k := 2) C0 hS hl hL (by omega) (by decide) dL_law_193 dL_law_194 dL_law_195 dL_law_196 dL_law_197 ?_
  refine gcallB_I (bc := [MC G a g M T Y]) (runB_V (As := [.int (xs (i + 1)), .int (xs (i + 2))]) (rest := [.int r6]) (bc := [MC G a g M T Y]) X0 hK hW (c_X7_fill l G a g M T Y H.size (xs (i + 1)) (xs (i + 2)) hn hR.2.1 hR.1) (cwV 2 hts gL_law_X7_fill rfl rfl rfl cd_X7_fill ⟨Nat.le_of_ble_eq_true rfl, Nat.le_of_ble_eq_true rfl⟩) [8] rfl rfl rfl 8 0 rfl (ci := 7) rfl rfl rfl rfl hl.1 rfl (Nat.le_of_ble_eq_true rfl) dL_law_198 ⟨Nat.le_of_ble_eq_true rfl, Nat.le_of_ble_eq_true rfl⟩) hW hS hA [8] rfl rfl rfl (fun u7 => [MC G a u7.1 u7.2 T Y]) (fun _ => rfl) (fun _ => rfl) (fun r7 u7 H locs hw7 hW hS => ?_)
  have hW : BW G (A0 s) (WS G h xn xb xe xt xz hh ht hk tk a hs sn se u6.1 nq u6.2.1 u6.2.2.1 av aq yv yq zv zq u6.2.2.2.1 u6.2.2.2.2.1 u6.2.2.2.2.2.1 u6.2.2.2.2.2.2 tp tl tr tg tv T u7.1 u7.2 T Y) H := hW
  have hq := eq_fill (xs := ys) (p0 := (xs (i + 1))) (p1 := (xs (i + 2))) hR
  rw [hw6, hw7] at hq
  obtain ⟨hq, hR1⟩ := hq
  have hq : r6 = r7 := hq
  refine lv_icmp_eq (tgt := 691) hx hb dL_law_201 (by decide) (fun _ => ?_) (fun c9 => absurd hq c9)
  exact kt hs sn se u6.1 nq u6.2.1 u6.2.2.1 av aq yv yq zv zq u6.2.2.2.1 u6.2.2.2.2.1 u6.2.2.2.2.2.1 u6.2.2.2.2.2.2 tp tl tr tg tv T u7.1 u7.2 Y hR1 H locs hW hS
set_option maxHeartbeats 4000000 in
set_option maxRecDepth 100000 in
theorem law_setRation {p : Program} {l : Launch} {e : Env} {s : State} {m : MethodId} {below : List Frame} {meth : Method} {c : Code} {b L i : Nat} {xs : Nat → Int32} {ls : Array Slot} {H : Heap} {locs : List Loc} {G : GG} {h hh ht hk tk : Nat} {xn xb xe xt xz a : Nat → Nat} {hs sn se tp tl tr tg tv : Int32} {nv nq bv bq av aq yv yq zv zq T g M Y : Nat → Int32} {hn : Nat} {ys : Nat → Nat → Nat} {vs qs : Nat → Nat → Int32} (C0 : lw_At p s m meth c b L xs) (hK : KN G s) (hL : L ≤ 2560) (hi : i + 4 < L) (hl : lv_has ls 4 [(0, .ref b), (1, .ref h), (2, .ref (a 0)), (3, .int (nI i))]) (hR : Rl hs sn se nv nq zv zq hn vs qs tl g M) (hW : BW G (A0 s) (WS G h xn xb xe xt xz hh ht hk tk a hs sn se nv nq bv bq av aq yv yq zv zq hn ys vs qs tp tl tr tg tv T g M T Y) H) (hS : va_S (A0 s) s.heap H locs) (kt : KT p l e s m below meth c b G h xn xb xe xt xz hh ht hk tk a ls) : W p l e room_1 s m #[Value.ref b] below meth c H locs 108 1188 (lw_Z below #[Value.ref b] s) (F0 m 206 ls []) := by
  obtain ⟨hx, hb, hr, hml, hown, hts0, hX, hbl, hlocks, hgv⟩ := id C0
  have hts : ∀ w ∈ wsL_law, w.before #[Value.ref b] s = true := fun w hw => hts0 w (wsL_law_in w hw)
  have hA : ∀ q : Nat, s.heap.size ≤ q → (A0 s) q := fun _ h => h
  have X0 : Cx p s m #[Value.ref b] meth c code 4 wsL_law RL ret := ⟨hx, hb, hr, hml, hown, hts, hlocks⟩
  refine lv_aload_n hx hb dL_law_206 rfl (lv_at hl 1 rfl) ?_
  refine law_arg (k := 1) C0 hS hl hL (by omega) (by decide) dL_law_207 dL_law_208 dL_law_209 dL_law_210 dL_law_211 ?_
  refine gcallB_I (bc := [SC h xn xb xe xt xz hh ht hs sn se, LC G xn nv nq, LC G xb bv bq, HB G hh hk hn ys vs qs]) (runB_V (As := [.int (xs (i + 1))]) (rest := []) (bc := [SC h xn xb xe xt xz hh ht hs sn se, LC G xn nv nq, LC G xb bv bq, HB G hh hk hn ys vs qs]) X0 hK hW (c_X6_setRation l G h xn xb xe xt xz hh ht hk hs sn se nv nq bv bq hn ys vs qs H.size (xs (i + 1)) hR.1) (cwV 1 hts gL_law_X6_setRation rfl rfl rfl cd_X6_setRation ⟨Nat.le_of_ble_eq_true rfl, Nat.le_of_ble_eq_true rfl⟩) [0, 1, 2, 6] rfl rfl rfl 0 0 rfl (ci := 6) rfl rfl rfl rfl hl.1 rfl (Nat.le_of_ble_eq_true rfl) dL_law_212 ⟨Nat.le_of_ble_eq_true rfl, Nat.le_of_ble_eq_true rfl⟩) hW hS hA [0, 1, 2, 6] rfl rfl rfl (fun u6 => [SC h xn xb xe xt xz hh ht hs sn se, LC G xn u6.1 nq, LC G xb u6.2.1 u6.2.2.1, HB G hh hk u6.2.2.2.1 u6.2.2.2.2.1 u6.2.2.2.2.2.1 u6.2.2.2.2.2.2]) (fun _ => rfl) (fun _ => rfl) (fun r6 u6 H locs hw6 hW hS => ?_)
  have hW : BW G (A0 s) (WS G h xn xb xe xt xz hh ht hk tk a hs sn se u6.1 nq u6.2.1 u6.2.2.1 av aq yv yq zv zq u6.2.2.2.1 u6.2.2.2.2.1 u6.2.2.2.2.2.1 u6.2.2.2.2.2.2 tp tl tr tg tv T g M T Y) H := hW
  refine lv_aload_n hx hb dL_law_215 rfl (lv_at hl 2 rfl) ?_
  refine law_arg (k := 1) C0 hS hl hL (by omega) (by decide) dL_law_216 dL_law_217 dL_law_218 dL_law_219 dL_law_220 ?_
  refine gcallB_I (bc := [MC G a g M T Y]) (runB_V (As := [.int (xs (i + 1))]) (rest := [.int r6]) (bc := [MC G a g M T Y]) X0 hK hW (c_X7_setRation l G a g M T Y H.size (xs (i + 1)) hn hR.2.1 hR.1) (cwV 1 hts gL_law_X7_setRation rfl rfl rfl cd_X7_setRation ⟨Nat.le_of_ble_eq_true rfl, Nat.le_of_ble_eq_true rfl⟩) [8] rfl rfl rfl 8 0 rfl (ci := 7) rfl rfl rfl rfl hl.1 rfl (Nat.le_of_ble_eq_true rfl) dL_law_221 ⟨Nat.le_of_ble_eq_true rfl, Nat.le_of_ble_eq_true rfl⟩) hW hS hA [8] rfl rfl rfl (fun u7 => [MC G a u7.1 u7.2 T Y]) (fun _ => rfl) (fun _ => rfl) (fun r7 u7 H locs hw7 hW hS => ?_)
  have hW : BW G (A0 s) (WS G h xn xb xe xt xz hh ht hk tk a hs sn se u6.1 nq u6.2.1 u6.2.2.1 av aq yv yq zv zq u6.2.2.2.1 u6.2.2.2.2.1 u6.2.2.2.2.2.1 u6.2.2.2.2.2.2 tp tl tr tg tv T u7.1 u7.2 T Y) H := hW
  have hq := eq_setRation (xs := ys) (p0 := (xs (i + 1))) hR
  rw [hw6, hw7] at hq
  obtain ⟨hq, hR1⟩ := hq
  have hq : r6 = r7 := hq
  refine lv_icmp_eq (tgt := 691) hx hb dL_law_224 (by decide) (fun _ => ?_) (fun c9 => absurd hq c9)
  exact kt hs sn se u6.1 nq u6.2.1 u6.2.2.1 av aq yv yq zv zq u6.2.2.2.1 u6.2.2.2.2.1 u6.2.2.2.2.2.1 u6.2.2.2.2.2.2 tp tl tr tg tv T u7.1 u7.2 Y hR1 H locs hW hS
set_option maxHeartbeats 4000000 in
set_option maxRecDepth 100000 in
theorem law_start {p : Program} {l : Launch} {e : Env} {s : State} {m : MethodId} {below : List Frame} {meth : Method} {c : Code} {b L i : Nat} {xs : Nat → Int32} {ls : Array Slot} {H : Heap} {locs : List Loc} {G : GG} {h hh ht hk tk : Nat} {xn xb xe xt xz a : Nat → Nat} {hs sn se tp tl tr tg tv : Int32} {nv nq bv bq av aq yv yq zv zq T g M Y : Nat → Int32} {hn : Nat} {ys : Nat → Nat → Nat} {vs qs : Nat → Nat → Int32} (C0 : lw_At p s m meth c b L xs) (hK : KN G s) (hL : L ≤ 2560) (hi : i + 4 < L) (hl : lv_has ls 4 [(0, .ref b), (1, .ref h), (2, .ref (a 0)), (3, .int (nI i))]) (hR : Rl hs sn se nv nq zv zq hn vs qs tl g M) (hW : BW G (A0 s) (WS G h xn xb xe xt xz hh ht hk tk a hs sn se nv nq bv bq av aq yv yq zv zq hn ys vs qs tp tl tr tg tv T g M T Y) H) (hS : va_S (A0 s) s.heap H locs) (kt : KT p l e s m below meth c b G h xn xb xe xt xz hh ht hk tk a ls) : W p l e room_1 s m #[Value.ref b] below meth c H locs 108 1188 (lw_Z below #[Value.ref b] s) (F0 m 229 ls []) := by
  obtain ⟨hx, hb, hr, hml, hown, hts0, hX, hbl, hlocks, hgv⟩ := id C0
  have hts : ∀ w ∈ wsL_law, w.before #[Value.ref b] s = true := fun w hw => hts0 w (wsL_law_in w hw)
  have hA : ∀ q : Nat, s.heap.size ≤ q → (A0 s) q := fun _ h => h
  have X0 : Cx p s m #[Value.ref b] meth c code 4 wsL_law RL ret := ⟨hx, hb, hr, hml, hown, hts, hlocks⟩
  refine lv_aload_n hx hb dL_law_229 rfl (lv_at hl 1 rfl) ?_
  refine law_arg (k := 1) C0 hS hl hL (by omega) (by decide) dL_law_230 dL_law_231 dL_law_232 dL_law_233 dL_law_234 ?_
  refine law_arg (k := 2) C0 hS hl hL (by omega) (by decide) dL_law_235 dL_law_236 dL_law_237 dL_law_238 dL_law_239 ?_
  refine gcallB_I (bc := [SC h xn xb xe xt xz hh ht hs sn se, LC G xn nv nq, LC G xb bv bq, LC G xt yv yq, HB G hh hk hn ys vs qs]) (runB_V (As := [.int (xs (i + 1)), .int (xs (i + 2))]) (rest := []) (bc := [SC h xn xb xe xt xz hh ht hs sn se, LC G xn nv nq, LC G xb bv bq, LC G xt yv yq, HB G hh hk hn ys vs qs]) X0 hK hW (c_X6_start l G h xn xb xe xt xz hh ht hk hs sn se nv nq bv bq yv yq hn ys vs qs H.size (xs (i + 1)) (xs (i + 2)) hR.1) (cwV 2 hts gL_law_X6_start rfl rfl rfl cd_X6_start ⟨Nat.le_of_ble_eq_true rfl, Nat.le_of_ble_eq_true rfl⟩) [0, 1, 2, 4, 6] rfl rfl rfl 0 0 rfl (ci := 6) rfl rfl rfl rfl hl.1 rfl (Nat.le_of_ble_eq_true rfl) dL_law_240 ⟨Nat.le_of_ble_eq_true rfl, Nat.le_of_ble_eq_true rfl⟩) hW hS hA [0, 1, 2, 4, 6] rfl rfl rfl (fun u6 => [SC h xn xb xe xt xz hh ht hs sn se, LC G xn u6.1 nq, LC G xb u6.2.1 u6.2.2.1, LC G xt u6.2.2.2.1 u6.2.2.2.2.1, HB G hh hk u6.2.2.2.2.2.1 u6.2.2.2.2.2.2.1 u6.2.2.2.2.2.2.2.1 u6.2.2.2.2.2.2.2.2]) (fun _ => rfl) (fun _ => rfl) (fun r6 u6 H locs hw6 hW hS => ?_)
  have hW : BW G (A0 s) (WS G h xn xb xe xt xz hh ht hk tk a hs sn se u6.1 nq u6.2.1 u6.2.2.1 av aq u6.2.2.2.1 u6.2.2.2.2.1 zv zq u6.2.2.2.2.2.1 u6.2.2.2.2.2.2.1 u6.2.2.2.2.2.2.2.1 u6.2.2.2.2.2.2.2.2 tp tl tr tg tv T g M T Y) H := hW
  refine lv_aload_n hx hb dL_law_243 rfl (lv_at hl 2 rfl) ?_
  refine law_arg (k := 1) C0 hS hl hL (by omega) (by decide) dL_law_244 dL_law_245 dL_law_246 dL_law_247 dL_law_248 ?_
  refine law_arg (k := 2) C0 hS hl hL (by omega) (by decide) dL_law_249 dL_law_250 dL_law_251 dL_law_252 dL_law_253 ?_
  refine gcallB_I (bc := [MC G a g M T Y]) (runB_V (As := [.int (xs (i + 1)), .int (xs (i + 2))]) (rest := [.int r6]) (bc := [MC G a g M T Y]) X0 hK hW (c_X7_start l G a g M T Y H.size (xs (i + 1)) (xs (i + 2)) hn nv nq hR.2.1 hR.1 hR.at hR.is.1) (cwV 2 hts gL_law_X7_start rfl rfl rfl cd_X7_start ⟨Nat.le_of_ble_eq_true rfl, Nat.le_of_ble_eq_true rfl⟩) [8] rfl rfl rfl 8 0 rfl (ci := 7) rfl rfl rfl rfl hl.1 rfl (Nat.le_of_ble_eq_true rfl) dL_law_254 ⟨Nat.le_of_ble_eq_true rfl, Nat.le_of_ble_eq_true rfl⟩) hW hS hA [8] rfl rfl rfl (fun u7 => [MC G a u7.1 u7.2 T Y]) (fun _ => rfl) (fun _ => rfl) (fun r7 u7 H locs hw7 hW hS => ?_)
  have hW : BW G (A0 s) (WS G h xn xb xe xt xz hh ht hk tk a hs sn se u6.1 nq u6.2.1 u6.2.2.1 av aq u6.2.2.2.1 u6.2.2.2.2.1 zv zq u6.2.2.2.2.2.1 u6.2.2.2.2.2.2.1 u6.2.2.2.2.2.2.2.1 u6.2.2.2.2.2.2.2.2 tp tl tr tg tv T u7.1 u7.2 T Y) H := hW
  have hq := eq_start (xs := ys) (p0 := (xs (i + 1))) (p1 := (xs (i + 2))) (yv := yv) (yq := yq) hR
  rw [hw6, hw7] at hq
  obtain ⟨hq, hR1⟩ := hq
  have hq : r6 = r7 := hq
  refine lv_icmp_eq (tgt := 691) hx hb dL_law_257 (by decide) (fun _ => ?_) (fun c9 => absurd hq c9)
  exact kt hs sn se u6.1 nq u6.2.1 u6.2.2.1 av aq u6.2.2.2.1 u6.2.2.2.2.1 zv zq u6.2.2.2.2.2.1 u6.2.2.2.2.2.2.1 u6.2.2.2.2.2.2.2.1 u6.2.2.2.2.2.2.2.2 tp tl tr tg tv T u7.1 u7.2 Y hR1 H locs hW hS
set_option maxHeartbeats 4000000 in
set_option maxRecDepth 100000 in
theorem law_queue {p : Program} {l : Launch} {e : Env} {s : State} {m : MethodId} {below : List Frame} {meth : Method} {c : Code} {b L i : Nat} {xs : Nat → Int32} {ls : Array Slot} {H : Heap} {locs : List Loc} {G : GG} {h hh ht hk tk : Nat} {xn xb xe xt xz a : Nat → Nat} {hs sn se tp tl tr tg tv : Int32} {nv nq bv bq av aq yv yq zv zq T g M Y : Nat → Int32} {hn : Nat} {ys : Nat → Nat → Nat} {vs qs : Nat → Nat → Int32} (C0 : lw_At p s m meth c b L xs) (hK : KN G s) (hL : L ≤ 2560) (hi : i + 4 < L) (hl : lv_has ls 4 [(0, .ref b), (1, .ref h), (2, .ref (a 0)), (3, .int (nI i))]) (hR : Rl hs sn se nv nq zv zq hn vs qs tl g M) (hW : BW G (A0 s) (WS G h xn xb xe xt xz hh ht hk tk a hs sn se nv nq bv bq av aq yv yq zv zq hn ys vs qs tp tl tr tg tv T g M T Y) H) (hS : va_S (A0 s) s.heap H locs) (kt : KT p l e s m below meth c b G h xn xb xe xt xz hh ht hk tk a ls) : W p l e room_1 s m #[Value.ref b] below meth c H locs 108 1188 (lw_Z below #[Value.ref b] s) (F0 m 262 ls []) := by
  obtain ⟨hx, hb, hr, hml, hown, hts0, hX, hbl, hlocks, hgv⟩ := id C0
  have hts : ∀ w ∈ wsL_law, w.before #[Value.ref b] s = true := fun w hw => hts0 w (wsL_law_in w hw)
  have hA : ∀ q : Nat, s.heap.size ≤ q → (A0 s) q := fun _ h => h
  have X0 : Cx p s m #[Value.ref b] meth c code 4 wsL_law RL ret := ⟨hx, hb, hr, hml, hown, hts, hlocks⟩
  refine lv_aload_n hx hb dL_law_262 rfl (lv_at hl 1 rfl) ?_
  refine law_arg (k := 1) C0 hS hl hL (by omega) (by decide) dL_law_263 dL_law_264 dL_law_265 dL_law_266 dL_law_267 ?_
  refine gcallB_I (bc := [SC h xn xb xe xt xz hh ht hs sn se, LC G xn nv nq, LC G xb bv bq, HB G hh hk hn ys vs qs]) (runB_V (As := [.int (xs (i + 1))]) (rest := []) (bc := [SC h xn xb xe xt xz hh ht hs sn se, LC G xn nv nq, LC G xb bv bq, HB G hh hk hn ys vs qs]) X0 hK hW (c_X6_queue l G h xn xb xe xt xz hh ht hk hs sn se nv nq bv bq hn ys vs qs H.size (xs (i + 1)) hR.1) (cwV 1 hts gL_law_X6_queue rfl rfl rfl cd_X6_queue ⟨Nat.le_of_ble_eq_true rfl, Nat.le_of_ble_eq_true rfl⟩) [0, 1, 2, 6] rfl rfl rfl 0 0 rfl (ci := 6) rfl rfl rfl rfl hl.1 rfl (Nat.le_of_ble_eq_true rfl) dL_law_268 ⟨Nat.le_of_ble_eq_true rfl, Nat.le_of_ble_eq_true rfl⟩) hW hS hA [0, 1, 2, 6] rfl rfl rfl (fun u6 => [SC h xn xb xe xt xz hh ht hs sn se, LC G xn u6.1 u6.2.1, LC G xb u6.2.2.1 u6.2.2.2.1, HB G hh hk u6.2.2.2.2.1 u6.2.2.2.2.2.1 u6.2.2.2.2.2.2.1 u6.2.2.2.2.2.2.2]) (fun _ => rfl) (fun _ => rfl) (fun r6 u6 H locs hw6 hW hS => ?_)
  have hW : BW G (A0 s) (WS G h xn xb xe xt xz hh ht hk tk a hs sn se u6.1 u6.2.1 u6.2.2.1 u6.2.2.2.1 av aq yv yq zv zq u6.2.2.2.2.1 u6.2.2.2.2.2.1 u6.2.2.2.2.2.2.1 u6.2.2.2.2.2.2.2 tp tl tr tg tv T g M T Y) H := hW
  refine lv_aload_n hx hb dL_law_271 rfl (lv_at hl 2 rfl) ?_
  refine law_arg (k := 1) C0 hS hl hL (by omega) (by decide) dL_law_272 dL_law_273 dL_law_274 dL_law_275 dL_law_276 ?_
  refine gcallB_I (bc := [MC G a g M T Y]) (runB_V (As := [.int (xs (i + 1))]) (rest := [.int r6]) (bc := [MC G a g M T Y]) X0 hK hW (c_X7_queue l G a g M T Y H.size (xs (i + 1)) hn nv nq hR.2.1 hR.1 hR.at hR.is.1) (cwV 1 hts gL_law_X7_queue rfl rfl rfl cd_X7_queue ⟨Nat.le_of_ble_eq_true rfl, Nat.le_of_ble_eq_true rfl⟩) [8] rfl rfl rfl 8 0 rfl (ci := 7) rfl rfl rfl rfl hl.1 rfl (Nat.le_of_ble_eq_true rfl) dL_law_277 ⟨Nat.le_of_ble_eq_true rfl, Nat.le_of_ble_eq_true rfl⟩) hW hS hA [8] rfl rfl rfl (fun u7 => [MC G a u7.1 u7.2 T Y]) (fun _ => rfl) (fun _ => rfl) (fun r7 u7 H locs hw7 hW hS => ?_)
  have hW : BW G (A0 s) (WS G h xn xb xe xt xz hh ht hk tk a hs sn se u6.1 u6.2.1 u6.2.2.1 u6.2.2.2.1 av aq yv yq zv zq u6.2.2.2.2.1 u6.2.2.2.2.2.1 u6.2.2.2.2.2.2.1 u6.2.2.2.2.2.2.2 tp tl tr tg tv T u7.1 u7.2 T Y) H := hW
  have hq := eq_queue (xs := ys) (p0 := (xs (i + 1))) hR
  rw [hw6, hw7] at hq
  obtain ⟨hq, hR1⟩ := hq
  have hq : r6 = r7 := hq
  refine lv_icmp_eq (tgt := 691) hx hb dL_law_280 (by decide) (fun _ => ?_) (fun c9 => absurd hq c9)
  exact kt hs sn se u6.1 u6.2.1 u6.2.2.1 u6.2.2.2.1 av aq yv yq zv zq u6.2.2.2.2.1 u6.2.2.2.2.2.1 u6.2.2.2.2.2.2.1 u6.2.2.2.2.2.2.2 tp tl tr tg tv T u7.1 u7.2 Y hR1 H locs hW hS
set_option maxHeartbeats 4000000 in
set_option maxRecDepth 100000 in
theorem law_unqueue {p : Program} {l : Launch} {e : Env} {s : State} {m : MethodId} {below : List Frame} {meth : Method} {c : Code} {b L i : Nat} {xs : Nat → Int32} {ls : Array Slot} {H : Heap} {locs : List Loc} {G : GG} {h hh ht hk tk : Nat} {xn xb xe xt xz a : Nat → Nat} {hs sn se tp tl tr tg tv : Int32} {nv nq bv bq av aq yv yq zv zq T g M Y : Nat → Int32} {hn : Nat} {ys : Nat → Nat → Nat} {vs qs : Nat → Nat → Int32} (C0 : lw_At p s m meth c b L xs) (hK : KN G s) (hL : L ≤ 2560) (hi : i + 4 < L) (hl : lv_has ls 4 [(0, .ref b), (1, .ref h), (2, .ref (a 0)), (3, .int (nI i))]) (hR : Rl hs sn se nv nq zv zq hn vs qs tl g M) (hW : BW G (A0 s) (WS G h xn xb xe xt xz hh ht hk tk a hs sn se nv nq bv bq av aq yv yq zv zq hn ys vs qs tp tl tr tg tv T g M T Y) H) (hS : va_S (A0 s) s.heap H locs) (kt : KT p l e s m below meth c b G h xn xb xe xt xz hh ht hk tk a ls) : W p l e room_1 s m #[Value.ref b] below meth c H locs 108 1188 (lw_Z below #[Value.ref b] s) (F0 m 285 ls []) := by
  obtain ⟨hx, hb, hr, hml, hown, hts0, hX, hbl, hlocks, hgv⟩ := id C0
  have hts : ∀ w ∈ wsL_law, w.before #[Value.ref b] s = true := fun w hw => hts0 w (wsL_law_in w hw)
  have hA : ∀ q : Nat, s.heap.size ≤ q → (A0 s) q := fun _ h => h
  have X0 : Cx p s m #[Value.ref b] meth c code 4 wsL_law RL ret := ⟨hx, hb, hr, hml, hown, hts, hlocks⟩
  refine lv_aload_n hx hb dL_law_285 rfl (lv_at hl 1 rfl) ?_
  refine law_arg (k := 1) C0 hS hl hL (by omega) (by decide) dL_law_286 dL_law_287 dL_law_288 dL_law_289 dL_law_290 ?_
  refine gcallB_I (bc := [SC h xn xb xe xt xz hh ht hs sn se, LC G xn nv nq, LC G xb bv bq, HB G hh hk hn ys vs qs]) (runB_V (As := [.int (xs (i + 1))]) (rest := []) (bc := [SC h xn xb xe xt xz hh ht hs sn se, LC G xn nv nq, LC G xb bv bq, HB G hh hk hn ys vs qs]) X0 hK hW (c_X6_unqueue l G h xn xb xe xt xz hh ht hk hs sn se nv nq bv bq hn ys vs qs H.size (xs (i + 1)) hR.1) (cwV 1 hts gL_law_X6_unqueue rfl rfl rfl cd_X6_unqueue ⟨Nat.le_of_ble_eq_true rfl, Nat.le_of_ble_eq_true rfl⟩) [0, 1, 2, 6] rfl rfl rfl 0 0 rfl (ci := 6) rfl rfl rfl rfl hl.1 rfl (Nat.le_of_ble_eq_true rfl) dL_law_291 ⟨Nat.le_of_ble_eq_true rfl, Nat.le_of_ble_eq_true rfl⟩) hW hS hA [0, 1, 2, 6] rfl rfl rfl (fun u6 => [SC h xn xb xe xt xz hh ht hs sn se, LC G xn u6.1 u6.2.1, LC G xb u6.2.2.1 u6.2.2.2.1, HB G hh hk u6.2.2.2.2.1 u6.2.2.2.2.2.1 u6.2.2.2.2.2.2.1 u6.2.2.2.2.2.2.2]) (fun _ => rfl) (fun _ => rfl) (fun r6 u6 H locs hw6 hW hS => ?_)
  have hW : BW G (A0 s) (WS G h xn xb xe xt xz hh ht hk tk a hs sn se u6.1 u6.2.1 u6.2.2.1 u6.2.2.2.1 av aq yv yq zv zq u6.2.2.2.2.1 u6.2.2.2.2.2.1 u6.2.2.2.2.2.2.1 u6.2.2.2.2.2.2.2 tp tl tr tg tv T g M T Y) H := hW
  refine lv_aload_n hx hb dL_law_294 rfl (lv_at hl 2 rfl) ?_
  refine law_arg (k := 1) C0 hS hl hL (by omega) (by decide) dL_law_295 dL_law_296 dL_law_297 dL_law_298 dL_law_299 ?_
  refine gcallB_I (bc := [MC G a g M T Y]) (runB_V (As := [.int (xs (i + 1))]) (rest := [.int r6]) (bc := [MC G a g M T Y]) X0 hK hW (c_X7_unqueue l G a g M T Y H.size (xs (i + 1)) hn nv nq hR.2.1 hR.1 hR.at hR.is.1) (cwV 1 hts gL_law_X7_unqueue rfl rfl rfl cd_X7_unqueue ⟨Nat.le_of_ble_eq_true rfl, Nat.le_of_ble_eq_true rfl⟩) [8] rfl rfl rfl 8 0 rfl (ci := 7) rfl rfl rfl rfl hl.1 rfl (Nat.le_of_ble_eq_true rfl) dL_law_300 ⟨Nat.le_of_ble_eq_true rfl, Nat.le_of_ble_eq_true rfl⟩) hW hS hA [8] rfl rfl rfl (fun u7 => [MC G a u7.1 u7.2 T Y]) (fun _ => rfl) (fun _ => rfl) (fun r7 u7 H locs hw7 hW hS => ?_)
  have hW : BW G (A0 s) (WS G h xn xb xe xt xz hh ht hk tk a hs sn se u6.1 u6.2.1 u6.2.2.1 u6.2.2.2.1 av aq yv yq zv zq u6.2.2.2.2.1 u6.2.2.2.2.2.1 u6.2.2.2.2.2.2.1 u6.2.2.2.2.2.2.2 tp tl tr tg tv T u7.1 u7.2 T Y) H := hW
  have hq := eq_unqueue (xs := ys) (p0 := (xs (i + 1))) hR
  rw [hw6, hw7] at hq
  obtain ⟨hq, hR1⟩ := hq
  have hq : r6 = r7 := hq
  refine lv_icmp_eq (tgt := 691) hx hb dL_law_303 (by decide) (fun _ => ?_) (fun c9 => absurd hq c9)
  exact kt hs sn se u6.1 u6.2.1 u6.2.2.1 u6.2.2.2.1 av aq yv yq zv zq u6.2.2.2.2.1 u6.2.2.2.2.2.1 u6.2.2.2.2.2.2.1 u6.2.2.2.2.2.2.2 tp tl tr tg tv T u7.1 u7.2 Y hR1 H locs hW hS
set_option maxHeartbeats 4000000 in
set_option maxRecDepth 100000 in
theorem law_takeOut {p : Program} {l : Launch} {e : Env} {s : State} {m : MethodId} {below : List Frame} {meth : Method} {c : Code} {b L i : Nat} {xs : Nat → Int32} {ls : Array Slot} {H : Heap} {locs : List Loc} {G : GG} {h hh ht hk tk : Nat} {xn xb xe xt xz a : Nat → Nat} {hs sn se tp tl tr tg tv : Int32} {nv nq bv bq av aq yv yq zv zq T g M Y : Nat → Int32} {hn : Nat} {ys : Nat → Nat → Nat} {vs qs : Nat → Nat → Int32} (C0 : lw_At p s m meth c b L xs) (hK : KN G s) (hL : L ≤ 2560) (hi : i + 4 < L) (hl : lv_has ls 4 [(0, .ref b), (1, .ref h), (2, .ref (a 0)), (3, .int (nI i))]) (hR : Rl hs sn se nv nq zv zq hn vs qs tl g M) (hW : BW G (A0 s) (WS G h xn xb xe xt xz hh ht hk tk a hs sn se nv nq bv bq av aq yv yq zv zq hn ys vs qs tp tl tr tg tv T g M T Y) H) (hS : va_S (A0 s) s.heap H locs) (kt : KT p l e s m below meth c b G h xn xb xe xt xz hh ht hk tk a ls) : W p l e room_1 s m #[Value.ref b] below meth c H locs 108 1188 (lw_Z below #[Value.ref b] s) (F0 m 308 ls []) := by
  obtain ⟨hx, hb, hr, hml, hown, hts0, hX, hbl, hlocks, hgv⟩ := id C0
  have hts : ∀ w ∈ wsL_law, w.before #[Value.ref b] s = true := fun w hw => hts0 w (wsL_law_in w hw)
  have hA : ∀ q : Nat, s.heap.size ≤ q → (A0 s) q := fun _ h => h
  have X0 : Cx p s m #[Value.ref b] meth c code 4 wsL_law RL ret := ⟨hx, hb, hr, hml, hown, hts, hlocks⟩
  refine lv_aload_n hx hb dL_law_308 rfl (lv_at hl 1 rfl) ?_
  refine law_arg (k := 1) C0 hS hl hL (by omega) (by decide) dL_law_309 dL_law_310 dL_law_311 dL_law_312 dL_law_313 ?_
  refine gcallB_I (bc := [SC h xn xb xe xt xz hh ht hs sn se, LC G xn nv nq, LC G xb bv bq, HB G hh hk hn ys vs qs]) (runB_V (As := [.int (xs (i + 1))]) (rest := []) (bc := [SC h xn xb xe xt xz hh ht hs sn se, LC G xn nv nq, LC G xb bv bq, HB G hh hk hn ys vs qs]) X0 hK hW (c_X6_takeOut l G h xn xb xe xt xz hh ht hk hs sn se nv nq bv bq hn ys vs qs H.size (xs (i + 1)) hR.1) (cwV 1 hts gL_law_X6_takeOut rfl rfl rfl cd_X6_takeOut ⟨Nat.le_of_ble_eq_true rfl, Nat.le_of_ble_eq_true rfl⟩) [0, 1, 2, 6] rfl rfl rfl 0 0 rfl (ci := 6) rfl rfl rfl rfl hl.1 rfl (Nat.le_of_ble_eq_true rfl) dL_law_314 ⟨Nat.le_of_ble_eq_true rfl, Nat.le_of_ble_eq_true rfl⟩) hW hS hA [0, 1, 2, 6] rfl rfl rfl (fun u6 => [SC h xn xb xe xt xz hh ht hs sn se, LC G xn u6.1 nq, LC G xb u6.2.1 u6.2.2.1, HB G hh hk u6.2.2.2.1 u6.2.2.2.2.1 u6.2.2.2.2.2.1 u6.2.2.2.2.2.2]) (fun _ => rfl) (fun _ => rfl) (fun r6 u6 H locs hw6 hW hS => ?_)
  have hW : BW G (A0 s) (WS G h xn xb xe xt xz hh ht hk tk a hs sn se u6.1 nq u6.2.1 u6.2.2.1 av aq yv yq zv zq u6.2.2.2.1 u6.2.2.2.2.1 u6.2.2.2.2.2.1 u6.2.2.2.2.2.2 tp tl tr tg tv T g M T Y) H := hW
  refine lv_aload_n hx hb dL_law_317 rfl (lv_at hl 2 rfl) ?_
  refine law_arg (k := 1) C0 hS hl hL (by omega) (by decide) dL_law_318 dL_law_319 dL_law_320 dL_law_321 dL_law_322 ?_
  refine gcallB_I (bc := [MC G a g M T Y]) (runB_V (As := [.int (xs (i + 1))]) (rest := [.int r6]) (bc := [MC G a g M T Y]) X0 hK hW (c_X7_takeOut l G a g M T Y H.size (xs (i + 1)) hn hR.2.1 hR.1) (cwV 1 hts gL_law_X7_takeOut rfl rfl rfl cd_X7_takeOut ⟨Nat.le_of_ble_eq_true rfl, Nat.le_of_ble_eq_true rfl⟩) [8] rfl rfl rfl 8 0 rfl (ci := 7) rfl rfl rfl rfl hl.1 rfl (Nat.le_of_ble_eq_true rfl) dL_law_323 ⟨Nat.le_of_ble_eq_true rfl, Nat.le_of_ble_eq_true rfl⟩) hW hS hA [8] rfl rfl rfl (fun u7 => [MC G a u7.1 u7.2 T Y]) (fun _ => rfl) (fun _ => rfl) (fun r7 u7 H locs hw7 hW hS => ?_)
  have hW : BW G (A0 s) (WS G h xn xb xe xt xz hh ht hk tk a hs sn se u6.1 nq u6.2.1 u6.2.2.1 av aq yv yq zv zq u6.2.2.2.1 u6.2.2.2.2.1 u6.2.2.2.2.2.1 u6.2.2.2.2.2.2 tp tl tr tg tv T u7.1 u7.2 T Y) H := hW
  have hq := eq_takeOut (xs := ys) (p0 := (xs (i + 1))) hR
  rw [hw6, hw7] at hq
  obtain ⟨hq, hR1⟩ := hq
  have hq : r6 = r7 := hq
  refine lv_icmp_eq (tgt := 691) hx hb dL_law_326 (by decide) (fun _ => ?_) (fun c9 => absurd hq c9)
  exact kt hs sn se u6.1 nq u6.2.1 u6.2.2.1 av aq yv yq zv zq u6.2.2.2.1 u6.2.2.2.2.1 u6.2.2.2.2.2.1 u6.2.2.2.2.2.2 tp tl tr tg tv T u7.1 u7.2 Y hR1 H locs hW hS
set_option maxHeartbeats 4000000 in
set_option maxRecDepth 100000 in
theorem law_run {p : Program} {l : Launch} {e : Env} {s : State} {m : MethodId} {below : List Frame} {meth : Method} {c : Code} {b L i : Nat} {xs : Nat → Int32} {ls : Array Slot} {H : Heap} {locs : List Loc} {G : GG} {h hh ht hk tk : Nat} {xn xb xe xt xz a : Nat → Nat} {hs sn se tp tl tr tg tv : Int32} {nv nq bv bq av aq yv yq zv zq T g M Y : Nat → Int32} {hn : Nat} {ys : Nat → Nat → Nat} {vs qs : Nat → Nat → Int32} (C0 : lw_At p s m meth c b L xs) (hK : KN G s) (hL : L ≤ 2560) (hi : i + 4 < L) (hl : lv_has ls 4 [(0, .ref b), (1, .ref h), (2, .ref (a 0)), (3, .int (nI i))]) (hR : Rl hs sn se nv nq zv zq hn vs qs tl g M) (hW : BW G (A0 s) (WS G h xn xb xe xt xz hh ht hk tk a hs sn se nv nq bv bq av aq yv yq zv zq hn ys vs qs tp tl tr tg tv T g M T Y) H) (hS : va_S (A0 s) s.heap H locs) (kt : KT p l e s m below meth c b G h xn xb xe xt xz hh ht hk tk a ls) : W p l e room_1 s m #[Value.ref b] below meth c H locs 108 1188 (lw_Z below #[Value.ref b] s) (F0 m 331 ls []) := by
  obtain ⟨hx, hb, hr, hml, hown, hts0, hX, hbl, hlocks, hgv⟩ := id C0
  have hts : ∀ w ∈ wsL_law, w.before #[Value.ref b] s = true := fun w hw => hts0 w (wsL_law_in w hw)
  have hA : ∀ q : Nat, s.heap.size ≤ q → (A0 s) q := fun _ h => h
  have X0 : Cx p s m #[Value.ref b] meth c code 4 wsL_law RL ret := ⟨hx, hb, hr, hml, hown, hts, hlocks⟩
  refine lv_aload_n hx hb dL_law_331 rfl (lv_at hl 1 rfl) ?_
  refine law_arg (k := 1) C0 hS hl hL (by omega) (by decide) dL_law_332 dL_law_333 dL_law_334 dL_law_335 dL_law_336 ?_
  refine gcallB_I (bc := [SC h xn xb xe xt xz hh ht hs sn se, LC G xn nv nq, LC G xb bv bq, LC G xt yv yq, HB G hh hk hn ys vs qs]) (runB_V (As := [.int (xs (i + 1))]) (rest := []) (bc := [SC h xn xb xe xt xz hh ht hs sn se, LC G xn nv nq, LC G xb bv bq, LC G xt yv yq, HB G hh hk hn ys vs qs]) X0 hK hW (c_X6_run l G h xn xb xe xt xz hh ht hk hs sn se nv nq bv bq yv yq hn ys vs qs H.size (xs (i + 1)) hR.1) (cwV 1 hts gL_law_X6_run rfl rfl rfl cd_X6_run ⟨Nat.le_of_ble_eq_true rfl, Nat.le_of_ble_eq_true rfl⟩) [0, 1, 2, 4, 6] rfl rfl rfl 0 0 rfl (ci := 6) rfl rfl rfl rfl hl.1 rfl (Nat.le_of_ble_eq_true rfl) dL_law_337 ⟨Nat.le_of_ble_eq_true rfl, Nat.le_of_ble_eq_true rfl⟩) hW hS hA [0, 1, 2, 4, 6] rfl rfl rfl (fun u6 => [SC h xn xb xe xt xz hh ht hs sn se, LC G xn u6.1 u6.2.1, LC G xb u6.2.2.1 u6.2.2.2.1, LC G xt u6.2.2.2.2.1 u6.2.2.2.2.2.1, HB G hh hk u6.2.2.2.2.2.2.1 u6.2.2.2.2.2.2.2.1 u6.2.2.2.2.2.2.2.2.1 u6.2.2.2.2.2.2.2.2.2]) (fun _ => rfl) (fun _ => rfl) (fun r6 u6 H locs hw6 hW hS => ?_)
  have hW : BW G (A0 s) (WS G h xn xb xe xt xz hh ht hk tk a hs sn se u6.1 u6.2.1 u6.2.2.1 u6.2.2.2.1 av aq u6.2.2.2.2.1 u6.2.2.2.2.2.1 zv zq u6.2.2.2.2.2.2.1 u6.2.2.2.2.2.2.2.1 u6.2.2.2.2.2.2.2.2.1 u6.2.2.2.2.2.2.2.2.2 tp tl tr tg tv T g M T Y) H := hW
  refine lv_aload_n hx hb dL_law_340 rfl (lv_at hl 2 rfl) ?_
  refine law_arg (k := 1) C0 hS hl hL (by omega) (by decide) dL_law_341 dL_law_342 dL_law_343 dL_law_344 dL_law_345 ?_
  refine gcallB_I (bc := [MC G a g M T Y]) (runB_V (As := [.int (xs (i + 1))]) (rest := [.int r6]) (bc := [MC G a g M T Y]) X0 hK hW (c_X7_run l G a g M T Y H.size (xs (i + 1)) hn nv nq hR.2.1 hR.1 hR.at hR.is.1) (cwV 1 hts gL_law_X7_run rfl rfl rfl cd_X7_run ⟨Nat.le_of_ble_eq_true rfl, Nat.le_of_ble_eq_true rfl⟩) [8] rfl rfl rfl 8 0 rfl (ci := 7) rfl rfl rfl rfl hl.1 rfl (Nat.le_of_ble_eq_true rfl) dL_law_346 ⟨Nat.le_of_ble_eq_true rfl, Nat.le_of_ble_eq_true rfl⟩) hW hS hA [8] rfl rfl rfl (fun u7 => [MC G a u7.1 u7.2 T Y]) (fun _ => rfl) (fun _ => rfl) (fun r7 u7 H locs hw7 hW hS => ?_)
  have hW : BW G (A0 s) (WS G h xn xb xe xt xz hh ht hk tk a hs sn se u6.1 u6.2.1 u6.2.2.1 u6.2.2.2.1 av aq u6.2.2.2.2.1 u6.2.2.2.2.2.1 zv zq u6.2.2.2.2.2.2.1 u6.2.2.2.2.2.2.2.1 u6.2.2.2.2.2.2.2.2.1 u6.2.2.2.2.2.2.2.2.2 tp tl tr tg tv T u7.1 u7.2 T Y) H := hW
  have hq := eq_run (xs := ys) (p0 := (xs (i + 1))) (yv := yv) (yq := yq) hR
  rw [hw6, hw7] at hq
  obtain ⟨hq, hR1⟩ := hq
  have hq : r6 = r7 := hq
  refine lv_icmp_eq (tgt := 691) hx hb dL_law_349 (by decide) (fun _ => ?_) (fun c9 => absurd hq c9)
  exact kt hs sn se u6.1 u6.2.1 u6.2.2.1 u6.2.2.2.1 av aq u6.2.2.2.2.1 u6.2.2.2.2.2.1 zv zq u6.2.2.2.2.2.2.1 u6.2.2.2.2.2.2.2.1 u6.2.2.2.2.2.2.2.2.1 u6.2.2.2.2.2.2.2.2.2 tp tl tr tg tv T u7.1 u7.2 Y hR1 H locs hW hS
set_option maxHeartbeats 4000000 in
set_option maxRecDepth 100000 in
theorem law_type {p : Program} {l : Launch} {e : Env} {s : State} {m : MethodId} {below : List Frame} {meth : Method} {c : Code} {b L i : Nat} {xs : Nat → Int32} {ls : Array Slot} {H : Heap} {locs : List Loc} {G : GG} {h hh ht hk tk : Nat} {xn xb xe xt xz a : Nat → Nat} {hs sn se tp tl tr tg tv : Int32} {nv nq bv bq av aq yv yq zv zq T g M Y : Nat → Int32} {hn : Nat} {ys : Nat → Nat → Nat} {vs qs : Nat → Nat → Int32} (C0 : lw_At p s m meth c b L xs) (hK : KN G s) (hL : L ≤ 2560) (hi : i + 4 < L) (hl : lv_has ls 4 [(0, .ref b), (1, .ref h), (2, .ref (a 0)), (3, .int (nI i))]) (hR : Rl hs sn se nv nq zv zq hn vs qs tl g M) (hW : BW G (A0 s) (WS G h xn xb xe xt xz hh ht hk tk a hs sn se nv nq bv bq av aq yv yq zv zq hn ys vs qs tp tl tr tg tv T g M T Y) H) (hS : va_S (A0 s) s.heap H locs) (kt : KT p l e s m below meth c b G h xn xb xe xt xz hh ht hk tk a ls) : W p l e room_1 s m #[Value.ref b] below meth c H locs 108 1188 (lw_Z below #[Value.ref b] s) (F0 m 354 ls []) := by
  obtain ⟨hx, hb, hr, hml, hown, hts0, hX, hbl, hlocks, hgv⟩ := id C0
  have hts : ∀ w ∈ wsL_law, w.before #[Value.ref b] s = true := fun w hw => hts0 w (wsL_law_in w hw)
  have hA : ∀ q : Nat, s.heap.size ≤ q → (A0 s) q := fun _ h => h
  have X0 : Cx p s m #[Value.ref b] meth c code 4 wsL_law RL ret := ⟨hx, hb, hr, hml, hown, hts, hlocks⟩
  obtain ⟨n, hn8, -, hn2⟩ := id hR.2.2.2.2.2.2.2
  refine lv_aload_n hx hb dL_law_354 rfl (lv_at hl 1 rfl) ?_
  refine law_arg (k := 1) C0 hS hl hL (by omega) (by decide) dL_law_355 dL_law_356 dL_law_357 dL_law_358 dL_law_359 ?_
  refine lv_i2c hx hb dL_law_360 rfl ?_
  refine gcallB_I (bc := [SC h xn xb xe xt xz hh ht hs sn se, OT G ht tk tp tl tr tg tv T]) (runB_V (As := [.int (((xs (i + 1)).toUInt32 % 65536).toInt32)]) (rest := []) (bc := [SC h xn xb xe xt xz hh ht hs sn se, OT G ht tk tp tl tr tg tv T]) X0 hK hW (c_X6_type l G h xn xb xe xt xz hh ht tk hs sn se tp tl tr tg tv T H.size (((xs (i + 1)).toUInt32 % 65536).toInt32)) (cwV 1 hts gL_law_X6_type rfl rfl rfl cd_X6_type ⟨Nat.le_of_ble_eq_true rfl, Nat.le_of_ble_eq_true rfl⟩) [0, 7] rfl rfl rfl 0 0 rfl (ci := 6) rfl rfl rfl rfl hl.1 rfl (Nat.le_of_ble_eq_true rfl) dL_law_361 ⟨Nat.le_of_ble_eq_true rfl, Nat.le_of_ble_eq_true rfl⟩) hW hS hA [0, 7] rfl rfl rfl (fun u6 => [SC h xn xb xe xt xz hh ht hs sn se, OT G ht tk tp u6.1 tr tg tv u6.2]) (fun _ => rfl) (fun _ => rfl) (fun r6 u6 H locs hw6 hW hS => ?_)
  have hW : BW G (A0 s) (WS G h xn xb xe xt xz hh ht hk tk a hs sn se nv nq bv bq av aq yv yq zv zq hn ys vs qs tp u6.1 tr tg tv u6.2 g M T Y) H := hW
  refine lv_aload_n hx hb dL_law_364 rfl (lv_at hl 2 rfl) ?_
  refine law_arg (k := 1) C0 hS hl hL (by omega) (by decide) dL_law_365 dL_law_366 dL_law_367 dL_law_368 dL_law_369 ?_
  refine lv_i2c hx hb dL_law_370 rfl ?_
  refine gcallB_I (bc := [MC G a g M T Y]) (runB_V (As := [.int (((xs (i + 1)).toUInt32 % 65536).toInt32)]) (rest := [.int r6]) (bc := [MC G a g M T Y]) X0 hK hW (c_X7_type l G a g M T Y H.size (((xs (i + 1)).toUInt32 % 65536).toInt32) n hn2 hn8) (cwV 1 hts gL_law_X7_type rfl rfl rfl cd_X7_type ⟨Nat.le_of_ble_eq_true rfl, Nat.le_of_ble_eq_true rfl⟩) [8] rfl rfl rfl 8 0 rfl (ci := 7) rfl rfl rfl rfl hl.1 rfl (Nat.le_of_ble_eq_true rfl) dL_law_371 ⟨Nat.le_of_ble_eq_true rfl, Nat.le_of_ble_eq_true rfl⟩) hW hS hA [8] rfl rfl rfl (fun u7 => [MC G a u7.1 M u7.2 Y]) (fun _ => rfl) (fun _ => rfl) (fun r7 u7 H locs hw7 hW hS => ?_)
  have hW : BW G (A0 s) (WS G h xn xb xe xt xz hh ht hk tk a hs sn se nv nq bv bq av aq yv yq zv zq hn ys vs qs tp u6.1 tr tg tv u6.2 u7.1 M u7.2 Y) H := hW
  have hq := eq_type (T := T) (p0 := (((xs (i + 1)).toUInt32 % 65536).toInt32)) hR
  rw [hw6, hw7] at hq
  obtain ⟨hq, ht, hR1⟩ := hq
  have ht : u6.2 = u7.2 := ht
  have hq : r6 = r7 := hq
  rw [ht] at hW
  refine lv_icmp_eq (tgt := 691) hx hb dL_law_374 (by decide) (fun _ => ?_) (fun c9 => absurd hq c9)
  exact kt hs sn se nv nq bv bq av aq yv yq zv zq hn ys vs qs tp u6.1 tr tg tv u7.2 u7.1 M Y hR1 H locs hW hS
set_option maxHeartbeats 4000000 in
set_option maxRecDepth 100000 in
theorem law_clearText {p : Program} {l : Launch} {e : Env} {s : State} {m : MethodId} {below : List Frame} {meth : Method} {c : Code} {b L i : Nat} {xs : Nat → Int32} {ls : Array Slot} {H : Heap} {locs : List Loc} {G : GG} {h hh ht hk tk : Nat} {xn xb xe xt xz a : Nat → Nat} {hs sn se tp tl tr tg tv : Int32} {nv nq bv bq av aq yv yq zv zq T g M Y : Nat → Int32} {hn : Nat} {ys : Nat → Nat → Nat} {vs qs : Nat → Nat → Int32} (C0 : lw_At p s m meth c b L xs) (hK : KN G s) (hL : L ≤ 2560) (hi : i + 4 < L) (hl : lv_has ls 4 [(0, .ref b), (1, .ref h), (2, .ref (a 0)), (3, .int (nI i))]) (hR : Rl hs sn se nv nq zv zq hn vs qs tl g M) (hW : BW G (A0 s) (WS G h xn xb xe xt xz hh ht hk tk a hs sn se nv nq bv bq av aq yv yq zv zq hn ys vs qs tp tl tr tg tv T g M T Y) H) (hS : va_S (A0 s) s.heap H locs) (kt : KT p l e s m below meth c b G h xn xb xe xt xz hh ht hk tk a ls) : W p l e room_1 s m #[Value.ref b] below meth c H locs 108 1188 (lw_Z below #[Value.ref b] s) (F0 m 379 ls []) := by
  obtain ⟨hx, hb, hr, hml, hown, hts0, hX, hbl, hlocks, hgv⟩ := id C0
  have hts : ∀ w ∈ wsL_law, w.before #[Value.ref b] s = true := fun w hw => hts0 w (wsL_law_in w hw)
  have hA : ∀ q : Nat, s.heap.size ≤ q → (A0 s) q := fun _ h => h
  have X0 : Cx p s m #[Value.ref b] meth c code 4 wsL_law RL ret := ⟨hx, hb, hr, hml, hown, hts, hlocks⟩
  refine lv_aload_n hx hb dL_law_379 rfl (lv_at hl 1 rfl) ?_
  refine gcallB_I (bc := [SC h xn xb xe xt xz hh ht hs sn se, OT G ht tk tp tl tr tg tv T]) (runB_V (As := []) (rest := []) (bc := [SC h xn xb xe xt xz hh ht hs sn se, OT G ht tk tp tl tr tg tv T]) X0 hK hW (c_X6_clearText l G h xn xb xe xt xz hh ht tk hs sn se tp tl tr tg tv T H.size) (cwV 0 hts gL_law_X6_clearText rfl rfl rfl cd_X6_clearText ⟨Nat.le_of_ble_eq_true rfl, Nat.le_of_ble_eq_true rfl⟩) [0, 7] rfl rfl rfl 0 0 rfl (ci := 6) rfl rfl rfl rfl hl.1 rfl (Nat.le_of_ble_eq_true rfl) dL_law_380 ⟨Nat.le_of_ble_eq_true rfl, Nat.le_of_ble_eq_true rfl⟩) hW hS hA [0, 7] rfl rfl rfl (fun u6 => [SC h xn xb xe xt xz hh ht hs sn se, OT G ht tk tp u6 tr tg tv T]) (fun _ => rfl) (fun _ => rfl) (fun r6 u6 H locs hw6 hW hS => ?_)
  have hW : BW G (A0 s) (WS G h xn xb xe xt xz hh ht hk tk a hs sn se nv nq bv bq av aq yv yq zv zq hn ys vs qs tp u6 tr tg tv T g M T Y) H := hW
  refine lv_aload_n hx hb dL_law_383 rfl (lv_at hl 2 rfl) ?_
  refine gcallB_I (bc := [MC G a g M T Y]) (runB_V (As := []) (rest := [.int r6]) (bc := [MC G a g M T Y]) X0 hK hW (c_X7_clearText l G a g M T Y H.size) (cwV 0 hts gL_law_X7_clearText rfl rfl rfl cd_X7_clearText ⟨Nat.le_of_ble_eq_true rfl, Nat.le_of_ble_eq_true rfl⟩) [8] rfl rfl rfl 8 0 rfl (ci := 7) rfl rfl rfl rfl hl.1 rfl (Nat.le_of_ble_eq_true rfl) dL_law_384 ⟨Nat.le_of_ble_eq_true rfl, Nat.le_of_ble_eq_true rfl⟩) hW hS hA [8] rfl rfl rfl (fun u7 => [MC G a u7 M T Y]) (fun _ => rfl) (fun _ => rfl) (fun r7 u7 H locs hw7 hW hS => ?_)
  have hW : BW G (A0 s) (WS G h xn xb xe xt xz hh ht hk tk a hs sn se nv nq bv bq av aq yv yq zv zq hn ys vs qs tp u6 tr tg tv T u7 M T Y) H := hW
  have hq := eq_clearText  hR
  rw [hw6, hw7] at hq
  obtain ⟨hq, hR1⟩ := hq
  have hq : r6 = r7 := hq
  refine lv_icmp_eq (tgt := 691) hx hb dL_law_387 (by decide) (fun _ => ?_) (fun c9 => absurd hq c9)
  exact kt hs sn se nv nq bv bq av aq yv yq zv zq hn ys vs qs tp u6 tr tg tv T u7 M Y hR1 H locs hW hS
set_option maxHeartbeats 4000000 in
set_option maxRecDepth 100000 in
theorem law_perform {p : Program} {l : Launch} {e : Env} {s : State} {m : MethodId} {below : List Frame} {meth : Method} {c : Code} {b L i : Nat} {xs : Nat → Int32} {ls : Array Slot} {H : Heap} {locs : List Loc} {G : GG} {h hh ht hk tk : Nat} {xn xb xe xt xz a : Nat → Nat} {hs sn se tp tl tr tg tv : Int32} {nv nq bv bq av aq yv yq zv zq T g M Y : Nat → Int32} {hn : Nat} {ys : Nat → Nat → Nat} {vs qs : Nat → Nat → Int32} (C0 : lw_At p s m meth c b L xs) (hK : KN G s) (hL : L ≤ 2560) (hi : i + 4 < L) (hl : lv_has ls 4 [(0, .ref b), (1, .ref h), (2, .ref (a 0)), (3, .int (nI i))]) (hR : Rl hs sn se nv nq zv zq hn vs qs tl g M) (hW : BW G (A0 s) (WS G h xn xb xe xt xz hh ht hk tk a hs sn se nv nq bv bq av aq yv yq zv zq hn ys vs qs tp tl tr tg tv T g M T Y) H) (hS : va_S (A0 s) s.heap H locs) (kt : KT p l e s m below meth c b G h xn xb xe xt xz hh ht hk tk a ls) : W p l e room_1 s m #[Value.ref b] below meth c H locs 108 1188 (lw_Z below #[Value.ref b] s) (F0 m 392 ls []) := by
  obtain ⟨hx, hb, hr, hml, hown, hts0, hX, hbl, hlocks, hgv⟩ := id C0
  have hts : ∀ w ∈ wsL_law, w.before #[Value.ref b] s = true := fun w hw => hts0 w (wsL_law_in w hw)
  have hA : ∀ q : Nat, s.heap.size ≤ q → (A0 s) q := fun _ h => h
  have X0 : Cx p s m #[Value.ref b] meth c code 4 wsL_law RL ret := ⟨hx, hb, hr, hml, hown, hts, hlocks⟩
  obtain ⟨n, hn8, -, hn2⟩ := id hR.2.2.2.2.2.2.2
  refine lv_aload_n hx hb dL_law_392 rfl (lv_at hl 1 rfl) ?_
  refine gcallB_I (bc := [SC h xn xb xe xt xz hh ht hs sn se, LC G xn nv nq, LC G xb bv bq, LC G xt yv yq, HB G hh hk hn ys vs qs, OT G ht tk tp tl tr tg tv T]) (runB_V (As := []) (rest := []) (bc := [SC h xn xb xe xt xz hh ht hs sn se, LC G xn nv nq, LC G xb bv bq, LC G xt yv yq, HB G hh hk hn ys vs qs, OT G ht tk tp tl tr tg tv T]) X0 hK hW (c_X6_perform l G h xn xb xe xt xz hh ht hk tk hs sn se nv nq bv bq yv yq hn ys vs qs tp tl tr tg tv T H.size hR.1) (cwV 0 hts gL_law_X6_perform rfl rfl rfl cd_X6_perform ⟨Nat.le_of_ble_eq_true rfl, Nat.le_of_ble_eq_true rfl⟩) [0, 1, 2, 4, 6, 7] rfl rfl rfl 0 0 rfl (ci := 6) rfl rfl rfl rfl hl.1 rfl (Nat.le_of_ble_eq_true rfl) dL_law_393 ⟨Nat.le_of_ble_eq_true rfl, Nat.le_of_ble_eq_true rfl⟩) hW hS hA [0, 1, 2, 4, 6, 7] rfl rfl rfl (fun u6 => [SC h xn xb xe xt xz hh ht hs u6.1 u6.2.1, LC G xn u6.2.2.1 u6.2.2.2.1, LC G xb u6.2.2.2.2.1 u6.2.2.2.2.2.1, LC G xt u6.2.2.2.2.2.2.1 u6.2.2.2.2.2.2.2.1, HB G hh hk u6.2.2.2.2.2.2.2.2.1 u6.2.2.2.2.2.2.2.2.2.1 u6.2.2.2.2.2.2.2.2.2.2.1 u6.2.2.2.2.2.2.2.2.2.2.2.1, OT G ht tk u6.2.2.2.2.2.2.2.2.2.2.2.2.1 tl u6.2.2.2.2.2.2.2.2.2.2.2.2.2.1 u6.2.2.2.2.2.2.2.2.2.2.2.2.2.2.1 u6.2.2.2.2.2.2.2.2.2.2.2.2.2.2.2 T]) (fun _ => rfl) (fun _ => rfl) (fun r6 u6 H locs hw6 hW hS => ?_)
  have hW : BW G (A0 s) (WS G h xn xb xe xt xz hh ht hk tk a hs u6.1 u6.2.1 u6.2.2.1 u6.2.2.2.1 u6.2.2.2.2.1 u6.2.2.2.2.2.1 av aq u6.2.2.2.2.2.2.1 u6.2.2.2.2.2.2.2.1 zv zq u6.2.2.2.2.2.2.2.2.1 u6.2.2.2.2.2.2.2.2.2.1 u6.2.2.2.2.2.2.2.2.2.2.1 u6.2.2.2.2.2.2.2.2.2.2.2.1 u6.2.2.2.2.2.2.2.2.2.2.2.2.1 tl u6.2.2.2.2.2.2.2.2.2.2.2.2.2.1 u6.2.2.2.2.2.2.2.2.2.2.2.2.2.2.1 u6.2.2.2.2.2.2.2.2.2.2.2.2.2.2.2 T g M T Y) H := hW
  refine lv_aload_n hx hb dL_law_396 rfl (lv_at hl 2 rfl) ?_
  refine gcallB_I (bc := [MC G a g M T Y]) (runB_V (As := []) (rest := [.int r6]) (bc := [MC G a g M T Y]) X0 hK hW (c_X7_perform l G a g M T Y H.size hn n nv nq hR.2.1 hR.1 hn2 hn8 hR.at hR.is) (cwV 0 hts gL_law_X7_perform rfl rfl rfl cd_X7_perform ⟨Nat.le_of_ble_eq_true rfl, Nat.le_of_ble_eq_true rfl⟩) [8] rfl rfl rfl 8 0 rfl (ci := 7) rfl rfl rfl rfl hl.1 rfl (Nat.le_of_ble_eq_true rfl) dL_law_397 ⟨Nat.le_of_ble_eq_true rfl, Nat.le_of_ble_eq_true rfl⟩) hW hS hA [8] rfl rfl rfl (fun u7 => [MC G a u7.1 u7.2.1 T u7.2.2]) (fun _ => rfl) (fun _ => rfl) (fun r7 u7 H locs hw7 hW hS => ?_)
  have hW : BW G (A0 s) (WS G h xn xb xe xt xz hh ht hk tk a hs u6.1 u6.2.1 u6.2.2.1 u6.2.2.2.1 u6.2.2.2.2.1 u6.2.2.2.2.2.1 av aq u6.2.2.2.2.2.2.1 u6.2.2.2.2.2.2.2.1 zv zq u6.2.2.2.2.2.2.2.2.1 u6.2.2.2.2.2.2.2.2.2.1 u6.2.2.2.2.2.2.2.2.2.2.1 u6.2.2.2.2.2.2.2.2.2.2.2.1 u6.2.2.2.2.2.2.2.2.2.2.2.2.1 tl u6.2.2.2.2.2.2.2.2.2.2.2.2.2.1 u6.2.2.2.2.2.2.2.2.2.2.2.2.2.2.1 u6.2.2.2.2.2.2.2.2.2.2.2.2.2.2.2 T u7.1 u7.2.1 T u7.2.2) H := hW
  have hq := eq_perform (T := T) (Y := Y) (xs := ys) (bv := bv) (bq := bq) (yv := yv) (yq := yq) (tr := tr) (tg := tg) (tv := tv) hR
  rw [hw6, hw7] at hq
  obtain ⟨hq, hR1⟩ := hq
  have hq : r6 = r7 := hq
  refine lv_icmp_eq (tgt := 691) hx hb dL_law_400 (by decide) (fun _ => ?_) (fun c9 => absurd hq c9)
  exact kt hs u6.1 u6.2.1 u6.2.2.1 u6.2.2.2.1 u6.2.2.2.2.1 u6.2.2.2.2.2.1 av aq u6.2.2.2.2.2.2.1 u6.2.2.2.2.2.2.2.1 zv zq u6.2.2.2.2.2.2.2.2.1 u6.2.2.2.2.2.2.2.2.2.1 u6.2.2.2.2.2.2.2.2.2.2.1 u6.2.2.2.2.2.2.2.2.2.2.2.1 u6.2.2.2.2.2.2.2.2.2.2.2.2.1 tl u6.2.2.2.2.2.2.2.2.2.2.2.2.2.1 u6.2.2.2.2.2.2.2.2.2.2.2.2.2.2.1 u6.2.2.2.2.2.2.2.2.2.2.2.2.2.2.2 T u7.1 u7.2.1 u7.2.2 hR1 H locs hW hS
set_option maxHeartbeats 4000000 in
set_option maxRecDepth 100000 in
theorem law_stopped {p : Program} {l : Launch} {e : Env} {s : State} {m : MethodId} {below : List Frame} {meth : Method} {c : Code} {b L i : Nat} {xs : Nat → Int32} {ls : Array Slot} {H : Heap} {locs : List Loc} {G : GG} {h hh ht hk tk : Nat} {xn xb xe xt xz a : Nat → Nat} {hs sn se tp tl tr tg tv : Int32} {nv nq bv bq av aq yv yq zv zq T g M Y : Nat → Int32} {hn : Nat} {ys : Nat → Nat → Nat} {vs qs : Nat → Nat → Int32} (C0 : lw_At p s m meth c b L xs) (hK : KN G s) (hL : L ≤ 2560) (hi : i + 4 < L) (hl : lv_has ls 4 [(0, .ref b), (1, .ref h), (2, .ref (a 0)), (3, .int (nI i))]) (hR : Rl hs sn se nv nq zv zq hn vs qs tl g M) (hW : BW G (A0 s) (WS G h xn xb xe xt xz hh ht hk tk a hs sn se nv nq bv bq av aq yv yq zv zq hn ys vs qs tp tl tr tg tv T g M T Y) H) (hS : va_S (A0 s) s.heap H locs) (kt : KT p l e s m below meth c b G h xn xb xe xt xz hh ht hk tk a ls) : W p l e room_1 s m #[Value.ref b] below meth c H locs 108 1188 (lw_Z below #[Value.ref b] s) (F0 m 405 ls []) := by
  obtain ⟨hx, hb, hr, hml, hown, hts0, hX, hbl, hlocks, hgv⟩ := id C0
  have hts : ∀ w ∈ wsL_law, w.before #[Value.ref b] s = true := fun w hw => hts0 w (wsL_law_in w hw)
  have hA : ∀ q : Nat, s.heap.size ≤ q → (A0 s) q := fun _ h => h
  have X0 : Cx p s m #[Value.ref b] meth c code 4 wsL_law RL ret := ⟨hx, hb, hr, hml, hown, hts, hlocks⟩
  refine lv_aload_n hx hb dL_law_405 rfl (lv_at hl 1 rfl) ?_
  refine law_arg (k := 1) C0 hS hl hL (by omega) (by decide) dL_law_406 dL_law_407 dL_law_408 dL_law_409 dL_law_410 ?_
  refine gcallB_I (bc := [SC h xn xb xe xt xz hh ht hs sn se]) (runB_V (As := [.int (xs (i + 1))]) (rest := []) (bc := [SC h xn xb xe xt xz hh ht hs sn se]) X0 hK hW (c_X6_stopped l G h xn xb xe xt xz hh ht hs sn se H.size (xs (i + 1))) (cwV 1 hts gL_law_X6_stopped rfl rfl rfl cd_X6_stopped ⟨Nat.le_of_ble_eq_true rfl, Nat.le_of_ble_eq_true rfl⟩) [0] rfl rfl rfl 0 0 rfl (ci := 6) rfl rfl rfl rfl hl.1 rfl (Nat.le_of_ble_eq_true rfl) dL_law_411 ⟨Nat.le_of_ble_eq_true rfl, Nat.le_of_ble_eq_true rfl⟩) hW hS hA [0] rfl rfl rfl (fun _ => [SC h xn xb xe xt xz hh ht hs sn se]) (fun _ => rfl) (fun _ => rfl) (fun r6 u6 H locs hw6 hW hS => ?_)
  have hW : BW G (A0 s) (WS G h xn xb xe xt xz hh ht hk tk a hs sn se nv nq bv bq av aq yv yq zv zq hn ys vs qs tp tl tr tg tv T g M T Y) H := hW
  refine lv_aload_n hx hb dL_law_414 rfl (lv_at hl 2 rfl) ?_
  refine law_arg (k := 1) C0 hS hl hL (by omega) (by decide) dL_law_415 dL_law_416 dL_law_417 dL_law_418 dL_law_419 ?_
  refine gcallB_I (bc := [MC G a g M T Y]) (runB_V (As := [.int (xs (i + 1))]) (rest := [.int r6]) (bc := [MC G a g M T Y]) X0 hK hW (c_X7_stopped l G a g M T Y H.size (xs (i + 1))) (cwV 1 hts gL_law_X7_stopped rfl rfl rfl cd_X7_stopped ⟨Nat.le_of_ble_eq_true rfl, Nat.le_of_ble_eq_true rfl⟩) [8] rfl rfl rfl 8 0 rfl (ci := 7) rfl rfl rfl rfl hl.1 rfl (Nat.le_of_ble_eq_true rfl) dL_law_420 ⟨Nat.le_of_ble_eq_true rfl, Nat.le_of_ble_eq_true rfl⟩) hW hS hA [8] rfl rfl rfl (fun _ => [MC G a g M T Y]) (fun _ => rfl) (fun _ => rfl) (fun r7 u7 H locs hw7 hW hS => ?_)
  have hW : BW G (A0 s) (WS G h xn xb xe xt xz hh ht hk tk a hs sn se nv nq bv bq av aq yv yq zv zq hn ys vs qs tp tl tr tg tv T g M T Y) H := hW
  have hq := eq_stopped (p0 := (xs (i + 1))) hR
  rw [hw6, hw7] at hq
  have hR1 := hR
  have hq : r6 = r7 := hq
  refine lv_icmp_eq (tgt := 691) hx hb dL_law_423 (by decide) (fun _ => ?_) (fun c9 => absurd hq c9)
  exact kt hs sn se nv nq bv bq av aq yv yq zv zq hn ys vs qs tp tl tr tg tv T g M Y hR1 H locs hW hS
