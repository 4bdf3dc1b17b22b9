/-! the law, call by call -/
set_option maxHeartbeats 4000000 in
set_option maxRecDepth 100000 in
theorem law_undo {p : Program} {l : Launch} {e : Env} {s : State} {m : MethodId} {below : List Frame} {meth : Method} {c : Code} {b L i : Nat} {xs : Nat → Int32} {ls : Array Slot} {H : Heap} {locs : List Loc} {G : GG} {h hh ht hk tk : Nat} {xn xb xe xt xz a : Nat → Nat} {hs sn se tp tl tr tg tv : Int32} {nv nq bv bq av aq yv yq zv zq T g M Y : Nat → Int32} {hn : Nat} {ys : Nat → Nat → Nat} {vs qs : Nat → Nat → Int32} (C0 : lw_At p s m meth c b L xs) (hK : KN G s) (hL : L ≤ 2560) (hi : i + 4 < L) (hl : lv_has ls 4 [(0, .ref b), (1, .ref h), (2, .ref (a 0)), (3, .int (nI i))]) (hR : Rl hs sn se nv nq zv zq hn vs qs tl g M) (hW : BW G (A0 s) (WS G h xn xb xe xt xz hh ht hk tk a hs sn se nv nq bv bq av aq yv yq zv zq hn ys vs qs tp tl tr tg tv T g M T Y) H) (hS : va_S (A0 s) s.heap H locs) (kt : KT p l e s m below meth c b G h xn xb xe xt xz hh ht hk tk a ls) : W p l e room_1 s m #[Value.ref b] below meth c H locs 108 1188 (lw_Z below #[Value.ref b] s) (F0 m 428 ls []) := by
  obtain ⟨hx, hb, hr, hml, hown, hts0, hX, hbl, hlocks, hgv⟩ := id C0
  have hts : ∀ w ∈ wsL_law, w.before #[Value.ref b] s = true := fun w hw => hts0 w (wsL_law_in w hw)
  have hA : ∀ q : Nat, s.heap.size ≤ q → (A0 s) q := fun _ h => h
  have X0 : Cx p s m #[Value.ref b] meth c code 4 wsL_law RL ret := ⟨hx, hb, hr, hml, hown, hts, hlocks⟩
  refine lv_aload_n hx hb dL_law_428 rfl (lv_at hl 1 rfl) ?_
  refine gcallB_I (bc := [SC h xn xb xe xt xz hh ht hs sn se, LC G xn nv nq, HB G hh hk hn ys vs qs]) (runB_V (As := []) (rest := []) (bc := [SC h xn xb xe xt xz hh ht hs sn se, LC G xn nv nq, HB G hh hk hn ys vs qs]) X0 hK hW (c_X6_undo l G h xn xb xe xt xz hh ht hk hs sn se nv nq hn ys vs qs H.size hR.1) (cwV 0 hts gL_law_X6_undo rfl rfl rfl cd_X6_undo ⟨Nat.le_of_ble_eq_true rfl, Nat.le_of_ble_eq_true rfl⟩) [0, 1, 6] rfl rfl rfl 0 0 rfl (ci := 6) rfl rfl rfl rfl hl.1 rfl (Nat.le_of_ble_eq_true rfl) dL_law_429 ⟨Nat.le_of_ble_eq_true rfl, Nat.le_of_ble_eq_true rfl⟩) hW hS hA [0, 1, 6] rfl rfl rfl (fun u6 => [SC h xn xb xe xt xz hh ht hs sn se, LC G xn u6.1 u6.2.1, HB G hh hk u6.2.2 ys vs qs]) (fun _ => rfl) (fun _ => rfl) (fun r6 u6 H locs hw6 hW hS => ?_)
  have hW : BW G (A0 s) (WS G h xn xb xe xt xz hh ht hk tk a hs sn se u6.1 u6.2.1 bv bq av aq yv yq zv zq u6.2.2 ys vs qs tp tl tr tg tv T g M T Y) H := hW
  refine lv_aload_n hx hb dL_law_432 rfl (lv_at hl 2 rfl) ?_
  refine gcallB_I (bc := [MC G a g M T Y]) (runB_V (As := []) (rest := [.int r6]) (bc := [MC G a g M T Y]) X0 hK hW (c_X7_undo l G a g M T Y H.size hn hR.2.1 hR.1) (cwV 0 hts gL_law_X7_undo rfl rfl rfl cd_X7_undo ⟨Nat.le_of_ble_eq_true rfl, Nat.le_of_ble_eq_true rfl⟩) [8] rfl rfl rfl 8 0 rfl (ci := 7) rfl rfl rfl rfl hl.1 rfl (Nat.le_of_ble_eq_true rfl) dL_law_433 ⟨Nat.le_of_ble_eq_true rfl, Nat.le_of_ble_eq_true rfl⟩) hW hS hA [8] rfl rfl rfl (fun u7 => [MC G a u7.1 u7.2 T Y]) (fun _ => rfl) (fun _ => rfl) (fun r7 u7 H locs hw7 hW hS => ?_)
  have hW : BW G (A0 s) (WS G h xn xb xe xt xz hh ht hk tk a hs sn se u6.1 u6.2.1 bv bq av aq yv yq zv zq u6.2.2 ys vs qs tp tl tr tg tv T u7.1 u7.2 T Y) H := hW
  have hq := eq_undo  hR
  rw [hw6, hw7] at hq
  obtain ⟨hq, hR1⟩ := hq
  have hq : r6 = r7 := hq
  refine lv_icmp_eq (tgt := 691) hx hb dL_law_436 (by decide) (fun _ => ?_) (fun c9 => absurd hq c9)
  exact kt hs sn se u6.1 u6.2.1 bv bq av aq yv yq zv zq u6.2.2 ys vs qs tp tl tr tg tv T u7.1 u7.2 Y hR1 H locs hW hS
set_option maxHeartbeats 4000000 in
set_option maxRecDepth 100000 in
theorem law_keep {p : Program} {l : Launch} {e : Env} {s : State} {m : MethodId} {below : List Frame} {meth : Method} {c : Code} {b L i : Nat} {xs : Nat → Int32} {ls : Array Slot} {H : Heap} {locs : List Loc} {G : GG} {h hh ht hk tk : Nat} {xn xb xe xt xz a : Nat → Nat} {hs sn se tp tl tr tg tv : Int32} {nv nq bv bq av aq yv yq zv zq T g M Y : Nat → Int32} {hn : Nat} {ys : Nat → Nat → Nat} {vs qs : Nat → Nat → Int32} (C0 : lw_At p s m meth c b L xs) (hK : KN G s) (hL : L ≤ 2560) (hi : i + 4 < L) (hl : lv_has ls 4 [(0, .ref b), (1, .ref h), (2, .ref (a 0)), (3, .int (nI i))]) (hR : Rl hs sn se nv nq zv zq hn vs qs tl g M) (hW : BW G (A0 s) (WS G h xn xb xe xt xz hh ht hk tk a hs sn se nv nq bv bq av aq yv yq zv zq hn ys vs qs tp tl tr tg tv T g M T Y) H) (hS : va_S (A0 s) s.heap H locs) (kt : KT p l e s m below meth c b G h xn xb xe xt xz hh ht hk tk a ls) : W p l e room_1 s m #[Value.ref b] below meth c H locs 108 1188 (lw_Z below #[Value.ref b] s) (F0 m 441 ls []) := by
  obtain ⟨hx, hb, hr, hml, hown, hts0, hX, hbl, hlocks, hgv⟩ := id C0
  have hts : ∀ w ∈ wsL_law, w.before #[Value.ref b] s = true := fun w hw => hts0 w (wsL_law_in w hw)
  have hA : ∀ q : Nat, s.heap.size ≤ q → (A0 s) q := fun _ h => h
  have X0 : Cx p s m #[Value.ref b] meth c code 4 wsL_law RL ret := ⟨hx, hb, hr, hml, hown, hts, hlocks⟩
  refine lv_aload_n hx hb dL_law_441 rfl (lv_at hl 1 rfl) ?_
  refine gcallB_I (bc := [SC h xn xb xe xt xz hh ht hs sn se, LC G xn nv nq, LC G xz zv zq]) (runB_V (As := []) (rest := []) (bc := [SC h xn xb xe xt xz hh ht hs sn se, LC G xn nv nq, LC G xz zv zq]) X0 hK hW (c_X6_keep l G h xn xb xe xt xz hh ht hs sn se nv nq zv zq H.size) (cwV 0 hts gL_law_X6_keep rfl rfl rfl cd_X6_keep ⟨Nat.le_of_ble_eq_true rfl, Nat.le_of_ble_eq_true rfl⟩) [0, 1, 5] rfl rfl rfl 0 0 rfl (ci := 6) rfl rfl rfl rfl hl.1 rfl (Nat.le_of_ble_eq_true rfl) dL_law_442 ⟨Nat.le_of_ble_eq_true rfl, Nat.le_of_ble_eq_true rfl⟩) hW hS hA [0, 1, 5] rfl rfl rfl (fun u6 => [SC h xn xb xe xt xz hh ht u6.1 sn se, LC G xn nv nq, LC G xz u6.2.1 u6.2.2]) (fun _ => rfl) (fun _ => rfl) (fun r6 u6 H locs hw6 hW hS => ?_)
  have hW : BW G (A0 s) (WS G h xn xb xe xt xz hh ht hk tk a u6.1 sn se nv nq bv bq av aq yv yq u6.2.1 u6.2.2 hn ys vs qs tp tl tr tg tv T g M T Y) H := hW
  refine lv_aload_n hx hb dL_law_445 rfl (lv_at hl 2 rfl) ?_
  refine gcallB_I (bc := [MC G a g M T Y]) (runB_V (As := []) (rest := [.int r6]) (bc := [MC G a g M T Y]) X0 hK hW (c_X7_keep l G a g M T Y H.size) (cwV 0 hts gL_law_X7_keep rfl rfl rfl cd_X7_keep ⟨Nat.le_of_ble_eq_true rfl, Nat.le_of_ble_eq_true rfl⟩) [8] rfl rfl rfl 8 0 rfl (ci := 7) rfl rfl rfl rfl hl.1 rfl (Nat.le_of_ble_eq_true rfl) dL_law_446 ⟨Nat.le_of_ble_eq_true rfl, Nat.le_of_ble_eq_true rfl⟩) hW hS hA [8] rfl rfl rfl (fun u7 => [MC G a u7.1 u7.2 T Y]) (fun _ => rfl) (fun _ => rfl) (fun r7 u7 H locs hw7 hW hS => ?_)
  have hW : BW G (A0 s) (WS G h xn xb xe xt xz hh ht hk tk a u6.1 sn se nv nq bv bq av aq yv yq u6.2.1 u6.2.2 hn ys vs qs tp tl tr tg tv T u7.1 u7.2 T Y) H := hW
  have hq := eq_keep  hR
  rw [hw6, hw7] at hq
  obtain ⟨hq, hR1⟩ := hq
  have hq : r6 = r7 := hq
  refine lv_icmp_eq (tgt := 691) hx hb dL_law_449 (by decide) (fun _ => ?_) (fun c9 => absurd hq c9)
  exact kt u6.1 sn se nv nq bv bq av aq yv yq u6.2.1 u6.2.2 hn ys vs qs tp tl tr tg tv T u7.1 u7.2 Y hR1 H locs hW hS
set_option maxHeartbeats 4000000 in
set_option maxRecDepth 100000 in
theorem law_restore {p : Program} {l : Launch} {e : Env} {s : State} {m : MethodId} {below : List Frame} {meth : Method} {c : Code} {b L i : Nat} {xs : Nat → Int32} {ls : Array Slot} {H : Heap} {locs : List Loc} {G : GG} {h hh ht hk tk : Nat} {xn xb xe xt xz a : Nat → Nat} {hs sn se tp tl tr tg tv : Int32} {nv nq bv bq av aq yv yq zv zq T g M Y : Nat → Int32} {hn : Nat} {ys : Nat → Nat → Nat} {vs qs : Nat → Nat → Int32} (C0 : lw_At p s m meth c b L xs) (hK : KN G s) (hL : L ≤ 2560) (hi : i + 4 < L) (hl : lv_has ls 4 [(0, .ref b), (1, .ref h), (2, .ref (a 0)), (3, .int (nI i))]) (hR : Rl hs sn se nv nq zv zq hn vs qs tl g M) (hW : BW G (A0 s) (WS G h xn xb xe xt xz hh ht hk tk a hs sn se nv nq bv bq av aq yv yq zv zq hn ys vs qs tp tl tr tg tv T g M T Y) H) (hS : va_S (A0 s) s.heap H locs) (kt : KT p l e s m below meth c b G h xn xb xe xt xz hh ht hk tk a ls) : W p l e room_1 s m #[Value.ref b] below meth c H locs 108 1188 (lw_Z below #[Value.ref b] s) (F0 m 454 ls []) := by
  obtain ⟨hx, hb, hr, hml, hown, hts0, hX, hbl, hlocks, hgv⟩ := id C0
  have hts : ∀ w ∈ wsL_law, w.before #[Value.ref b] s = true := fun w hw => hts0 w (wsL_law_in w hw)
  have hA : ∀ q : Nat, s.heap.size ≤ q → (A0 s) q := fun _ h => h
  have X0 : Cx p s m #[Value.ref b] meth c code 4 wsL_law RL ret := ⟨hx, hb, hr, hml, hown, hts, hlocks⟩
  refine lv_aload_n hx hb dL_law_454 rfl (lv_at hl 1 rfl) ?_
  refine gcallB_I (bc := [SC h xn xb xe xt xz hh ht hs sn se, LC G xn nv nq, LC G xb bv bq, LC G xz zv zq, HB G hh hk hn ys vs qs]) (runB_V (As := []) (rest := []) (bc := [SC h xn xb xe xt xz hh ht hs sn se, LC G xn nv nq, LC G xb bv bq, LC G xz zv zq, HB G hh hk hn ys vs qs]) X0 hK hW (c_X6_restore l G h xn xb xe xt xz hh ht hk hs sn se nv nq bv bq zv zq hn ys vs qs H.size hR.1) (cwV 0 hts gL_law_X6_restore rfl rfl rfl cd_X6_restore ⟨Nat.le_of_ble_eq_true rfl, Nat.le_of_ble_eq_true rfl⟩) [0, 1, 2, 5, 6] rfl rfl rfl 0 0 rfl (ci := 6) rfl rfl rfl rfl hl.1 rfl (Nat.le_of_ble_eq_true rfl) dL_law_455 ⟨Nat.le_of_ble_eq_true rfl, Nat.le_of_ble_eq_true rfl⟩) hW hS hA [0, 1, 2, 5, 6] rfl rfl rfl (fun u6 => [SC h xn xb xe xt xz hh ht hs sn se, LC G xn u6.1 u6.2.1, LC G xb u6.2.2.1 u6.2.2.2.1, LC G xz zv zq, HB G hh hk u6.2.2.2.2.1 u6.2.2.2.2.2.1 u6.2.2.2.2.2.2.1 u6.2.2.2.2.2.2.2]) (fun _ => rfl) (fun _ => rfl) (fun r6 u6 H locs hw6 hW hS => ?_)
  have hW : BW G (A0 s) (WS G h xn xb xe xt xz hh ht hk tk a hs sn se u6.1 u6.2.1 u6.2.2.1 u6.2.2.2.1 av aq yv yq zv zq u6.2.2.2.2.1 u6.2.2.2.2.2.1 u6.2.2.2.2.2.2.1 u6.2.2.2.2.2.2.2 tp tl tr tg tv T g M T Y) H := hW
  refine lv_aload_n hx hb dL_law_458 rfl (lv_at hl 2 rfl) ?_
  refine gcallB_I (bc := [MC G a g M T Y]) (runB_V (As := []) (rest := [.int r6]) (bc := [MC G a g M T Y]) X0 hK hW (c_X7_restore l G a g M T Y H.size hn hR.2.1 hR.1) (cwV 0 hts gL_law_X7_restore rfl rfl rfl cd_X7_restore ⟨Nat.le_of_ble_eq_true rfl, Nat.le_of_ble_eq_true rfl⟩) [8] rfl rfl rfl 8 0 rfl (ci := 7) rfl rfl rfl rfl hl.1 rfl (Nat.le_of_ble_eq_true rfl) dL_law_459 ⟨Nat.le_of_ble_eq_true rfl, Nat.le_of_ble_eq_true rfl⟩) hW hS hA [8] rfl rfl rfl (fun u7 => [MC G a u7.1 u7.2 T Y]) (fun _ => rfl) (fun _ => rfl) (fun r7 u7 H locs hw7 hW hS => ?_)
  have hW : BW G (A0 s) (WS G h xn xb xe xt xz hh ht hk tk a hs sn se u6.1 u6.2.1 u6.2.2.1 u6.2.2.2.1 av aq yv yq zv zq u6.2.2.2.2.1 u6.2.2.2.2.2.1 u6.2.2.2.2.2.2.1 u6.2.2.2.2.2.2.2 tp tl tr tg tv T u7.1 u7.2 T Y) H := hW
  have hq := eq_restore (xs := ys) (bv := bv) (bq := bq) hR
  rw [hw6, hw7] at hq
  obtain ⟨hq, hR1⟩ := hq
  have hq : r6 = r7 := hq
  refine lv_icmp_eq (tgt := 691) hx hb dL_law_462 (by decide) (fun _ => ?_) (fun c9 => absurd hq c9)
  exact kt hs sn se u6.1 u6.2.1 u6.2.2.1 u6.2.2.2.1 av aq yv yq zv zq u6.2.2.2.2.1 u6.2.2.2.2.2.1 u6.2.2.2.2.2.2.1 u6.2.2.2.2.2.2.2 tp tl tr tg tv T u7.1 u7.2 Y hR1 H locs hW hS
set_option maxHeartbeats 4000000 in
set_option maxRecDepth 100000 in
theorem law_boiler {p : Program} {l : Launch} {e : Env} {s : State} {m : MethodId} {below : List Frame} {meth : Method} {c : Code} {b L i : Nat} {xs : Nat → Int32} {ls : Array Slot} {H : Heap} {locs : List Loc} {G : GG} {h hh ht hk tk : Nat} {xn xb xe xt xz a : Nat → Nat} {hs sn se tp tl tr tg tv : Int32} {nv nq bv bq av aq yv yq zv zq T g M Y : Nat → Int32} {hn : Nat} {ys : Nat → Nat → Nat} {vs qs : Nat → Nat → Int32} (C0 : lw_At p s m meth c b L xs) (hK : KN G s) (hL : L ≤ 2560) (hi : i + 4 < L) (hl : lv_has ls 4 [(0, .ref b), (1, .ref h), (2, .ref (a 0)), (3, .int (nI i))]) (hR : Rl hs sn se nv nq zv zq hn vs qs tl g M) (hW : BW G (A0 s) (WS G h xn xb xe xt xz hh ht hk tk a hs sn se nv nq bv bq av aq yv yq zv zq hn ys vs qs tp tl tr tg tv T g M T Y) H) (hS : va_S (A0 s) s.heap H locs) (kt : KT p l e s m below meth c b G h xn xb xe xt xz hh ht hk tk a ls) : W p l e room_1 s m #[Value.ref b] below meth c H locs 108 1188 (lw_Z below #[Value.ref b] s) (F0 m 467 ls []) := by
  obtain ⟨hx, hb, hr, hml, hown, hts0, hX, hbl, hlocks, hgv⟩ := id C0
  have hts : ∀ w ∈ wsL_law, w.before #[Value.ref b] s = true := fun w hw => hts0 w (wsL_law_in w hw)
  have hA : ∀ q : Nat, s.heap.size ≤ q → (A0 s) q := fun _ h => h
  have X0 : Cx p s m #[Value.ref b] meth c code 4 wsL_law RL ret := ⟨hx, hb, hr, hml, hown, hts, hlocks⟩
  refine lv_aload_n hx hb dL_law_467 rfl (lv_at hl 1 rfl) ?_
  refine law_arg (k := 1) C0 hS hl hL (by omega) (by decide) dL_law_468 dL_law_469 dL_law_470 dL_law_471 dL_law_472 ?_
  refine law_arg (k := 2) C0 hS hl hL (by omega) (by decide) dL_law_473 dL_law_474 dL_law_475 dL_law_476 dL_law_477 ?_
  refine gcallB_I (bc := [SC h xn xb xe xt xz hh ht hs sn se, LC G xn nv nq]) (runB_V (As := [.int (xs (i + 1)), .int (xs (i + 2))]) (rest := []) (bc := [SC h xn xb xe xt xz hh ht hs sn se, LC G xn nv nq]) X0 hK hW (c_X6_boiler l G h xn xb xe xt xz hh ht hs sn se nv nq H.size (xs (i + 1)) (xs (i + 2))) (cwV 2 hts gL_law_X6_boiler rfl rfl rfl cd_X6_boiler ⟨Nat.le_of_ble_eq_true rfl, Nat.le_of_ble_eq_true rfl⟩) [0, 1] rfl rfl rfl 0 0 rfl (ci := 6) rfl rfl rfl rfl hl.1 rfl (Nat.le_of_ble_eq_true rfl) dL_law_478 ⟨Nat.le_of_ble_eq_true rfl, Nat.le_of_ble_eq_true rfl⟩) hW hS hA [0, 1] rfl rfl rfl (fun _ => [SC h xn xb xe xt xz hh ht hs sn se, LC G xn nv nq]) (fun _ => rfl) (fun _ => rfl) (fun r6 u6 H locs hw6 hW hS => ?_)
  have hW : BW G (A0 s) (WS G h xn xb xe xt xz hh ht hk tk a hs sn se nv nq bv bq av aq yv yq zv zq hn ys vs qs tp tl tr tg tv T g M T Y) H := hW
  refine lv_aload_n hx hb dL_law_481 rfl (lv_at hl 2 rfl) ?_
  refine law_arg (k := 1) C0 hS hl hL (by omega) (by decide) dL_law_482 dL_law_483 dL_law_484 dL_law_485 dL_law_486 ?_
  refine law_arg (k := 2) C0 hS hl hL (by omega) (by decide) dL_law_487 dL_law_488 dL_law_489 dL_law_490 dL_law_491 ?_
  refine gcallB_I (bc := [MC G a g M T Y]) (runB_V (As := [.int (xs (i + 1)), .int (xs (i + 2))]) (rest := [.int r6]) (bc := [MC G a g M T Y]) X0 hK hW (c_X7_boiler l G a g M T Y H.size (xs (i + 1)) (xs (i + 2))) (cwV 2 hts gL_law_X7_boiler rfl rfl rfl cd_X7_boiler ⟨Nat.le_of_ble_eq_true rfl, Nat.le_of_ble_eq_true rfl⟩) [8] rfl rfl rfl 8 0 rfl (ci := 7) rfl rfl rfl rfl hl.1 rfl (Nat.le_of_ble_eq_true rfl) dL_law_492 ⟨Nat.le_of_ble_eq_true rfl, Nat.le_of_ble_eq_true rfl⟩) hW hS hA [8] rfl rfl rfl (fun _ => [MC G a g M T Y]) (fun _ => rfl) (fun _ => rfl) (fun r7 u7 H locs hw7 hW hS => ?_)
  have hW : BW G (A0 s) (WS G h xn xb xe xt xz hh ht hk tk a hs sn se nv nq bv bq av aq yv yq zv zq hn ys vs qs tp tl tr tg tv T g M T Y) H := hW
  have hq := eq_boiler (p0 := (xs (i + 1))) (p1 := (xs (i + 2))) hR
  rw [hw6, hw7] at hq
  have hR1 := hR
  have hq : r6 = r7 := hq
  refine lv_icmp_eq (tgt := 691) hx hb dL_law_495 (by decide) (fun _ => ?_) (fun c9 => absurd hq c9)
  exact kt hs sn se nv nq bv bq av aq yv yq zv zq hn ys vs qs tp tl tr tg tv T g M Y hR1 H locs hW hS
set_option maxHeartbeats 4000000 in
set_option maxRecDepth 100000 in
theorem law_machine {p : Program} {l : Launch} {e : Env} {s : State} {m : MethodId} {below : List Frame} {meth : Method} {c : Code} {b L i : Nat} {xs : Nat → Int32} {ls : Array Slot} {H : Heap} {locs : List Loc} {G : GG} {h hh ht hk tk : Nat} {xn xb xe xt xz a : Nat → Nat} {hs sn se tp tl tr tg tv : Int32} {nv nq bv bq av aq yv yq zv zq T g M Y : Nat → Int32} {hn : Nat} {ys : Nat → Nat → Nat} {vs qs : Nat → Nat → Int32} (C0 : lw_At p s m meth c b L xs) (hK : KN G s) (hL : L ≤ 2560) (hi : i + 4 < L) (hl : lv_has ls 4 [(0, .ref b), (1, .ref h), (2, .ref (a 0)), (3, .int (nI i))]) (hR : Rl hs sn se nv nq zv zq hn vs qs tl g M) (hW : BW G (A0 s) (WS G h xn xb xe xt xz hh ht hk tk a hs sn se nv nq bv bq av aq yv yq zv zq hn ys vs qs tp tl tr tg tv T g M T Y) H) (hS : va_S (A0 s) s.heap H locs) (kt : KT p l e s m below meth c b G h xn xb xe xt xz hh ht hk tk a ls) : W p l e room_1 s m #[Value.ref b] below meth c H locs 108 1188 (lw_Z below #[Value.ref b] s) (F0 m 500 ls []) := by
  obtain ⟨hx, hb, hr, hml, hown, hts0, hX, hbl, hlocks, hgv⟩ := id C0
  have hts : ∀ w ∈ wsL_law, w.before #[Value.ref b] s = true := fun w hw => hts0 w (wsL_law_in w hw)
  have hA : ∀ q : Nat, s.heap.size ≤ q → (A0 s) q := fun _ h => h
  have X0 : Cx p s m #[Value.ref b] meth c code 4 wsL_law RL ret := ⟨hx, hb, hr, hml, hown, hts, hlocks⟩
  refine lv_aload_n hx hb dL_law_500 rfl (lv_at hl 1 rfl) ?_
  refine law_arg (k := 1) C0 hS hl hL (by omega) (by decide) dL_law_501 dL_law_502 dL_law_503 dL_law_504 dL_law_505 ?_
  refine law_arg (k := 2) C0 hS hl hL (by omega) (by decide) dL_law_506 dL_law_507 dL_law_508 dL_law_509 dL_law_510 ?_
  refine gcallB_I (bc := [SC h xn xb xe xt xz hh ht hs sn se, LC G xn nv nq]) (runB_V (As := [.int (xs (i + 1)), .int (xs (i + 2))]) (rest := []) (bc := [SC h xn xb xe xt xz hh ht hs sn se, LC G xn nv nq]) X0 hK hW (c_X6_machine l G h xn xb xe xt xz hh ht hs sn se nv nq H.size (xs (i + 1)) (xs (i + 2))) (cwV 2 hts gL_law_X6_machine rfl rfl rfl cd_X6_machine ⟨Nat.le_of_ble_eq_true rfl, Nat.le_of_ble_eq_true rfl⟩) [0, 1] rfl rfl rfl 0 0 rfl (ci := 6) rfl rfl rfl rfl hl.1 rfl (Nat.le_of_ble_eq_true rfl) dL_law_511 ⟨Nat.le_of_ble_eq_true rfl, Nat.le_of_ble_eq_true rfl⟩) hW hS hA [0, 1] rfl rfl rfl (fun _ => [SC h xn xb xe xt xz hh ht hs sn se, LC G xn nv nq]) (fun _ => rfl) (fun _ => rfl) (fun r6 u6 H locs hw6 hW hS => ?_)
  have hW : BW G (A0 s) (WS G h xn xb xe xt xz hh ht hk tk a hs sn se nv nq bv bq av aq yv yq zv zq hn ys vs qs tp tl tr tg tv T g M T Y) H := hW
  refine lv_aload_n hx hb dL_law_514 rfl (lv_at hl 2 rfl) ?_
  refine law_arg (k := 1) C0 hS hl hL (by omega) (by decide) dL_law_515 dL_law_516 dL_law_517 dL_law_518 dL_law_519 ?_
  refine law_arg (k := 2) C0 hS hl hL (by omega) (by decide) dL_law_520 dL_law_521 dL_law_522 dL_law_523 dL_law_524 ?_
  refine gcallB_I (bc := [MC G a g M T Y]) (runB_V (As := [.int (xs (i + 1)), .int (xs (i + 2))]) (rest := [.int r6]) (bc := [MC G a g M T Y]) X0 hK hW (c_X7_machine l G a g M T Y H.size (xs (i + 1)) (xs (i + 2))) (cwV 2 hts gL_law_X7_machine rfl rfl rfl cd_X7_machine ⟨Nat.le_of_ble_eq_true rfl, Nat.le_of_ble_eq_true rfl⟩) [8] rfl rfl rfl 8 0 rfl (ci := 7) rfl rfl rfl rfl hl.1 rfl (Nat.le_of_ble_eq_true rfl) dL_law_525 ⟨Nat.le_of_ble_eq_true rfl, Nat.le_of_ble_eq_true rfl⟩) hW hS hA [8] rfl rfl rfl (fun _ => [MC G a g M T Y]) (fun _ => rfl) (fun _ => rfl) (fun r7 u7 H locs hw7 hW hS => ?_)
  have hW : BW G (A0 s) (WS G h xn xb xe xt xz hh ht hk tk a hs sn se nv nq bv bq av aq yv yq zv zq hn ys vs qs tp tl tr tg tv T g M T Y) H := hW
  have hq := eq_machine (p0 := (xs (i + 1))) (p1 := (xs (i + 2))) hR
  rw [hw6, hw7] at hq
  have hR1 := hR
  have hq : r6 = r7 := hq
  refine lv_icmp_eq (tgt := 691) hx hb dL_law_528 (by decide) (fun _ => ?_) (fun c9 => absurd hq c9)
  exact kt hs sn se nv nq bv bq av aq yv yq zv zq hn ys vs qs tp tl tr tg tv T g M Y hR1 H locs hW hS
set_option maxHeartbeats 4000000 in
set_option maxRecDepth 100000 in
theorem law_line {p : Program} {l : Launch} {e : Env} {s : State} {m : MethodId} {below : List Frame} {meth : Method} {c : Code} {b L i : Nat} {xs : Nat → Int32} {ls : Array Slot} {H : Heap} {locs : List Loc} {G : GG} {h hh ht hk tk : Nat} {xn xb xe xt xz a : Nat → Nat} {hs sn se tp tl tr tg tv : Int32} {nv nq bv bq av aq yv yq zv zq T g M Y : Nat → Int32} {hn : Nat} {ys : Nat → Nat → Nat} {vs qs : Nat → Nat → Int32} (C0 : lw_At p s m meth c b L xs) (hK : KN G s) (hL : L ≤ 2560) (hi : i + 4 < L) (hl : lv_has ls 4 [(0, .ref b), (1, .ref h), (2, .ref (a 0)), (3, .int (nI i))]) (hR : Rl hs sn se nv nq zv zq hn vs qs tl g M) (hW : BW G (A0 s) (WS G h xn xb xe xt xz hh ht hk tk a hs sn se nv nq bv bq av aq yv yq zv zq hn ys vs qs tp tl tr tg tv T g M T Y) H) (hS : va_S (A0 s) s.heap H locs) (kt : KT p l e s m below meth c b G h xn xb xe xt xz hh ht hk tk a ls) : W p l e room_1 s m #[Value.ref b] below meth c H locs 108 1188 (lw_Z below #[Value.ref b] s) (F0 m 533 ls []) := by
  obtain ⟨hx, hb, hr, hml, hown, hts0, hX, hbl, hlocks, hgv⟩ := id C0
  have hts : ∀ w ∈ wsL_law, w.before #[Value.ref b] s = true := fun w hw => hts0 w (wsL_law_in w hw)
  have hA : ∀ q : Nat, s.heap.size ≤ q → (A0 s) q := fun _ h => h
  have X0 : Cx p s m #[Value.ref b] meth c code 4 wsL_law RL ret := ⟨hx, hb, hr, hml, hown, hts, hlocks⟩
  have hm : M 25 ≤ nI 12 := by
    obtain ⟨n, h1, h2, -⟩ := hR.is.1.2
    rw [show M 25 = nv 25 from hR.at.p25, h2]
    exact (nI_leI (by omega) (by decide)).mpr h1
  refine lv_aload_n hx hb dL_law_533 rfl (lv_at hl 1 rfl) ?_
  refine law_arg (k := 1) C0 hS hl hL (by omega) (by decide) dL_law_534 dL_law_535 dL_law_536 dL_law_537 dL_law_538 ?_
  refine gcallB_I (bc := [SC h xn xb xe xt xz hh ht hs sn se, LC G xn nv nq]) (runB_V (As := [.int (xs (i + 1))]) (rest := []) (bc := [SC h xn xb xe xt xz hh ht hs sn se, LC G xn nv nq]) X0 hK hW (c_X6_line l G h xn xb xe xt xz hh ht hs sn se nv nq H.size (xs (i + 1))) (cwV 1 hts gL_law_X6_line rfl rfl rfl cd_X6_line ⟨Nat.le_of_ble_eq_true rfl, Nat.le_of_ble_eq_true rfl⟩) [0, 1] rfl rfl rfl 0 0 rfl (ci := 6) rfl rfl rfl rfl hl.1 rfl (Nat.le_of_ble_eq_true rfl) dL_law_539 ⟨Nat.le_of_ble_eq_true rfl, Nat.le_of_ble_eq_true rfl⟩) hW hS hA [0, 1] rfl rfl rfl (fun _ => [SC h xn xb xe xt xz hh ht hs sn se, LC G xn nv nq]) (fun _ => rfl) (fun _ => rfl) (fun r6 u6 H locs hw6 hW hS => ?_)
  have hW : BW G (A0 s) (WS G h xn xb xe xt xz hh ht hk tk a hs sn se nv nq bv bq av aq yv yq zv zq hn ys vs qs tp tl tr tg tv T g M T Y) H := hW
  refine lv_aload_n hx hb dL_law_542 rfl (lv_at hl 2 rfl) ?_
  refine law_arg (k := 1) C0 hS hl hL (by omega) (by decide) dL_law_543 dL_law_544 dL_law_545 dL_law_546 dL_law_547 ?_
  refine gcallB_I (bc := [MC G a g M T Y]) (runB_V (As := [.int (xs (i + 1))]) (rest := [.int r6]) (bc := [MC G a g M T Y]) X0 hK hW (c_X7_line l G a g M T Y H.size (xs (i + 1)) hm) (cwV 1 hts gL_law_X7_line rfl rfl rfl cd_X7_line ⟨Nat.le_of_ble_eq_true rfl, Nat.le_of_ble_eq_true rfl⟩) [8] rfl rfl rfl 8 0 rfl (ci := 7) rfl rfl rfl rfl hl.1 rfl (Nat.le_of_ble_eq_true rfl) dL_law_548 ⟨Nat.le_of_ble_eq_true rfl, Nat.le_of_ble_eq_true rfl⟩) hW hS hA [8] rfl rfl rfl (fun _ => [MC G a g M T Y]) (fun _ => rfl) (fun _ => rfl) (fun r7 u7 H locs hw7 hW hS => ?_)
  have hW : BW G (A0 s) (WS G h xn xb xe xt xz hh ht hk tk a hs sn se nv nq bv bq av aq yv yq zv zq hn ys vs qs tp tl tr tg tv T g M T Y) H := hW
  have hq := eq_line (p0 := (xs (i + 1))) hR
  rw [hw6, hw7] at hq
  have hR1 := hR
  have hq : r6 = r7 := hq
  refine lv_icmp_eq (tgt := 691) hx hb dL_law_551 (by decide) (fun _ => ?_) (fun c9 => absurd hq c9)
  exact kt hs sn se nv nq bv bq av aq yv yq zv zq hn ys vs qs tp tl tr tg tv T g M Y hR1 H locs hW hS
set_option maxHeartbeats 4000000 in
set_option maxRecDepth 100000 in
theorem law_reason {p : Program} {l : Launch} {e : Env} {s : State} {m : MethodId} {below : List Frame} {meth : Method} {c : Code} {b L i : Nat} {xs : Nat → Int32} {ls : Array Slot} {H : Heap} {locs : List Loc} {G : GG} {h hh ht hk tk : Nat} {xn xb xe xt xz a : Nat → Nat} {hs sn se tp tl tr tg tv : Int32} {nv nq bv bq av aq yv yq zv zq T g M Y : Nat → Int32} {hn : Nat} {ys : Nat → Nat → Nat} {vs qs : Nat → Nat → Int32} (C0 : lw_At p s m meth c b L xs) (hK : KN G s) (hL : L ≤ 2560) (hi : i + 4 < L) (hl : lv_has ls 4 [(0, .ref b), (1, .ref h), (2, .ref (a 0)), (3, .int (nI i))]) (hR : Rl hs sn se nv nq zv zq hn vs qs tl g M) (hW : BW G (A0 s) (WS G h xn xb xe xt xz hh ht hk tk a hs sn se nv nq bv bq av aq yv yq zv zq hn ys vs qs tp tl tr tg tv T g M T Y) H) (hS : va_S (A0 s) s.heap H locs) (kt : KT p l e s m below meth c b G h xn xb xe xt xz hh ht hk tk a ls) : W p l e room_1 s m #[Value.ref b] below meth c H locs 108 1188 (lw_Z below #[Value.ref b] s) (F0 m 556 ls []) := by
  obtain ⟨hx, hb, hr, hml, hown, hts0, hX, hbl, hlocks, hgv⟩ := id C0
  have hts : ∀ w ∈ wsL_law, w.before #[Value.ref b] s = true := fun w hw => hts0 w (wsL_law_in w hw)
  have hA : ∀ q : Nat, s.heap.size ≤ q → (A0 s) q := fun _ h => h
  have X0 : Cx p s m #[Value.ref b] meth c code 4 wsL_law RL ret := ⟨hx, hb, hr, hml, hown, hts, hlocks⟩
  refine lv_aload_n hx hb dL_law_556 rfl (lv_at hl 1 rfl) ?_
  refine law_arg (k := 1) C0 hS hl hL (by omega) (by decide) dL_law_557 dL_law_558 dL_law_559 dL_law_560 dL_law_561 ?_
  refine gcallB_I (bc := [SC h xn xb xe xt xz hh ht hs sn se, LC G xn nv nq, LC G xt yv yq]) (runB_V (As := [.int (xs (i + 1))]) (rest := []) (bc := [SC h xn xb xe xt xz hh ht hs sn se, LC G xn nv nq, LC G xt yv yq]) X0 hK hW (c_X6_reason l G h xn xb xe xt xz hh ht hs sn se nv nq yv yq H.size (xs (i + 1))) (cwV 1 hts gL_law_X6_reason rfl rfl rfl cd_X6_reason ⟨Nat.le_of_ble_eq_true rfl, Nat.le_of_ble_eq_true rfl⟩) [0, 1, 4] rfl rfl rfl 0 0 rfl (ci := 6) rfl rfl rfl rfl hl.1 rfl (Nat.le_of_ble_eq_true rfl) dL_law_562 ⟨Nat.le_of_ble_eq_true rfl, Nat.le_of_ble_eq_true rfl⟩) hW hS hA [0, 1, 4] rfl rfl rfl (fun u6 => [SC h xn xb xe xt xz hh ht hs sn se, LC G xn nv nq, LC G xt u6.1 u6.2]) (fun _ => rfl) (fun _ => rfl) (fun r6 u6 H locs hw6 hW hS => ?_)
  have hW : BW G (A0 s) (WS G h xn xb xe xt xz hh ht hk tk a hs sn se nv nq bv bq av aq u6.1 u6.2 zv zq hn ys vs qs tp tl tr tg tv T g M T Y) H := hW
  refine lv_aload_n hx hb dL_law_565 rfl (lv_at hl 2 rfl) ?_
  refine law_arg (k := 1) C0 hS hl hL (by omega) (by decide) dL_law_566 dL_law_567 dL_law_568 dL_law_569 dL_law_570 ?_
  refine gcallB_I (bc := [MC G a g M T Y]) (runB_V (As := [.int (xs (i + 1))]) (rest := [.int r6]) (bc := [MC G a g M T Y]) X0 hK hW (c_X7_reason l G a g M T Y H.size (xs (i + 1)) nv nq hR.at hR.is.1) (cwV 1 hts gL_law_X7_reason rfl rfl rfl cd_X7_reason ⟨Nat.le_of_ble_eq_true rfl, Nat.le_of_ble_eq_true rfl⟩) [8] rfl rfl rfl 8 0 rfl (ci := 7) rfl rfl rfl rfl hl.1 rfl (Nat.le_of_ble_eq_true rfl) dL_law_571 ⟨Nat.le_of_ble_eq_true rfl, Nat.le_of_ble_eq_true rfl⟩) hW hS hA [8] rfl rfl rfl (fun u7 => [MC G a g u7 T Y]) (fun _ => rfl) (fun _ => rfl) (fun r7 u7 H locs hw7 hW hS => ?_)
  have hW : BW G (A0 s) (WS G h xn xb xe xt xz hh ht hk tk a hs sn se nv nq bv bq av aq u6.1 u6.2 zv zq hn ys vs qs tp tl tr tg tv T g u7 T Y) H := hW
  have hq := eq_reason (yv := yv) (yq := yq) (p0 := (xs (i + 1))) hR
  rw [hw6, hw7] at hq
  obtain ⟨hq, hR1⟩ := hq
  have hq : r6 = r7 := hq
  refine lv_icmp_eq (tgt := 691) hx hb dL_law_574 (by decide) (fun _ => ?_) (fun c9 => absurd hq c9)
  exact kt hs sn se nv nq bv bq av aq u6.1 u6.2 zv zq hn ys vs qs tp tl tr tg tv T g u7 Y hR1 H locs hW hS
set_option maxHeartbeats 4000000 in
set_option maxRecDepth 100000 in
theorem law_doneIn {p : Program} {l : Launch} {e : Env} {s : State} {m : MethodId} {below : List Frame} {meth : Method} {c : Code} {b L i : Nat} {xs : Nat → Int32} {ls : Array Slot} {H : Heap} {locs : List Loc} {G : GG} {h hh ht hk tk : Nat} {xn xb xe xt xz a : Nat → Nat} {hs sn se tp tl tr tg tv : Int32} {nv nq bv bq av aq yv yq zv zq T g M Y : Nat → Int32} {hn : Nat} {ys : Nat → Nat → Nat} {vs qs : Nat → Nat → Int32} (C0 : lw_At p s m meth c b L xs) (hK : KN G s) (hL : L ≤ 2560) (hi : i + 4 < L) (hl : lv_has ls 4 [(0, .ref b), (1, .ref h), (2, .ref (a 0)), (3, .int (nI i))]) (hR : Rl hs sn se nv nq zv zq hn vs qs tl g M) (hW : BW G (A0 s) (WS G h xn xb xe xt xz hh ht hk tk a hs sn se nv nq bv bq av aq yv yq zv zq hn ys vs qs tp tl tr tg tv T g M T Y) H) (hS : va_S (A0 s) s.heap H locs) (kt : KT p l e s m below meth c b G h xn xb xe xt xz hh ht hk tk a ls) : W p l e room_1 s m #[Value.ref b] below meth c H locs 108 1188 (lw_Z below #[Value.ref b] s) (F0 m 579 ls []) := by
  obtain ⟨hx, hb, hr, hml, hown, hts0, hX, hbl, hlocks, hgv⟩ := id C0
  have hts : ∀ w ∈ wsL_law, w.before #[Value.ref b] s = true := fun w hw => hts0 w (wsL_law_in w hw)
  have hA : ∀ q : Nat, s.heap.size ≤ q → (A0 s) q := fun _ h => h
  have X0 : Cx p s m #[Value.ref b] meth c code 4 wsL_law RL ret := ⟨hx, hb, hr, hml, hown, hts, hlocks⟩
  refine lv_aload_n hx hb dL_law_579 rfl (lv_at hl 1 rfl) ?_
  refine gcallB_I (bc := [SC h xn xb xe xt xz hh ht hs sn se, LC G xn nv nq, LC G xe av aq, LC G xt yv yq]) (runB_V (As := []) (rest := []) (bc := [SC h xn xb xe xt xz hh ht hs sn se, LC G xn nv nq, LC G xe av aq, LC G xt yv yq]) X0 hK hW (c_X6_doneIn l G h xn xb xe xt xz hh ht hs sn se nv nq av aq yv yq H.size ) (cwV 0 hts gL_law_X6_doneIn rfl rfl rfl cd_X6_doneIn ⟨Nat.le_of_ble_eq_true rfl, Nat.le_of_ble_eq_true rfl⟩) [0, 1, 3, 4] rfl rfl rfl 0 0 rfl (ci := 6) rfl rfl rfl rfl hl.1 rfl (Nat.le_of_ble_eq_true rfl) dL_law_580 ⟨Nat.le_of_ble_eq_true rfl, Nat.le_of_ble_eq_true rfl⟩) hW hS hA [0, 1, 3, 4] rfl rfl rfl (fun u6 => [SC h xn xb xe xt xz hh ht hs sn se, LC G xn nv nq, LC G xe u6.1 u6.2.1, LC G xt u6.2.2.1 u6.2.2.2]) (fun _ => rfl) (fun _ => rfl) (fun r6 u6 H locs hw6 hW hS => ?_)
  have hW : BW G (A0 s) (WS G h xn xb xe xt xz hh ht hk tk a hs sn se nv nq bv bq u6.1 u6.2.1 u6.2.2.1 u6.2.2.2 zv zq hn ys vs qs tp tl tr tg tv T g M T Y) H := hW
  refine lv_aload_n hx hb dL_law_583 rfl (lv_at hl 2 rfl) ?_
  refine gcallB_I (bc := [MC G a g M T Y]) (runB_V (As := []) (rest := [.int r6]) (bc := [MC G a g M T Y]) X0 hK hW (c_X7_doneIn l G a g M T Y H.size  nv nq hR.at hR.is.1) (cwV 0 hts gL_law_X7_doneIn rfl rfl rfl cd_X7_doneIn ⟨Nat.le_of_ble_eq_true rfl, Nat.le_of_ble_eq_true rfl⟩) [8] rfl rfl rfl 8 0 rfl (ci := 7) rfl rfl rfl rfl hl.1 rfl (Nat.le_of_ble_eq_true rfl) dL_law_584 ⟨Nat.le_of_ble_eq_true rfl, Nat.le_of_ble_eq_true rfl⟩) hW hS hA [8] rfl rfl rfl (fun u7 => [MC G a g u7 T Y]) (fun _ => rfl) (fun _ => rfl) (fun r7 u7 H locs hw7 hW hS => ?_)
  have hW : BW G (A0 s) (WS G h xn xb xe xt xz hh ht hk tk a hs sn se nv nq bv bq u6.1 u6.2.1 u6.2.2.1 u6.2.2.2 zv zq hn ys vs qs tp tl tr tg tv T g u7 T Y) H := hW
  have hq := eq_doneIn (yv := yv) (yq := yq) hR
  rw [hw6, hw7] at hq
  obtain ⟨hq, hR1⟩ := hq
  have hq : r6 = r7 := hq
  refine lv_icmp_eq (tgt := 691) hx hb dL_law_587 (by decide) (fun _ => ?_) (fun c9 => absurd hq c9)
  exact kt hs sn se nv nq bv bq u6.1 u6.2.1 u6.2.2.1 u6.2.2.2 zv zq hn ys vs qs tp tl tr tg tv T g u7 Y hR1 H locs hW hS
set_option maxHeartbeats 4000000 in
set_option maxRecDepth 100000 in
theorem law_ifFires {p : Program} {l : Launch} {e : Env} {s : State} {m : MethodId} {below : List Frame} {meth : Method} {c : Code} {b L i : Nat} {xs : Nat → Int32} {ls : Array Slot} {H : Heap} {locs : List Loc} {G : GG} {h hh ht hk tk : Nat} {xn xb xe xt xz a : Nat → Nat} {hs sn se tp tl tr tg tv : Int32} {nv nq bv bq av aq yv yq zv zq T g M Y : Nat → Int32} {hn : Nat} {ys : Nat → Nat → Nat} {vs qs : Nat → Nat → Int32} (C0 : lw_At p s m meth c b L xs) (hK : KN G s) (hL : L ≤ 2560) (hi : i + 4 < L) (hl : lv_has ls 4 [(0, .ref b), (1, .ref h), (2, .ref (a 0)), (3, .int (nI i))]) (hR : Rl hs sn se nv nq zv zq hn vs qs tl g M) (hW : BW G (A0 s) (WS G h xn xb xe xt xz hh ht hk tk a hs sn se nv nq bv bq av aq yv yq zv zq hn ys vs qs tp tl tr tg tv T g M T Y) H) (hS : va_S (A0 s) s.heap H locs) (kt : KT p l e s m below meth c b G h xn xb xe xt xz hh ht hk tk a ls) : W p l e room_1 s m #[Value.ref b] below meth c H locs 108 1188 (lw_Z below #[Value.ref b] s) (F0 m 592 ls []) := by
  obtain ⟨hx, hb, hr, hml, hown, hts0, hX, hbl, hlocks, hgv⟩ := id C0
  have hts : ∀ w ∈ wsL_law, w.before #[Value.ref b] s = true := fun w hw => hts0 w (wsL_law_in w hw)
  have hA : ∀ q : Nat, s.heap.size ≤ q → (A0 s) q := fun _ h => h
  have X0 : Cx p s m #[Value.ref b] meth c code 4 wsL_law RL ret := ⟨hx, hb, hr, hml, hown, hts, hlocks⟩
  refine lv_aload_n hx hb dL_law_592 rfl (lv_at hl 1 rfl) ?_
  refine law_arg (k := 1) C0 hS hl hL (by omega) (by decide) dL_law_593 dL_law_594 dL_law_595 dL_law_596 dL_law_597 ?_
  refine law_arg (k := 2) C0 hS hl hL (by omega) (by decide) dL_law_598 dL_law_599 dL_law_600 dL_law_601 dL_law_602 ?_
  refine law_arg (k := 3) C0 hS hl hL (by omega) (by decide) dL_law_603 dL_law_604 dL_law_605 dL_law_606 dL_law_607 ?_
  refine law_arg (k := 4) C0 hS hl hL (by omega) (by decide) dL_law_608 dL_law_609 dL_law_610 dL_law_611 dL_law_612 ?_
  refine gcallB_I (bc := [SC h xn xb xe xt xz hh ht hs sn se, LC G xn nv nq, LC G xe av aq, LC G xt yv yq]) (runB_V (As := [.int (xs (i + 1)), .int (xs (i + 2)), .int (xs (i + 3)), .int (xs (i + 4))]) (rest := []) (bc := [SC h xn xb xe xt xz hh ht hs sn se, LC G xn nv nq, LC G xe av aq, LC G xt yv yq]) X0 hK hW (c_X6_ifFires l G h xn xb xe xt xz hh ht hs sn se nv nq av aq yv yq H.size (xs (i + 1)) (xs (i + 2)) (xs (i + 3)) (xs (i + 4))) (cwV 4 hts gL_law_X6_ifFires rfl rfl rfl cd_X6_ifFires ⟨Nat.le_of_ble_eq_true rfl, Nat.le_of_ble_eq_true rfl⟩) [0, 1, 3, 4] rfl rfl rfl 0 0 rfl (ci := 6) rfl rfl rfl rfl hl.1 rfl (Nat.le_of_ble_eq_true rfl) dL_law_613 ⟨Nat.le_of_ble_eq_true rfl, Nat.le_of_ble_eq_true rfl⟩) hW hS hA [0, 1, 3, 4] rfl rfl rfl (fun u6 => [SC h xn xb xe xt xz hh ht hs sn se, LC G xn nv nq, LC G xe u6.1 u6.2.1, LC G xt u6.2.2.1 u6.2.2.2]) (fun _ => rfl) (fun _ => rfl) (fun r6 u6 H locs hw6 hW hS => ?_)
  have hW : BW G (A0 s) (WS G h xn xb xe xt xz hh ht hk tk a hs sn se nv nq bv bq u6.1 u6.2.1 u6.2.2.1 u6.2.2.2 zv zq hn ys vs qs tp tl tr tg tv T g M T Y) H := hW
  refine lv_aload_n hx hb dL_law_616 rfl (lv_at hl 2 rfl) ?_
  refine law_arg (k := 1) C0 hS hl hL (by omega) (by decide) dL_law_617 dL_law_618 dL_law_619 dL_law_620 dL_law_621 ?_
  refine law_arg (k := 2) C0 hS hl hL (by omega) (by decide) dL_law_622 dL_law_623 dL_law_624 dL_law_625 dL_law_626 ?_
  refine law_arg (k := 3) C0 hS hl hL (by omega) (by decide) dL_law_627 dL_law_628 dL_law_629 dL_law_630 dL_law_631 ?_
  refine law_arg (k := 4) C0 hS hl hL (by omega) (by decide) dL_law_632 dL_law_633 dL_law_634 dL_law_635 dL_law_636 ?_
  refine gcallB_I (bc := [MC G a g M T Y]) (runB_V (As := [.int (xs (i + 1)), .int (xs (i + 2)), .int (xs (i + 3)), .int (xs (i + 4))]) (rest := [.int r6]) (bc := [MC G a g M T Y]) X0 hK hW (c_X7_ifFires l G a g M T Y H.size (xs (i + 1)) (xs (i + 2)) (xs (i + 3)) (xs (i + 4)) nv nq hR.at hR.is.1) (cwV 4 hts gL_law_X7_ifFires rfl rfl rfl cd_X7_ifFires ⟨Nat.le_of_ble_eq_true rfl, Nat.le_of_ble_eq_true rfl⟩) [8] rfl rfl rfl 8 0 rfl (ci := 7) rfl rfl rfl rfl hl.1 rfl (Nat.le_of_ble_eq_true rfl) dL_law_637 ⟨Nat.le_of_ble_eq_true rfl, Nat.le_of_ble_eq_true rfl⟩) hW hS hA [8] rfl rfl rfl (fun u7 => [MC G a g u7 T Y]) (fun _ => rfl) (fun _ => rfl) (fun r7 u7 H locs hw7 hW hS => ?_)
  have hW : BW G (A0 s) (WS G h xn xb xe xt xz hh ht hk tk a hs sn se nv nq bv bq u6.1 u6.2.1 u6.2.2.1 u6.2.2.2 zv zq hn ys vs qs tp tl tr tg tv T g u7 T Y) H := hW
  have hq := eq_ifFires (av := av) (aq := aq) (yv := yv) (yq := yq) (p0 := (xs (i + 1))) (p1 := (xs (i + 2))) (p2 := (xs (i + 3))) (p3 := (xs (i + 4))) hR
  rw [hw6, hw7] at hq
  obtain ⟨hq, hR1⟩ := hq
  have hq : r6 = r7 := hq
  refine lv_icmp_eq (tgt := 691) hx hb dL_law_640 (by decide) (fun _ => ?_) (fun c9 => absurd hq c9)
  exact kt hs sn se nv nq bv bq u6.1 u6.2.1 u6.2.2.1 u6.2.2.2 zv zq hn ys vs qs tp tl tr tg tv T g u7 Y hR1 H locs hW hS
set_option maxHeartbeats 4000000 in
set_option maxRecDepth 100000 in
theorem law_bestFires {p : Program} {l : Launch} {e : Env} {s : State} {m : MethodId} {below : List Frame} {meth : Method} {c : Code} {b L i : Nat} {xs : Nat → Int32} {ls : Array Slot} {H : Heap} {locs : List Loc} {G : GG} {h hh ht hk tk : Nat} {xn xb xe xt xz a : Nat → Nat} {hs sn se tp tl tr tg tv : Int32} {nv nq bv bq av aq yv yq zv zq T g M Y : Nat → Int32} {hn : Nat} {ys : Nat → Nat → Nat} {vs qs : Nat → Nat → Int32} (C0 : lw_At p s m meth c b L xs) (hK : KN G s) (hL : L ≤ 2560) (hi : i + 4 < L) (hl : lv_has ls 4 [(0, .ref b), (1, .ref h), (2, .ref (a 0)), (3, .int (nI i))]) (hR : Rl hs sn se nv nq zv zq hn vs qs tl g M) (hW : BW G (A0 s) (WS G h xn xb xe xt xz hh ht hk tk a hs sn se nv nq bv bq av aq yv yq zv zq hn ys vs qs tp tl tr tg tv T g M T Y) H) (hS : va_S (A0 s) s.heap H locs) (kt : KT p l e s m below meth c b G h xn xb xe xt xz hh ht hk tk a ls) : W p l e room_1 s m #[Value.ref b] below meth c H locs 108 1188 (lw_Z below #[Value.ref b] s) (F0 m 645 ls []) := by
  obtain ⟨hx, hb, hr, hml, hown, hts0, hX, hbl, hlocks, hgv⟩ := id C0
  have hts : ∀ w ∈ wsL_law, w.before #[Value.ref b] s = true := fun w hw => hts0 w (wsL_law_in w hw)
  have hA : ∀ q : Nat, s.heap.size ≤ q → (A0 s) q := fun _ h => h
  have X0 : Cx p s m #[Value.ref b] meth c code 4 wsL_law RL ret := ⟨hx, hb, hr, hml, hown, hts, hlocks⟩
  refine lv_aload_n hx hb dL_law_645 rfl (lv_at hl 1 rfl) ?_
  refine law_arg (k := 1) C0 hS hl hL (by omega) (by decide) dL_law_646 dL_law_647 dL_law_648 dL_law_649 dL_law_650 ?_
  refine gcallB_I (bc := [SC h xn xb xe xt xz hh ht hs sn se, LC G xn nv nq, LC G xe av aq, LC G xt yv yq]) (runB_V (As := [.int (xs (i + 1))]) (rest := []) (bc := [SC h xn xb xe xt xz hh ht hs sn se, LC G xn nv nq, LC G xe av aq, LC G xt yv yq]) X0 hK hW (c_X6_bestFires l G h xn xb xe xt xz hh ht hs sn se nv nq av aq yv yq H.size (xs (i + 1))) (cwV 1 hts gL_law_X6_bestFires rfl rfl rfl cd_X6_bestFires ⟨Nat.le_of_ble_eq_true rfl, Nat.le_of_ble_eq_true rfl⟩) [0, 1, 3, 4] rfl rfl rfl 0 0 rfl (ci := 6) rfl rfl rfl rfl hl.1 rfl (Nat.le_of_ble_eq_true rfl) dL_law_651 ⟨Nat.le_of_ble_eq_true rfl, Nat.le_of_ble_eq_true rfl⟩) hW hS hA [0, 1, 3, 4] rfl rfl rfl (fun u6 => [SC h xn xb xe xt xz hh ht hs sn se, LC G xn nv nq, LC G xe u6.1 u6.2.1, LC G xt u6.2.2.1 u6.2.2.2]) (fun _ => rfl) (fun _ => rfl) (fun r6 u6 H locs hw6 hW hS => ?_)
  have hW : BW G (A0 s) (WS G h xn xb xe xt xz hh ht hk tk a hs sn se nv nq bv bq u6.1 u6.2.1 u6.2.2.1 u6.2.2.2 zv zq hn ys vs qs tp tl tr tg tv T g M T Y) H := hW
  refine lv_aload_n hx hb dL_law_654 rfl (lv_at hl 2 rfl) ?_
  refine law_arg (k := 1) C0 hS hl hL (by omega) (by decide) dL_law_655 dL_law_656 dL_law_657 dL_law_658 dL_law_659 ?_
  refine gcallB_I (bc := [MC G a g M T Y]) (runB_V (As := [.int (xs (i + 1))]) (rest := [.int r6]) (bc := [MC G a g M T Y]) X0 hK hW (c_X7_bestFires l G a g M T Y H.size (xs (i + 1)) nv nq hR.at hR.is.1) (cwV 1 hts gL_law_X7_bestFires rfl rfl rfl cd_X7_bestFires ⟨Nat.le_of_ble_eq_true rfl, Nat.le_of_ble_eq_true rfl⟩) [8] rfl rfl rfl 8 0 rfl (ci := 7) rfl rfl rfl rfl hl.1 rfl (Nat.le_of_ble_eq_true rfl) dL_law_660 ⟨Nat.le_of_ble_eq_true rfl, Nat.le_of_ble_eq_true rfl⟩) hW hS hA [8] rfl rfl rfl (fun u7 => [MC G a g u7 T Y]) (fun _ => rfl) (fun _ => rfl) (fun r7 u7 H locs hw7 hW hS => ?_)
  have hW : BW G (A0 s) (WS G h xn xb xe xt xz hh ht hk tk a hs sn se nv nq bv bq u6.1 u6.2.1 u6.2.2.1 u6.2.2.2 zv zq hn ys vs qs tp tl tr tg tv T g u7 T Y) H := hW
  have hq := eq_bestFires (av := av) (aq := aq) (yv := yv) (yq := yq) (p0 := (xs (i + 1))) hR
  rw [hw6, hw7] at hq
  obtain ⟨hq, hR1⟩ := hq
  have hq : r6 = r7 := hq
  refine lv_icmp_eq (tgt := 691) hx hb dL_law_663 (by decide) (fun _ => ?_) (fun c9 => absurd hq c9)
  exact kt hs sn se nv nq bv bq u6.1 u6.2.1 u6.2.2.1 u6.2.2.2 zv zq hn ys vs qs tp tl tr tg tv T g u7 Y hR1 H locs hW hS
set_option maxHeartbeats 4000000 in
set_option maxRecDepth 100000 in
theorem law_count {p : Program} {l : Launch} {e : Env} {s : State} {m : MethodId} {below : List Frame} {meth : Method} {c : Code} {b L i : Nat} {xs : Nat → Int32} {ls : Array Slot} {H : Heap} {locs : List Loc} {G : GG} {h hh ht hk tk : Nat} {xn xb xe xt xz a : Nat → Nat} {hs sn se tp tl tr tg tv : Int32} {nv nq bv bq av aq yv yq zv zq T g M Y : Nat → Int32} {hn : Nat} {ys : Nat → Nat → Nat} {vs qs : Nat → Nat → Int32} (C0 : lw_At p s m meth c b L xs) (hK : KN G s) (hL : L ≤ 2560) (hi : i + 4 < L) (hl : lv_has ls 4 [(0, .ref b), (1, .ref h), (2, .ref (a 0)), (3, .int (nI i))]) (hR : Rl hs sn se nv nq zv zq hn vs qs tl g M) (hW : BW G (A0 s) (WS G h xn xb xe xt xz hh ht hk tk a hs sn se nv nq bv bq av aq yv yq zv zq hn ys vs qs tp tl tr tg tv T g M T Y) H) (hS : va_S (A0 s) s.heap H locs) (kt : KT p l e s m below meth c b G h xn xb xe xt xz hh ht hk tk a ls) : W p l e room_1 s m #[Value.ref b] below meth c H locs 108 1188 (lw_Z below #[Value.ref b] s) (F0 m 668 ls []) := by
  obtain ⟨hx, hb, hr, hml, hown, hts0, hX, hbl, hlocks, hgv⟩ := id C0
  have hts : ∀ w ∈ wsL_law, w.before #[Value.ref b] s = true := fun w hw => hts0 w (wsL_law_in w hw)
  have hA : ∀ q : Nat, s.heap.size ≤ q → (A0 s) q := fun _ h => h
  have X0 : Cx p s m #[Value.ref b] meth c code 4 wsL_law RL ret := ⟨hx, hb, hr, hml, hown, hts, hlocks⟩
  refine lv_aload_n hx hb dL_law_668 rfl (lv_at hl 1 rfl) ?_
  refine law_arg (k := 1) C0 hS hl hL (by omega) (by decide) dL_law_669 dL_law_670 dL_law_671 dL_law_672 dL_law_673 ?_
  refine gcallB_I (bc := [SC h xn xb xe xt xz hh ht hs sn se, LC G xn nv nq, HB G hh hk hn ys vs qs, OT G ht tk tp tl tr tg tv T]) (runB_V (As := [.int (xs (i + 1))]) (rest := []) (bc := [SC h xn xb xe xt xz hh ht hs sn se, LC G xn nv nq, HB G hh hk hn ys vs qs, OT G ht tk tp tl tr tg tv T]) X0 hK hW (c_X6_count l G h xn xb xe xt xz hh ht hk tk hs sn se nv nq hn ys vs qs tp tl tr tg tv T H.size (xs (i + 1))) (cwV 1 hts gL_law_X6_count rfl rfl rfl cd_X6_count ⟨Nat.le_of_ble_eq_true rfl, Nat.le_of_ble_eq_true rfl⟩) [0, 1, 6, 7] rfl rfl rfl 0 0 rfl (ci := 6) rfl rfl rfl rfl hl.1 rfl (Nat.le_of_ble_eq_true rfl) dL_law_674 ⟨Nat.le_of_ble_eq_true rfl, Nat.le_of_ble_eq_true rfl⟩) hW hS hA [0, 1, 6, 7] rfl rfl rfl (fun _ => [SC h xn xb xe xt xz hh ht hs sn se, LC G xn nv nq, HB G hh hk hn ys vs qs, OT G ht tk tp tl tr tg tv T]) (fun _ => rfl) (fun _ => rfl) (fun r6 u6 H locs hw6 hW hS => ?_)
  have hW : BW G (A0 s) (WS G h xn xb xe xt xz hh ht hk tk a hs sn se nv nq bv bq av aq yv yq zv zq hn ys vs qs tp tl tr tg tv T g M T Y) H := hW
  refine lv_aload_n hx hb dL_law_677 rfl (lv_at hl 2 rfl) ?_
  refine law_arg (k := 1) C0 hS hl hL (by omega) (by decide) dL_law_678 dL_law_679 dL_law_680 dL_law_681 dL_law_682 ?_
  refine gcallB_I (bc := [MC G a g M T Y]) (runB_V (As := [.int (xs (i + 1))]) (rest := [.int r6]) (bc := [MC G a g M T Y]) X0 hK hW (c_X7_count l G a g M T Y H.size (xs (i + 1))) (cwV 1 hts gL_law_X7_count rfl rfl rfl cd_X7_count ⟨Nat.le_of_ble_eq_true rfl, Nat.le_of_ble_eq_true rfl⟩) [8] rfl rfl rfl 8 0 rfl (ci := 7) rfl rfl rfl rfl hl.1 rfl (Nat.le_of_ble_eq_true rfl) dL_law_683 ⟨Nat.le_of_ble_eq_true rfl, Nat.le_of_ble_eq_true rfl⟩) hW hS hA [8] rfl rfl rfl (fun _ => [MC G a g M T Y]) (fun _ => rfl) (fun _ => rfl) (fun r7 u7 H locs hw7 hW hS => ?_)
  have hW : BW G (A0 s) (WS G h xn xb xe xt xz hh ht hk tk a hs sn se nv nq bv bq av aq yv yq zv zq hn ys vs qs tp tl tr tg tv T g M T Y) H := hW
  have hq := eq_count (p0 := (xs (i + 1))) hR
  rw [hw6, hw7] at hq
  have hR1 := hR
  have hq : r6 = r7 := hq
  refine lv_icmp_eq (tgt := 691) hx hb dL_law_686 (by decide) (fun _ => ?_) (fun c9 => absurd hq c9)
  exact kt hs sn se nv nq bv bq av aq yv yq zv zq hn ys vs qs tp tl tr tg tv T g M Y hR1 H locs hW hS
