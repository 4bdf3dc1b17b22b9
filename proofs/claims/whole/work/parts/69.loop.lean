/-! the law's loop and its start -/
theorem at_mI : At mI 0 vI qI := by
  have h : ∀ j, j < 46 → mI (0 + j) = enc vI qI j := by decide +kernel
  exact h
theorem is_vI : IS vI qI := by
  refine ⟨⟨⟨⟨⟨?_, ?_, ?_, ?_⟩, ⟨by decide, by decide⟩, ⟨by decide, by decide⟩, ⟨by decide, by decide⟩, by decide⟩, ⟨Or.inl ⟨rfl, rfl, rfl⟩, Or.inl ⟨rfl, rfl, rfl⟩, Or.inl ⟨rfl, rfl, rfl⟩, Or.inl ⟨rfl, rfl, rfl⟩⟩⟩, 0, by omega, rfl, fun j hj => absurd hj (Nat.not_lt_zero _)⟩, ⟨by decide, by decide⟩, ⟨by decide, by decide⟩, 0, 0, 0, by omega, by omega, by omega, rfl, rfl, rfl⟩
  · exact Or.inl rfl
  · exact Or.inl rfl
  · exact Or.inl rfl
  · exact Or.inl rfl
theorem rl_0 : Rl 0 (-5) (-5) vI qI vI qI 0 (fun _ => vI) (fun _ => qI) 0 gI mI :=
  ⟨by omega, rfl, at_mI, is_vI, fun i hi => absurd hi (Nat.not_lt_zero _), Or.inl ⟨rfl, rfl⟩, Or.inl ⟨by decide, rfl, rfl⟩, 0, by omega, rfl, rfl⟩
theorem room5 {L i : Nat} (hL : L ≤ 2560) (hi : i ≤ 2565) : (nI L - nI 5 < nI i → ¬ i + 4 < L) ∧ (¬ nI L - nI 5 < nI i → i + 4 < L) := by
  rw [Int32.lt_iff_toInt_lt, pk_sub_toInt (by omega) (by omega), nI_toInt (by omega)]
  exact ⟨fun h => by omega, fun h => by omega⟩
set_option maxHeartbeats 4000000 in
set_option maxRecDepth 100000 in
theorem law_go {p : Program} {l : Launch} {e : Env} {s : State} {m : MethodId} {below : List Frame} {meth : Method} {c : Code} {b L i : Nat} {xs : Nat → Int32} {ls : Array Slot} {H : Heap} {locs : List Loc} {G : GG} {h hh ht hk tk : Nat} {xn xb xe xt xz a : Nat → Nat} {hs sn se tp tl tr tg tv : Int32} {nv nq bv bq av aq yv yq zv zq T g M Y : Nat → Int32} {hn : Nat} {ys : Nat → Nat → Nat} {vs qs : Nat → Nat → Int32} (C0 : lw_At p s m meth c b L xs) (hK : KN G s) (hL : L ≤ 2560) (hi : i + 4 < L) (hl : lv_has ls 4 [(0, .ref b), (1, .ref h), (2, .ref (a 0)), (3, .int (nI i))]) (hR : Rl hs sn se nv nq zv zq hn vs qs tl g M) (hW : BW G (A0 s) (WS G h xn xb xe xt xz hh ht hk tk a hs sn se nv nq bv bq av aq yv yq zv zq hn ys vs qs tp tl tr tg tv T g M T Y) H) (hS : va_S (A0 s) s.heap H locs) (kt : KT p l e s m below meth c b G h xn xb xe xt xz hh ht hk tk a ls) : W p l e room_1 s m #[Value.ref b] below meth c H locs 108 1188 (lw_Z below #[Value.ref b] s) (F0 m 26 ls []) := by
  obtain ⟨hx, hb, hr, hml, hown, hts0, hX, hbl, hlocks, hgv⟩ := id C0
  have hbA : ¬ (A0 s) b := Nat.not_le.mpr hbl
  refine lv_aload_n hx hb dL_law_26 rfl (lv_at hl 0 rfl) ?_
  refine lv_iload_n hx hb dL_law_27 rfl (lv_at hl 3 rfl) ?_
  refine va_sld hx hb hX hbl hbA hS (vp_in_nI (by omega) (by omega)) dL_law_28 ?_
  rw [nI_clamp (by omega)]
  refine lv_bipush (v := nI 31) hx hb dL_law_29 (by decide) ?_
  refine lv_iand hx hb dL_law_31 ?_
  obtain ⟨j, hj, ej⟩ := pk_andE (xs i) (m := nI 31) 5 (by decide)
  rw [ej]
  have hj : j < 32 := hj
  by_cases c23 : j < 23
  · have h23 : j = 0 ∨ j = 1 ∨ j = 2 ∨ j = 3 ∨ j = 4 ∨ j = 5 ∨ j = 6 ∨ j = 7 ∨ j = 8 ∨ j = 9 ∨ j = 10 ∨ j = 11 ∨ j = 12 ∨ j = 13 ∨ j = 14 ∨ j = 15 ∨ j = 16 ∨ j = 17 ∨ j = 18 ∨ j = 19 ∨ j = 20 ∨ j = 21 ∨ j = 22 := by omega
    rcases h23 with rfl | rfl | rfl | rfl | rfl | rfl | rfl | rfl | rfl | rfl | rfl | rfl | rfl | rfl | rfl | rfl | rfl | rfl | rfl | rfl | rfl | rfl | rfl
    · refine lv_tableIn (off := 108) (tgt := 140) hx hb dL_law_32 (by decide) (by decide) (by decide) (by decide) ?_
      exact law_setFire C0 hK hL hi hl hR hW hS kt
    · refine lv_tableIn (off := 141) (tgt := 173) hx hb dL_law_32 (by decide) (by decide) (by decide) (by decide) ?_
      exact law_fill C0 hK hL hi hl hR hW hS kt
    · refine lv_tableIn (off := 174) (tgt := 206) hx hb dL_law_32 (by decide) (by decide) (by decide) (by decide) ?_
      exact law_setRation C0 hK hL hi hl hR hW hS kt
    · refine lv_tableIn (off := 197) (tgt := 229) hx hb dL_law_32 (by decide) (by decide) (by decide) (by decide) ?_
      exact law_start C0 hK hL hi hl hR hW hS kt
    · refine lv_tableIn (off := 230) (tgt := 262) hx hb dL_law_32 (by decide) (by decide) (by decide) (by decide) ?_
      exact law_queue C0 hK hL hi hl hR hW hS kt
    · refine lv_tableIn (off := 253) (tgt := 285) hx hb dL_law_32 (by decide) (by decide) (by decide) (by decide) ?_
      exact law_unqueue C0 hK hL hi hl hR hW hS kt
    · refine lv_tableIn (off := 276) (tgt := 308) hx hb dL_law_32 (by decide) (by decide) (by decide) (by decide) ?_
      exact law_takeOut C0 hK hL hi hl hR hW hS kt
    · refine lv_tableIn (off := 299) (tgt := 331) hx hb dL_law_32 (by decide) (by decide) (by decide) (by decide) ?_
      exact law_run C0 hK hL hi hl hR hW hS kt
    · refine lv_tableIn (off := 322) (tgt := 354) hx hb dL_law_32 (by decide) (by decide) (by decide) (by decide) ?_
      exact law_type C0 hK hL hi hl hR hW hS kt
    · refine lv_tableIn (off := 347) (tgt := 379) hx hb dL_law_32 (by decide) (by decide) (by decide) (by decide) ?_
      exact law_clearText C0 hK hL hi hl hR hW hS kt
    · refine lv_tableIn (off := 360) (tgt := 392) hx hb dL_law_32 (by decide) (by decide) (by decide) (by decide) ?_
      exact law_perform C0 hK hL hi hl hR hW hS kt
    · refine lv_tableIn (off := 373) (tgt := 405) hx hb dL_law_32 (by decide) (by decide) (by decide) (by decide) ?_
      exact law_stopped C0 hK hL hi hl hR hW hS kt
    · refine lv_tableIn (off := 396) (tgt := 428) hx hb dL_law_32 (by decide) (by decide) (by decide) (by decide) ?_
      exact law_undo C0 hK hL hi hl hR hW hS kt
    · refine lv_tableIn (off := 409) (tgt := 441) hx hb dL_law_32 (by decide) (by decide) (by decide) (by decide) ?_
      exact law_keep C0 hK hL hi hl hR hW hS kt
    · refine lv_tableIn (off := 422) (tgt := 454) hx hb dL_law_32 (by decide) (by decide) (by decide) (by decide) ?_
      exact law_restore C0 hK hL hi hl hR hW hS kt
    · refine lv_tableIn (off := 435) (tgt := 467) hx hb dL_law_32 (by decide) (by decide) (by decide) (by decide) ?_
      exact law_boiler C0 hK hL hi hl hR hW hS kt
    · refine lv_tableIn (off := 468) (tgt := 500) hx hb dL_law_32 (by decide) (by decide) (by decide) (by decide) ?_
      exact law_machine C0 hK hL hi hl hR hW hS kt
    · refine lv_tableIn (off := 501) (tgt := 533) hx hb dL_law_32 (by decide) (by decide) (by decide) (by decide) ?_
      exact law_line C0 hK hL hi hl hR hW hS kt
    · refine lv_tableIn (off := 524) (tgt := 556) hx hb dL_law_32 (by decide) (by decide) (by decide) (by decide) ?_
      exact law_reason C0 hK hL hi hl hR hW hS kt
    · refine lv_tableIn (off := 547) (tgt := 579) hx hb dL_law_32 (by decide) (by decide) (by decide) (by decide) ?_
      exact law_doneIn C0 hK hL hi hl hR hW hS kt
    · refine lv_tableIn (off := 560) (tgt := 592) hx hb dL_law_32 (by decide) (by decide) (by decide) (by decide) ?_
      exact law_ifFires C0 hK hL hi hl hR hW hS kt
    · refine lv_tableIn (off := 613) (tgt := 645) hx hb dL_law_32 (by decide) (by decide) (by decide) (by decide) ?_
      exact law_bestFires C0 hK hL hi hl hR hW hS kt
    · refine lv_tableIn (off := 636) (tgt := 668) hx hb dL_law_32 (by decide) (by decide) (by decide) (by decide) ?_
      exact law_count C0 hK hL hi hl hR hW hS kt
  · refine lv_tableOut (tgt := 691) hx hb dL_law_32 (Or.inr ?_) (by decide) ?_
    · rw [nI_toInt (by omega)]
      omega
    · exact kt hs sn se nv nq bv bq av aq yv yq zv zq hn ys vs qs tp tl tr tg tv T g M Y hR H locs hW hS
set_option maxHeartbeats 4000000 in
set_option maxRecDepth 100000 in
theorem law_loop {p : Program} {l : Launch} {e : Env} {s : State} {m : MethodId} {below : List Frame} {meth : Method} {c : Code} {b L : Nat} {xs : Nat → Int32} {G : GG} {h hh ht hk tk : Nat} {xn xb xe xt xz a : Nat → Nat} (C0 : lw_At p s m meth c b L xs) (hK : KN G s) (hL : L ≤ 2560) : ∀ (n i : Nat), i ≤ 2565 → L + 1 ≤ i + n → ∀ (hs sn se : Int32) (nv nq bv bq av aq yv yq zv zq : Nat → Int32) (hn : Nat) (ys : Nat → Nat → Nat) (vs qs : Nat → Nat → Int32) (tp tl tr tg tv : Int32) (T g M Y : Nat → Int32), Rl hs sn se nv nq zv zq hn vs qs tl g M → ∀ (H : Heap) (locs : List Loc), BW G (A0 s) (WS G h xn xb xe xt xz hh ht hk tk a hs sn se nv nq bv bq av aq yv yq zv zq hn ys vs qs tp tl tr tg tv T g M T Y) H → va_S (A0 s) s.heap H locs → ∀ (ls : Array Slot), lv_has ls 4 [(0, .ref b), (1, .ref h), (2, .ref (a 0)), (3, .int (nI i))] → W p l e room_1 s m #[Value.ref b] below meth c H locs 108 1188 (lw_Z below #[Value.ref b] s) (F0 m 18 ls []) := by
  obtain ⟨hx, hb, hr, hml, hown, hts0, hX, hbl, hlocks, hgv⟩ := id C0
  have hbA : ¬ (A0 s) b := Nat.not_le.mpr hbl
  have hfin : ∀ (H : Heap) (locs : List Loc) (ls : Array Slot), va_S (A0 s) s.heap H locs → W p l e room_1 s m #[Value.ref b] below meth c H locs 108 1188 (lw_Z below #[Value.ref b] s) (F0 m 697 ls []) := by
    intro H locs ls hS
    refine lv_iconst (v := 1) hx hb dL_law_697 (by decide) ?_
    refine va_forget (fun q hq => hS.2.2 q hq) ?_
    exact lw_ret hx hb hr hlocks dL_law_698
  intro n
  induction n with
  | zero =>
    intro i hi h1 hs sn se nv nq bv bq av aq yv yq zv zq hn ys vs qs tp tl tr tg tv T g M Y hR H locs hW hS ls hl
    refine lv_iload_n hx hb dL_law_18 rfl (lv_at hl 3 rfl) ?_
    refine lv_aload_n hx hb dL_law_19 rfl (lv_at hl 0 rfl) ?_
    refine va_slen hx hb hX hbl hbA hS dL_law_20 ?_
    refine lv_iconst (v := nI 5) hx hb dL_law_21 (by decide) ?_
    refine lv_isub hx hb dL_law_22 ?_
    refine lv_icmp_gt (tgt := 697) hx hb dL_law_23 (by decide) (fun _ => hfin H locs ls hS) (fun c9 => ?_)
    have := (room5 hL hi).2 c9
    omega
  | succ n ih =>
    intro i hi h1 hs sn se nv nq bv bq av aq yv yq zv zq hn ys vs qs tp tl tr tg tv T g M Y hR H locs hW hS ls hl
    refine lv_iload_n hx hb dL_law_18 rfl (lv_at hl 3 rfl) ?_
    refine lv_aload_n hx hb dL_law_19 rfl (lv_at hl 0 rfl) ?_
    refine va_slen hx hb hX hbl hbA hS dL_law_20 ?_
    refine lv_iconst (v := nI 5) hx hb dL_law_21 (by decide) ?_
    refine lv_isub hx hb dL_law_22 ?_
    refine lv_icmp_gt (tgt := 697) hx hb dL_law_23 (by decide) (fun _ => hfin H locs ls hS) (fun c9 => ?_)
    have hlt := (room5 hL hi).2 c9
    refine law_go C0 hK hL hlt hl hR hW hS ?_
    intro hs1 sn1 se1 nv1 nq1 bv1 bq1 av1 aq1 yv1 yq1 zv1 zq1 hn1 ys1 vs1 qs1 tp1 tl1 tr1 tg1 tv1 T1 g1 M1 Y1 hR1 H1 locs1 hW1 hS1
    refine lv_iinc (v := nI (i + 5)) (lv' := [(3, .int (nI (i + 5))), (0, .ref b), (1, .ref h), (2, .ref (a 0))]) hx hb dL_law_691 hl (k := 3) rfl (by rw [show Int32.ofInt 5 = nI 5 from by decide +kernel, nI_add]) (by decide) rfl (fun ls1 hl1 => ?_)
    refine lv_goto (tgt := 18) hx hb dL_law_694 (by decide) ?_
    exact ih (i + 5) (by omega) (by omega) hs1 sn1 se1 nv1 nq1 bv1 bq1 av1 aq1 yv1 yq1 zv1 zq1 hn1 ys1 vs1 qs1 tp1 tl1 tr1 tg1 tv1 T1 g1 M1 Y1 hR1 H1 locs1 hW1 hS1 ls1 (lv_sub hl1 [1, 2, 3, 0] rfl)
