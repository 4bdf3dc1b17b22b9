/-! the law behind its loop -/
set_option maxHeartbeats 4000000 in
theorem lg_86x {p : Program} {l : Launch} {e : Env} {s : State} {m : MethodId} {below : List Frame} {meth : Method} {c : Code} {b L : Nat} {xs : Nat → Int32} {G : GG} {d : AD} {nv nq : Nat → Int32} {hn : Nat} {vs qs : Nat → Nat → Int32}  (C0 : lw_At p s m meth c b L xs) (X : Cx p s m #[Value.ref b] meth c cL_law 19 wsB RL ret) (hK : KN G s) (hA : ∀ q : Nat, s.heap.size ≤ q → (A0 s) q) (hLn : L ≤ 260)  (kk : KW p l e room_1 s m #[Value.ref b] below meth c 104 606 (lw_Z below #[Value.ref b] s) (A0 s) G d nv nq hn vs qs 19 531 [(0, .ref b), (1, .ref d.1), (2, .int (nI 1)), (3, .int (nI 0))] []) : KW p l e room_1 s m #[Value.ref b] below meth c 104 606 (lw_Z below #[Value.ref b] s) (A0 s) G d nv nq hn vs qs 19 86 [(0, .ref b), (1, .ref d.1), (2, .int (nI 1)), (3, .int (nI 24))] [] := by
  have hx := X.1
  have hb : c.code = cL_law := X.2.1
  intro H locs ls hW hS hl
  refine lv_iload_n hx hb dL_law_86 rfl (lv_at hl 3 rfl) ?_
  refine lv_bipush (v := nI 24) hx hb dL_law_87 (by decide) ?_
  refine lv_icmp_ge (tgt := 529) hx hb dL_law_89 (by decide) (fun _ => ?_) (fun z => False.elim (z (Int32.le_refl _)))
  refine lv_iconst (v := nI 0) hx hb dL_law_529 (by decide) ?_
  refine lv_istore_n (lv' := [(3, .int (nI 0)), (0, .ref b), (1, .ref d.1), (2, .int (nI 1))]) hx hb dL_law_530 rfl hl (by decide) rfl (fun ls hl => ?_)
  exact kk H locs ls hW hS (lv_sub hl [1, 2, 3, 0] rfl)
set_option maxHeartbeats 4000000 in
theorem lg_531z {p : Program} {l : Launch} {e : Env} {s : State} {m : MethodId} {below : List Frame} {meth : Method} {c : Code} {b L : Nat} {xs : Nat → Int32} {G : GG} {d : AD} {nv nq : Nat → Int32} {hn : Nat} {vs qs : Nat → Nat → Int32} {k : Nat} (C0 : lw_At p s m meth c b L xs) (X : Cx p s m #[Value.ref b] meth c cL_law 19 wsB RL ret) (hK : KN G s) (hA : ∀ q : Nat, s.heap.size ≤ q → (A0 s) q) (hLn : L ≤ 260) (h25 : nv 25 = nI 0) (kk : KW p l e room_1 s m #[Value.ref b] below meth c 104 606 (lw_Z below #[Value.ref b] s) (A0 s) G d nv nq hn vs qs 19 570 [(0, .ref b), (1, .ref d.1), (2, .int (nI 1))] []) : KW p l e room_1 s m #[Value.ref b] below meth c 104 606 (lw_Z below #[Value.ref b] s) (A0 s) G d nv nq hn vs qs 19 531 [(0, .ref b), (1, .ref d.1), (2, .int (nI 1)), (3, .int (nI k))] [] := by
  have hx := X.1
  have hb : c.code = cL_law := X.2.1
  intro H locs ls hW hS hl
  refine lv_iload_n hx hb dL_law_531 rfl (lv_at hl 2 rfl) ?_
  refine lv_if_eq (tgt := 570) hx hb dL_law_532 (by decide) (fun z => False.elim ((show ¬ nI 1 = 0 by decide) z)) (fun _ => ?_)
  refine lv_aload_n hx hb dL_law_535 rfl (lv_at hl 1 rfl) ?_
  refine lv_bipush (v := nI 6) hx hb dL_law_536 (by decide) ?_
  refine k_count (rest := []) X hK hA hW hS hl.1 (Nat.le_of_ble_eq_true rfl) ⟨Nat.le_of_ble_eq_true rfl, Nat.le_of_ble_eq_true rfl⟩ ⟨Nat.le_of_ble_eq_true rfl, Nat.le_of_ble_eq_true rfl⟩ dL_law_538 (fun H locs hW hS => ?_)
  rw [cnt6, h25]
  refine lv_if_le (tgt := 570) hx hb dL_law_541 (by decide) (fun _ => ?_) (fun z => False.elim (z (by decide)))
  exact kk H locs ls hW hS (lv_sub hl [0, 1, 2] rfl)
set_option maxHeartbeats 4000000 in
theorem lg_531s {p : Program} {l : Launch} {e : Env} {s : State} {m : MethodId} {below : List Frame} {meth : Method} {c : Code} {b L : Nat} {xs : Nat → Int32} {G : GG} {d : AD} {nv nq : Nat → Int32} {hn : Nat} {vs qs : Nat → Nat → Int32} {k n : Nat} (C0 : lw_At p s m meth c b L xs) (X : Cx p s m #[Value.ref b] meth c cL_law 19 wsB RL ret) (hK : KN G s) (hA : ∀ q : Nat, s.heap.size ≤ q → (A0 s) q) (hLn : L ≤ 260) (h4 : hn ≤ 4) (h25 : nv 25 = nI (n + 1)) (hn12 : n + 1 ≤ 12) (hk : k < 12) (hnn : ¬ (f_X2_removeFromLine nv nq (nI 0)).1 < 0) (kk : ∀ (hn' : Nat) (vs' qs' : Nat → Nat → Int32), hn' ≤ 4 → KW p l e room_1 s m #[Value.ref b] below meth c 104 606 (lw_Z below #[Value.ref b] s) (A0 s) G d ((f_X2_removeFromLine nv nq (nI 0)).2.1) ((f_X2_removeFromLine nv nq (nI 0)).2.2) hn' vs' qs' 19 531 [(0, .ref b), (1, .ref d.1), (2, .int (nI 1)), (3, .int (nI (k + 1)))] []) : KW p l e room_1 s m #[Value.ref b] below meth c 104 606 (lw_Z below #[Value.ref b] s) (A0 s) G d nv nq hn vs qs 19 531 [(0, .ref b), (1, .ref d.1), (2, .int (nI 1)), (3, .int (nI k))] [] := by
  have hx := X.1
  have hb : c.code = cL_law := X.2.1
  intro H locs ls hW hS hl
  refine lv_iload_n hx hb dL_law_531 rfl (lv_at hl 2 rfl) ?_
  refine lv_if_eq (tgt := 570) hx hb dL_law_532 (by decide) (fun z => False.elim ((show ¬ nI 1 = 0 by decide) z)) (fun _ => ?_)
  refine lv_aload_n hx hb dL_law_535 rfl (lv_at hl 1 rfl) ?_
  refine lv_bipush (v := nI 6) hx hb dL_law_536 (by decide) ?_
  refine k_count (rest := []) X hK hA hW hS hl.1 (Nat.le_of_ble_eq_true rfl) ⟨Nat.le_of_ble_eq_true rfl, Nat.le_of_ble_eq_true rfl⟩ ⟨Nat.le_of_ble_eq_true rfl, Nat.le_of_ble_eq_true rfl⟩ dL_law_538 (fun H locs hW hS => ?_)
  rw [cnt6, h25]
  refine lv_if_le (tgt := 570) hx hb dL_law_541 (by decide) (fun z => False.elim (by
      have z : nI (n + 1) ≤ nI 0 := z
      rw [nI_leI (by omega) (by omega)] at z
      omega)) (fun _ => ?_)
  refine lv_iload_n hx hb dL_law_544 rfl (lv_at hl 3 rfl) ?_
  refine lv_bipush (v := nI 12) hx hb dL_law_545 (by decide) ?_
  refine lv_icmp_ge (tgt := 570) hx hb dL_law_547 (by decide) (fun z => False.elim (by
      rw [nI_leI (by omega) (by omega)] at z
      omega)) (fun _ => ?_)
  refine lv_aload_n hx hb dL_law_550 rfl (lv_at hl 1 rfl) ?_
  refine lv_iconst (v := nI 0) hx hb dL_law_551 (by decide) ?_
  refine k_unqueue (rest := []) X hK hA hW hS h4 hl.1 (Nat.le_of_ble_eq_true rfl) ⟨Nat.le_of_ble_eq_true rfl, Nat.le_of_ble_eq_true rfl⟩ ⟨Nat.le_of_ble_eq_true rfl, Nat.le_of_ble_eq_true rfl⟩ dL_law_552 (fun hn' vs' qs' H locs hr hW hS => ?_)
  refine lv_if_lt (tgt := 562) hx hb dL_law_555 (by decide) (fun z => False.elim (hnn z)) (fun _ => ?_)
  refine lv_iconst (v := nI 1) hx hb dL_law_558 (by decide) ?_
  refine lv_goto (tgt := 563) hx hb dL_law_559 (by decide) ?_
  refine lv_istore_n (lv' := [(2, .int (nI 1)), (0, .ref b), (1, .ref d.1), (3, .int (nI k))]) hx hb dL_law_563 rfl hl (by decide) rfl (fun ls hl => ?_)
  refine lv_iinc (v := nI (k + 1)) (lv' := [(3, .int (nI (k + 1))), (2, .int (nI 1)), (0, .ref b), (1, .ref d.1)]) hx hb dL_law_564 hl (k := 3) rfl (inc1 k) (by decide) rfl (fun ls hl => ?_)
  refine lv_goto (tgt := 531) hx hb dL_law_567 (by decide) ?_
  exact kk hn' vs' qs' hr.2.2 H locs ls hW hS (lv_sub hl [2, 3, 1, 0] rfl)
theorem lg_531 {p : Program} {l : Launch} {e : Env} {s : State} {m : MethodId} {below : List Frame} {meth : Method} {c : Code} {b L : Nat} {xs : Nat → Int32} {G : GG} {d : AD} (C0 : lw_At p s m meth c b L xs) (X : Cx p s m #[Value.ref b] meth c cL_law 19 wsB RL ret) (hK : KN G s) (hA : ∀ q : Nat, s.heap.size ≤ q → (A0 s) q) (hLn : L ≤ 260) {t : Int} (kk : ∀ (nv nq : Nat → Int32) (hn : Nat) (vs qs : Nat → Nat → Int32), Iv t nv → Li nv nq → nv 25 = nI 0 → hn ≤ 4 → KW p l e room_1 s m #[Value.ref b] below meth c 104 606 (lw_Z below #[Value.ref b] s) (A0 s) G d nv nq hn vs qs 19 570 [(0, .ref b), (1, .ref d.1), (2, .int (nI 1))] []) : ∀ (n k : Nat) (nv nq : Nat → Int32) (hn : Nat) (vs qs : Nat → Nat → Int32), n + k ≤ 12 → Iv t nv → Li nv nq → hn ≤ 4 → nv 25 = nI n → KW p l e room_1 s m #[Value.ref b] below meth c 104 606 (lw_Z below #[Value.ref b] s) (A0 s) G d nv nq hn vs qs 19 531 [(0, .ref b), (1, .ref d.1), (2, .int (nI 1)), (3, .int (nI k))] []
  | 0, k, nv, nq, hn, vs, qs, _, hI, hL, h4, h25 => lg_531z C0 X hK hA hLn h25 (kk nv nq hn vs qs hI hL h25 h4)
  | n + 1, k, nv, nq, hn, vs, qs, h, hI, hL, h4, h25 => by
    obtain ⟨n', h12, e25, hq⟩ := id hL
    have en : n' = n + 1 := (nI_eq (by omega) (by omega)).mp (e25.symm.trans h25)
    subst en
    obtain ⟨r1, r2⟩ := rl_0 (by omega) h25 hq
    have a := rl_ok (p := 0) hI hL (by omega)
    exact lg_531s C0 X hK hA hLn h4 h25 (by omega) (by omega) r1 (fun hn' vs' qs' h4' => lg_531 C0 X hK hA hLn kk n (k + 1) _ _ hn' vs' qs' (by omega) a.2.1 a.2.2 h4' r2)
set_option maxHeartbeats 4000000 in
theorem lg_570 {p : Program} {l : Launch} {e : Env} {s : State} {m : MethodId} {below : List Frame} {meth : Method} {c : Code} {b L : Nat} {xs : Nat → Int32} {G : GG} {d : AD} {nv nq : Nat → Int32} {hn : Nat} {vs qs : Nat → Nat → Int32}  (C0 : lw_At p s m meth c b L xs) (X : Cx p s m #[Value.ref b] meth c cL_law 19 wsB RL ret) (hK : KN G s) (hA : ∀ q : Nat, s.heap.size ≤ q → (A0 s) q) (hLn : L ≤ 260)  (kk : ∀ k : Nat, k < 3 → KW p l e room_1 s m #[Value.ref b] below meth c 104 606 (lw_Z below #[Value.ref b] s) (A0 s) G d nv nq hn vs qs 19 585 [(0, .ref b), (1, .ref d.1), (2, .int (nI 1)), (3, .int (nI k)), (4, .int (nI 3)), (5, .int (nI 3))] []) : KW p l e room_1 s m #[Value.ref b] below meth c 104 606 (lw_Z below #[Value.ref b] s) (A0 s) G d nv nq hn vs qs 19 570 [(0, .ref b), (1, .ref d.1), (2, .int (nI 1))] [] := by
  have hx := X.1
  have hb : c.code = cL_law := X.2.1
  intro H locs ls hW hS hl
  refine lv_aload_n hx hb dL_law_570 rfl (lv_at hl 0 rfl) ?_
  refine lv_bipush (v := nI 30) hx hb dL_law_571 (by decide) ?_
  refine k_cell (rest := []) C0 X hLn (by omega) hW hS hl.1 (Nat.le_of_ble_eq_true rfl) dL_law_573 (fun j H locs hj hW hS => ?_)
  refine lv_iconst (v := nI 3) hx hb dL_law_576 (by decide) ?_
  refine lv_irem hx hb dL_law_577 (by decide) ?_
  rw [pk_rem (a := j) (d := 3) (by omega) (by omega) (by omega)]
  refine lv_istore_n (lv' := [(3, .int (nI (j % 3))), (0, .ref b), (1, .ref d.1), (2, .int (nI 1))]) hx hb dL_law_578 rfl hl (by decide) rfl (fun ls hl => ?_)
  refine lv_iconst (v := nI 3) hx hb dL_law_579 (by decide) ?_
  refine lv_istore (lv' := [(4, .int (nI 3)), (3, .int (nI (j % 3))), (0, .ref b), (1, .ref d.1), (2, .int (nI 1))]) hx hb dL_law_580 hl (by decide) rfl (fun ls hl => ?_)
  refine lv_iconst (v := nI 3) hx hb dL_law_582 (by decide) ?_
  refine lv_istore (lv' := [(5, .int (nI 3)), (4, .int (nI 3)), (3, .int (nI (j % 3))), (0, .ref b), (1, .ref d.1), (2, .int (nI 1))]) hx hb dL_law_583 hl (by decide) rfl (fun ls hl => ?_)
  exact kk (j % 3) (by omega) H locs ls hW hS (lv_sub hl [3, 4, 5, 2, 1, 0] rfl)
set_option maxHeartbeats 4000000 in
theorem lg_585 {p : Program} {l : Launch} {e : Env} {s : State} {m : MethodId} {below : List Frame} {meth : Method} {c : Code} {b L : Nat} {xs : Nat → Int32} {G : GG} {d : AD} {nv nq : Nat → Int32} {hn : Nat} {vs qs : Nat → Nat → Int32} {k a i : Nat} {y : Int32} {t : Int} (C0 : lw_At p s m meth c b L xs) (X : Cx p s m #[Value.ref b] meth c cL_law 19 wsB RL ret) (hK : KN G s) (hA : ∀ q : Nat, s.heap.size ≤ q → (A0 s) q) (hLn : L ≤ 260) (hI : Iv t nv) (hi : i < 4) (hy : nI i + Int32.ofInt (-1) = y) (kk : KW p l e room_1 s m #[Value.ref b] below meth c 104 606 (lw_Z below #[Value.ref b] s) (A0 s) G d nv nq hn vs qs 19 585 [(0, .ref b), (1, .ref d.1), (2, .int (nI 1)), (3, .int (nI k)), (4, .int (nI (if nv (13 + i) = -5 then i else a))), (5, .int y)] []) : KW p l e room_1 s m #[Value.ref b] below meth c 104 606 (lw_Z below #[Value.ref b] s) (A0 s) G d nv nq hn vs qs 19 585 [(0, .ref b), (1, .ref d.1), (2, .int (nI 1)), (3, .int (nI k)), (4, .int (nI a)), (5, .int (nI i))] [] := by
  have hx := X.1
  have hb : c.code = cL_law := X.2.1
  intro H locs ls hW hS hl
  refine lv_iload hx hb dL_law_585 (lv_at hl 5 rfl) ?_
  refine lv_if_lt (tgt := 619) hx hb dL_law_587 (by decide) (fun z => False.elim (absurd z (nI_pos (by omega)))) (fun _ => ?_)
  refine lv_iload_n hx hb dL_law_590 rfl (lv_at hl 2 rfl) ?_
  refine lv_if_eq (tgt := 619) hx hb dL_law_591 (by decide) (fun z => False.elim ((show ¬ nI 1 = 0 by decide) z)) (fun _ => ?_)
  refine lv_aload_n hx hb dL_law_594 rfl (lv_at hl 1 rfl) ?_
  refine lv_iload hx hb dL_law_595 (lv_at hl 5 rfl) ?_
  refine lv_iconst (v := nI 0) hx hb dL_law_597 (by decide) ?_
  refine k_machine (rest := []) X hK hA hW hS hl.1 (Nat.le_of_ble_eq_true rfl) ⟨Nat.le_of_ble_eq_true rfl, Nat.le_of_ble_eq_true rfl⟩ ⟨Nat.le_of_ble_eq_true rfl, Nat.le_of_ble_eq_true rfl⟩ dL_law_598 (fun H locs hW hS => ?_)
  rw [mach0 hi]
  by_cases ck : nv (13 + i) = -5
  · rw [if_pos ck] at kk
    refine lv_if_ge (tgt := 609) hx hb dL_law_601 (by decide) (fun z => False.elim (by
      rw [ck] at z
      exact absurd z (by decide))) (fun _ => ?_)
    refine lv_iload hx hb dL_law_604 (lv_at hl 5 rfl) ?_
    refine lv_goto (tgt := 611) hx hb dL_law_606 (by decide) ?_
    refine lv_istore (lv' := [(4, .int (nI i)), (0, .ref b), (1, .ref d.1), (2, .int (nI 1)), (3, .int (nI k)), (5, .int (nI i))]) hx hb dL_law_611 hl (by decide) rfl (fun ls hl => ?_)
    refine lv_iinc (v := y) (lv' := [(5, .int y), (4, .int (nI i)), (0, .ref b), (1, .ref d.1), (2, .int (nI 1)), (3, .int (nI k))]) hx hb dL_law_613 hl (k := 5) rfl hy (by decide) rfl (fun ls hl => ?_)
    refine lv_goto (tgt := 585) hx hb dL_law_616 (by decide) ?_
    exact kk H locs ls hW hS (lv_sub hl [2, 3, 4, 5, 1, 0] rfl)
  · rw [if_neg ck] at kk
    have hk3 := (hI.2.1.at hi).k3 ck
    refine lv_if_ge (tgt := 609) hx hb dL_law_601 (by decide) (fun _ => ?_) (fun z => False.elim (z (Int32.not_lt.mp (K3_0 hk3))))
    refine lv_iload hx hb dL_law_609 (lv_at hl 4 rfl) ?_
    refine lv_istore (lv' := [(4, .int (nI a)), (0, .ref b), (1, .ref d.1), (2, .int (nI 1)), (3, .int (nI k)), (5, .int (nI i))]) hx hb dL_law_611 hl (by decide) rfl (fun ls hl => ?_)
    refine lv_iinc (v := y) (lv' := [(5, .int y), (4, .int (nI a)), (0, .ref b), (1, .ref d.1), (2, .int (nI 1)), (3, .int (nI k))]) hx hb dL_law_613 hl (k := 5) rfl hy (by decide) rfl (fun ls hl => ?_)
    refine lv_goto (tgt := 585) hx hb dL_law_616 (by decide) ?_
    exact kk H locs ls hW hS (lv_sub hl [2, 3, 4, 5, 1, 0] rfl)
set_option maxHeartbeats 4000000 in
theorem lg_585x {p : Program} {l : Launch} {e : Env} {s : State} {m : MethodId} {below : List Frame} {meth : Method} {c : Code} {b L : Nat} {xs : Nat → Int32} {G : GG} {d : AD} {nv nq : Nat → Int32} {hn : Nat} {vs qs : Nat → Nat → Int32} {k a : Nat} (C0 : lw_At p s m meth c b L xs) (X : Cx p s m #[Value.ref b] meth c cL_law 19 wsB RL ret) (hK : KN G s) (hA : ∀ q : Nat, s.heap.size ≤ q → (A0 s) q) (hLn : L ≤ 260)  (kk : KW p l e room_1 s m #[Value.ref b] below meth c 104 606 (lw_Z below #[Value.ref b] s) (A0 s) G d nv nq hn vs qs 19 619 [(0, .ref b), (1, .ref d.1), (2, .int (nI 1)), (3, .int (nI k)), (4, .int (nI a))] []) : KW p l e room_1 s m #[Value.ref b] below meth c 104 606 (lw_Z below #[Value.ref b] s) (A0 s) G d nv nq hn vs qs 19 585 [(0, .ref b), (1, .ref d.1), (2, .int (nI 1)), (3, .int (nI k)), (4, .int (nI a)), (5, .int (-1))] [] := by
  have hx := X.1
  have hb : c.code = cL_law := X.2.1
  intro H locs ls hW hS hl
  refine lv_iload hx hb dL_law_585 (lv_at hl 5 rfl) ?_
  refine lv_if_lt (tgt := 619) hx hb dL_law_587 (by decide) (fun _ => ?_) (fun z => False.elim (z (by decide)))
  exact kk H locs ls hW hS (lv_sub hl [0, 1, 2, 3, 4] rfl)
set_option maxHeartbeats 4000000 in
theorem lg_619 {p : Program} {l : Launch} {e : Env} {s : State} {m : MethodId} {below : List Frame} {meth : Method} {c : Code} {b L : Nat} {xs : Nat → Int32} {G : GG} {d : AD} {nv nq : Nat → Int32} {hn : Nat} {vs qs : Nat → Nat → Int32} {k i : Nat} (C0 : lw_At p s m meth c b L xs) (X : Cx p s m #[Value.ref b] meth c cL_law 19 wsB RL ret) (hK : KN G s) (hA : ∀ q : Nat, s.heap.size ≤ q → (A0 s) q) (hLn : L ≤ 260) (h4 : hn ≤ 4) (hk : k < 3) (kk : ∀ (yv yq : Nat → Int32) (hn' : Nat) (vs' qs' : Nat → Nat → Int32), hn' ≤ 4 → KW p l e room_1 s m #[Value.ref b] below meth c 104 606 (lw_Z below #[Value.ref b] s) (A0 s) G d ((f_X2_startLoad nv nq yv yq (nI i) (nI k)).2.1) nq hn' vs' qs' 19 667 [(0, .ref b), (1, .ref d.1), (2, .int (nI 1)), (3, .int (nI k)), (4, .int (nI i)), (5, .int (RS nv nq (nI k))), (6, .int (nv 45)), (7, .int ((f_X2_startLoad nv nq yv yq (nI i) (nI k)).1))] []) : KW p l e room_1 s m #[Value.ref b] below meth c 104 606 (lw_Z below #[Value.ref b] s) (A0 s) G d nv nq hn vs qs 19 619 [(0, .ref b), (1, .ref d.1), (2, .int (nI 1)), (3, .int (nI k)), (4, .int (nI i))] [] := by
  have hx := X.1
  have hb : c.code = cL_law := X.2.1
  intro H locs ls hW hS hl
  refine lv_iload_n hx hb dL_law_619 rfl (lv_at hl 2 rfl) ?_
  refine lv_if_eq (tgt := 631) hx hb dL_law_620 (by decide) (fun z => False.elim ((show ¬ nI 1 = 0 by decide) z)) (fun _ => ?_)
  refine lv_aload_n hx hb dL_law_623 rfl (lv_at hl 1 rfl) ?_
  refine lv_iload_n hx hb dL_law_624 rfl (lv_at hl 3 rfl) ?_
  refine k_reason (rest := []) X hK hA hW hS hl.1 (Nat.le_of_ble_eq_true rfl) ⟨Nat.le_of_ble_eq_true rfl, Nat.le_of_ble_eq_true rfl⟩ ⟨Nat.le_of_ble_eq_true rfl, Nat.le_of_ble_eq_true rfl⟩ dL_law_625 (fun yv yq H locs hW hS => ?_)
  rw [re_ok hk]
  refine lv_goto (tgt := 632) hx hb dL_law_628 (by decide) ?_
  refine lv_istore (lv' := [(5, .int (RS nv nq (nI k))), (0, .ref b), (1, .ref d.1), (2, .int (nI 1)), (3, .int (nI k)), (4, .int (nI i))]) hx hb dL_law_632 hl (by decide) rfl (fun ls hl => ?_)
  refine lv_iload_n hx hb dL_law_634 rfl (lv_at hl 3 rfl) ?_
  refine lv_if_eq (tgt := 647) hx hb dL_law_635 (by decide) (fun z => False.elim ((show ¬ nI 1 = 0 by decide) z)) (fun _ => ?_)
  refine lv_aload_n hx hb dL_law_638 rfl (lv_at hl 2 rfl) ?_
  refine lv_bipush (v := nI 13) hx hb dL_law_639 (by decide) ?_
  refine k_count (rest := []) X hK hA hW hS hl.1 (Nat.le_of_ble_eq_true rfl) ⟨Nat.le_of_ble_eq_true rfl, Nat.le_of_ble_eq_true rfl⟩ ⟨Nat.le_of_ble_eq_true rfl, Nat.le_of_ble_eq_true rfl⟩ dL_law_641 (fun H locs hW hS => ?_)
  rw [cnt13]
  refine lv_goto (tgt := 648) hx hb dL_law_644 (by decide) ?_
  refine lv_istore (lv' := [(6, .int (nv 45)), (5, .int (RS nv nq (nI k))), (0, .ref b), (1, .ref d.1), (2, .int (nI 1)), (3, .int (nI k)), (4, .int (nI i))]) hx hb dL_law_648 hl (by decide) rfl (fun ls hl => ?_)
  refine lv_iload_n hx hb dL_law_650 rfl (lv_at hl 4 rfl) ?_
  refine lv_if_eq (tgt := 664) hx hb dL_law_651 (by decide) (fun z => False.elim ((show ¬ nI 1 = 0 by decide) z)) (fun _ => ?_)
  refine lv_aload_n hx hb dL_law_654 rfl (lv_at hl 3 rfl) ?_
  refine lv_iload hx hb dL_law_655 (lv_at hl 6 rfl) ?_
  refine lv_iload_n hx hb dL_law_657 rfl (lv_at hl 5 rfl) ?_
  refine k_start (rest := []) X hK hA hW hS h4 hl.1 (Nat.le_of_ble_eq_true rfl) ⟨Nat.le_of_ble_eq_true rfl, Nat.le_of_ble_eq_true rfl⟩ ⟨Nat.le_of_ble_eq_true rfl, Nat.le_of_ble_eq_true rfl⟩ dL_law_658 (fun yv yq hn' vs' qs' H locs hr hW hS => ?_)
  refine lv_goto (tgt := 665) hx hb dL_law_661 (by decide) ?_
  refine lv_istore (lv' := [(7, .int ((f_X2_startLoad nv nq yv yq (nI i) (nI k)).1)), (6, .int (nv 45)), (5, .int (RS nv nq (nI k))), (0, .ref b), (1, .ref d.1), (2, .int (nI 1)), (3, .int (nI k)), (4, .int (nI i))]) hx hb dL_law_665 hl (by decide) rfl (fun ls hl => ?_)
  exact kk yv yq hn' vs' qs' hr.2.2 H locs ls hW hS (lv_sub hl [3, 4, 5, 6, 7, 2, 1, 0] rfl)
set_option maxHeartbeats 4000000 in
theorem lg_667p {p : Program} {l : Launch} {e : Env} {s : State} {m : MethodId} {below : List Frame} {meth : Method} {c : Code} {b L : Nat} {xs : Nat → Int32} {G : GG} {d : AD} {nv nq : Nat → Int32} {hn : Nat} {vs qs : Nat → Nat → Int32} {k i : Nat} {q y6 : Int32} (C0 : lw_At p s m meth c b L xs) (X : Cx p s m #[Value.ref b] meth c cL_law 19 wsB RL ret) (hK : KN G s) (hA : ∀ q : Nat, s.heap.size ≤ q → (A0 s) q) (hLn : L ≤ 260) (hq : 0 < q) (hq2 : ¬ q = 0) (kk : KW p l e room_1 s m #[Value.ref b] below meth c 104 606 (lw_Z below #[Value.ref b] s) (A0 s) G d nv nq hn vs qs 19 752 [(0, .ref b), (1, .ref d.1), (2, .int (nI 1))] []) : KW p l e room_1 s m #[Value.ref b] below meth c 104 606 (lw_Z below #[Value.ref b] s) (A0 s) G d nv nq hn vs qs 19 667 [(0, .ref b), (1, .ref d.1), (2, .int (nI 1)), (3, .int (nI k)), (4, .int (nI i)), (5, .int q), (6, .int y6), (7, .int (-10 - q))] [] := by
  have hx := X.1
  have hb : c.code = cL_law := X.2.1
  intro H locs ls hW hS hl
  refine lv_iload_n hx hb dL_law_667 rfl (lv_at hl 2 rfl) ?_
  refine lv_if_eq (tgt := 750) hx hb dL_law_668 (by decide) (fun z => False.elim ((show ¬ nI 1 = 0 by decide) z)) (fun _ => ?_)
  refine lv_iload hx hb dL_law_671 (lv_at hl 7 rfl) ?_
  refine lv_iload hx hb dL_law_673 (lv_at hl 5 rfl) ?_
  refine lv_if_ne (tgt := 701) hx hb dL_law_675 (by decide) (fun _ => ?_) (fun z => False.elim (hq2 z))
  refine lv_bipush (v := (-10)) hx hb dL_law_701 (by decide) ?_
  refine lv_iload hx hb dL_law_703 (lv_at hl 5 rfl) ?_
  refine lv_isub hx hb dL_law_705 ?_
  refine lv_icmp_ne (tgt := 750) hx hb dL_law_706 (by decide) (fun z => False.elim (z rfl)) (fun _ => ?_)
  refine lv_iload hx hb dL_law_709 (lv_at hl 5 rfl) ?_
  refine lv_if_gt (tgt := 746) hx hb dL_law_711 (by decide) (fun _ => ?_) (fun z => False.elim (z hq))
  refine lv_iconst (v := nI 1) hx hb dL_law_746 (by decide) ?_
  refine lv_goto (tgt := 751) hx hb dL_law_747 (by decide) ?_
  refine lv_istore_n (lv' := [(2, .int (nI 1)), (0, .ref b), (1, .ref d.1), (3, .int (nI k)), (4, .int (nI i)), (5, .int q), (6, .int y6), (7, .int (-10 - q))]) hx hb dL_law_751 rfl hl (by decide) rfl (fun ls hl => ?_)
  exact kk H locs ls hW hS (lv_sub hl [1, 2, 0] rfl)
set_option maxHeartbeats 4000000 in
theorem lg_667z0 {p : Program} {l : Launch} {e : Env} {s : State} {m : MethodId} {below : List Frame} {meth : Method} {c : Code} {b L : Nat} {xs : Nat → Int32} {G : GG} {d : AD} {nv nq : Nat → Int32} {hn : Nat} {vs qs : Nat → Nat → Int32} {i : Nat} {y6 : Int32} {t : Int} (C0 : lw_At p s m meth c b L xs) (X : Cx p s m #[Value.ref b] meth c cL_law 19 wsB RL ret) (hK : KN G s) (hA : ∀ q : Nat, s.heap.size ≤ q → (A0 s) q) (hLn : L ≤ 260) (hI : Iv t nv) (h4 : hn ≤ 4) (ht : t ≤ 90000) (hi : i < 4) (h13 : (NN 4 nv nq).1 (13 + i) = -5) (h45 : (NN 4 nv nq).1 45 = y6) (hw : ∀ d, d ≤ 36 → (NN 4 nv nq).1 41 = nv 41 + nI d → 0 < nI d) (kk : ∀ (hn' : Nat) (vs' qs' : Nat → Nat → Int32), hn' ≤ 4 → KW p l e room_1 s m #[Value.ref b] below meth c 104 606 (lw_Z below #[Value.ref b] s) (A0 s) G d ((NN 4 nv nq).1) ((NN 4 nv nq).2) hn' vs' qs' 19 752 [(0, .ref b), (1, .ref d.1), (2, .int (nI 1))] []) : KW p l e room_1 s m #[Value.ref b] below meth c 104 606 (lw_Z below #[Value.ref b] s) (A0 s) G d nv nq hn vs qs 19 667 [(0, .ref b), (1, .ref d.1), (2, .int (nI 1)), (3, .int (nI 0)), (4, .int (nI i)), (5, .int (nI 0)), (6, .int y6), (7, .int (nI 4))] [] := by
  have hx := X.1
  have hb : c.code = cL_law := X.2.1
  intro H locs ls hW hS hl
  refine lv_iload_n hx hb dL_law_667 rfl (lv_at hl 2 rfl) ?_
  refine lv_if_eq (tgt := 750) hx hb dL_law_668 (by decide) (fun z => False.elim ((show ¬ nI 1 = 0 by decide) z)) (fun _ => ?_)
  refine lv_iload hx hb dL_law_671 (lv_at hl 7 rfl) ?_
  refine lv_iload hx hb dL_law_673 (lv_at hl 5 rfl) ?_
  refine lv_if_ne (tgt := 701) hx hb dL_law_675 (by decide) (fun z => False.elim (z rfl)) (fun _ => ?_)
  refine lv_iload_n hx hb dL_law_678 rfl (lv_at hl 3 rfl) ?_
  refine lv_if_ne (tgt := 686) hx hb dL_law_679 (by decide) (fun z => False.elim (z rfl)) (fun _ => ?_)
  refine lv_iconst (v := nI 4) hx hb dL_law_682 (by decide) ?_
  refine lv_goto (tgt := 706) hx hb dL_law_683 (by decide) ?_
  refine lv_icmp_ne (tgt := 750) hx hb dL_law_706 (by decide) (fun z => False.elim (z rfl)) (fun _ => ?_)
  refine lv_iload hx hb dL_law_709 (lv_at hl 5 rfl) ?_
  refine lv_if_gt (tgt := 746) hx hb dL_law_711 (by decide) (fun z => False.elim (absurd z (by decide))) (fun _ => ?_)
  refine lv_aload_n hx hb dL_law_714 rfl (lv_at hl 1 rfl) ?_
  refine lv_iload hx hb dL_law_715 (lv_at hl 7 rfl) ?_
  refine k_run (rest := []) X hK hA hW hS h4 hl.1 (Nat.le_of_ble_eq_true rfl) ⟨Nat.le_of_ble_eq_true rfl, Nat.le_of_ble_eq_true rfl⟩ ⟨Nat.le_of_ble_eq_true rfl, Nat.le_of_ble_eq_true rfl⟩ dL_law_717 (fun yv yq hn' vs' qs' H locs hr hW hS => ?_)
  obtain ⟨a, b1, dd, hd, e1, e2⟩ := lp_ok (m := 4) (q := nq) (ov := yv) (oq := yq) hI (by omega) (by omega) (by omega)
  rw [e1] at hr hW ⊢
  dsimp only at hr hW ⊢
  have hp : 0 < nI dd := hw dd (by omega) e2
  refine lv_if_le (tgt := 750) hx hb dL_law_720 (by decide) (fun z => False.elim (by
      have z : nI dd ≤ 0 := z
      rw [tL, t0] at z
      rw [tT, t0] at hp
      omega)) (fun _ => ?_)
  refine lv_aload_n hx hb dL_law_723 rfl (lv_at hl 1 rfl) ?_
  refine lv_iload hx hb dL_law_724 (lv_at hl 4 rfl) ?_
  refine lv_iconst (v := nI 0) hx hb dL_law_726 (by decide) ?_
  refine k_machine (rest := []) X hK hA hW hS hl.1 (Nat.le_of_ble_eq_true rfl) ⟨Nat.le_of_ble_eq_true rfl, Nat.le_of_ble_eq_true rfl⟩ ⟨Nat.le_of_ble_eq_true rfl, Nat.le_of_ble_eq_true rfl⟩ dL_law_727 (fun H locs hW hS => ?_)
  rw [mach0 hi, h13]
  refine lv_bipush (v := (-5)) hx hb dL_law_730 (by decide) ?_
  refine lv_icmp_ne (tgt := 750) hx hb dL_law_732 (by decide) (fun z => False.elim (z rfl)) (fun _ => ?_)
  refine lv_aload_n hx hb dL_law_735 rfl (lv_at hl 1 rfl) ?_
  refine lv_bipush (v := nI 13) hx hb dL_law_736 (by decide) ?_
  refine k_count (rest := []) X hK hA hW hS hl.1 (Nat.le_of_ble_eq_true rfl) ⟨Nat.le_of_ble_eq_true rfl, Nat.le_of_ble_eq_true rfl⟩ ⟨Nat.le_of_ble_eq_true rfl, Nat.le_of_ble_eq_true rfl⟩ dL_law_738 (fun H locs hW hS => ?_)
  rw [cnt13, h45]
  refine lv_iload hx hb dL_law_741 (lv_at hl 6 rfl) ?_
  refine lv_icmp_ne (tgt := 750) hx hb dL_law_743 (by decide) (fun z => False.elim (z rfl)) (fun _ => ?_)
  refine lv_iconst (v := nI 1) hx hb dL_law_746 (by decide) ?_
  refine lv_goto (tgt := 751) hx hb dL_law_747 (by decide) ?_
  refine lv_istore_n (lv' := [(2, .int (nI 1)), (0, .ref b), (1, .ref d.1), (3, .int (nI 0)), (4, .int (nI i)), (5, .int (nI 0)), (6, .int y6), (7, .int (nI 4))]) hx hb dL_law_751 rfl hl (by decide) rfl (fun ls hl => ?_)
  exact kk hn' vs' qs' hr.2.2 H locs ls hW hS (lv_sub hl [1, 2, 0] rfl)
set_option maxHeartbeats 4000000 in
theorem lg_667z1 {p : Program} {l : Launch} {e : Env} {s : State} {m : MethodId} {below : List Frame} {meth : Method} {c : Code} {b L : Nat} {xs : Nat → Int32} {G : GG} {d : AD} {nv nq : Nat → Int32} {hn : Nat} {vs qs : Nat → Nat → Int32} {i : Nat} {y6 : Int32} {t : Int} (C0 : lw_At p s m meth c b L xs) (X : Cx p s m #[Value.ref b] meth c cL_law 19 wsB RL ret) (hK : KN G s) (hA : ∀ q : Nat, s.heap.size ≤ q → (A0 s) q) (hLn : L ≤ 260) (hI : Iv t nv) (h4 : hn ≤ 4) (ht : t ≤ 90000) (hi : i < 4) (h13 : (NN 6 nv nq).1 (13 + i) = -5) (h45 : (NN 6 nv nq).1 45 = y6) (hw : ∀ d, d ≤ 36 → (NN 6 nv nq).1 41 = nv 41 + nI d → 0 < nI d) (kk : ∀ (hn' : Nat) (vs' qs' : Nat → Nat → Int32), hn' ≤ 4 → KW p l e room_1 s m #[Value.ref b] below meth c 104 606 (lw_Z below #[Value.ref b] s) (A0 s) G d ((NN 6 nv nq).1) ((NN 6 nv nq).2) hn' vs' qs' 19 752 [(0, .ref b), (1, .ref d.1), (2, .int (nI 1))] []) : KW p l e room_1 s m #[Value.ref b] below meth c 104 606 (lw_Z below #[Value.ref b] s) (A0 s) G d nv nq hn vs qs 19 667 [(0, .ref b), (1, .ref d.1), (2, .int (nI 1)), (3, .int (nI 1)), (4, .int (nI i)), (5, .int (nI 0)), (6, .int y6), (7, .int (nI 6))] [] := by
  have hx := X.1
  have hb : c.code = cL_law := X.2.1
  intro H locs ls hW hS hl
  refine lv_iload_n hx hb dL_law_667 rfl (lv_at hl 2 rfl) ?_
  refine lv_if_eq (tgt := 750) hx hb dL_law_668 (by decide) (fun z => False.elim ((show ¬ nI 1 = 0 by decide) z)) (fun _ => ?_)
  refine lv_iload hx hb dL_law_671 (lv_at hl 7 rfl) ?_
  refine lv_iload hx hb dL_law_673 (lv_at hl 5 rfl) ?_
  refine lv_if_ne (tgt := 701) hx hb dL_law_675 (by decide) (fun z => False.elim (z rfl)) (fun _ => ?_)
  refine lv_iload_n hx hb dL_law_678 rfl (lv_at hl 3 rfl) ?_
  refine lv_if_ne (tgt := 686) hx hb dL_law_679 (by decide) (fun _ => ?_) (fun z => False.elim (absurd z (by decide)))
  refine lv_iload_n hx hb dL_law_686 rfl (lv_at hl 3 rfl) ?_
  refine lv_iconst (v := nI 1) hx hb dL_law_687 (by decide) ?_
  refine lv_icmp_ne (tgt := 696) hx hb dL_law_688 (by decide) (fun z => False.elim (z rfl)) (fun _ => ?_)
  refine lv_bipush (v := nI 6) hx hb dL_law_691 (by decide) ?_
  refine lv_goto (tgt := 706) hx hb dL_law_693 (by decide) ?_
  refine lv_icmp_ne (tgt := 750) hx hb dL_law_706 (by decide) (fun z => False.elim (z rfl)) (fun _ => ?_)
  refine lv_iload hx hb dL_law_709 (lv_at hl 5 rfl) ?_
  refine lv_if_gt (tgt := 746) hx hb dL_law_711 (by decide) (fun z => False.elim (absurd z (by decide))) (fun _ => ?_)
  refine lv_aload_n hx hb dL_law_714 rfl (lv_at hl 1 rfl) ?_
  refine lv_iload hx hb dL_law_715 (lv_at hl 7 rfl) ?_
  refine k_run (rest := []) X hK hA hW hS h4 hl.1 (Nat.le_of_ble_eq_true rfl) ⟨Nat.le_of_ble_eq_true rfl, Nat.le_of_ble_eq_true rfl⟩ ⟨Nat.le_of_ble_eq_true rfl, Nat.le_of_ble_eq_true rfl⟩ dL_law_717 (fun yv yq hn' vs' qs' H locs hr hW hS => ?_)
  obtain ⟨a, b1, dd, hd, e1, e2⟩ := lp_ok (m := 6) (q := nq) (ov := yv) (oq := yq) hI (by omega) (by omega) (by omega)
  rw [e1] at hr hW ⊢
  dsimp only at hr hW ⊢
  have hp : 0 < nI dd := hw dd (by omega) e2
  refine lv_if_le (tgt := 750) hx hb dL_law_720 (by decide) (fun z => False.elim (by
      have z : nI dd ≤ 0 := z
      rw [tL, t0] at z
      rw [tT, t0] at hp
      omega)) (fun _ => ?_)
  refine lv_aload_n hx hb dL_law_723 rfl (lv_at hl 1 rfl) ?_
  refine lv_iload hx hb dL_law_724 (lv_at hl 4 rfl) ?_
  refine lv_iconst (v := nI 0) hx hb dL_law_726 (by decide) ?_
  refine k_machine (rest := []) X hK hA hW hS hl.1 (Nat.le_of_ble_eq_true rfl) ⟨Nat.le_of_ble_eq_true rfl, Nat.le_of_ble_eq_true rfl⟩ ⟨Nat.le_of_ble_eq_true rfl, Nat.le_of_ble_eq_true rfl⟩ dL_law_727 (fun H locs hW hS => ?_)
  rw [mach0 hi, h13]
  refine lv_bipush (v := (-5)) hx hb dL_law_730 (by decide) ?_
  refine lv_icmp_ne (tgt := 750) hx hb dL_law_732 (by decide) (fun z => False.elim (z rfl)) (fun _ => ?_)
  refine lv_aload_n hx hb dL_law_735 rfl (lv_at hl 1 rfl) ?_
  refine lv_bipush (v := nI 13) hx hb dL_law_736 (by decide) ?_
  refine k_count (rest := []) X hK hA hW hS hl.1 (Nat.le_of_ble_eq_true rfl) ⟨Nat.le_of_ble_eq_true rfl, Nat.le_of_ble_eq_true rfl⟩ ⟨Nat.le_of_ble_eq_true rfl, Nat.le_of_ble_eq_true rfl⟩ dL_law_738 (fun H locs hW hS => ?_)
  rw [cnt13, h45]
  refine lv_iload hx hb dL_law_741 (lv_at hl 6 rfl) ?_
  refine lv_icmp_ne (tgt := 750) hx hb dL_law_743 (by decide) (fun z => False.elim (z rfl)) (fun _ => ?_)
  refine lv_iconst (v := nI 1) hx hb dL_law_746 (by decide) ?_
  refine lv_goto (tgt := 751) hx hb dL_law_747 (by decide) ?_
  refine lv_istore_n (lv' := [(2, .int (nI 1)), (0, .ref b), (1, .ref d.1), (3, .int (nI 1)), (4, .int (nI i)), (5, .int (nI 0)), (6, .int y6), (7, .int (nI 6))]) hx hb dL_law_751 rfl hl (by decide) rfl (fun ls hl => ?_)
  exact kk hn' vs' qs' hr.2.2 H locs ls hW hS (lv_sub hl [1, 2, 0] rfl)
set_option maxHeartbeats 4000000 in
theorem lg_667z2 {p : Program} {l : Launch} {e : Env} {s : State} {m : MethodId} {below : List Frame} {meth : Method} {c : Code} {b L : Nat} {xs : Nat → Int32} {G : GG} {d : AD} {nv nq : Nat → Int32} {hn : Nat} {vs qs : Nat → Nat → Int32} {i : Nat} {y6 : Int32} {t : Int} (C0 : lw_At p s m meth c b L xs) (X : Cx p s m #[Value.ref b] meth c cL_law 19 wsB RL ret) (hK : KN G s) (hA : ∀ q : Nat, s.heap.size ≤ q → (A0 s) q) (hLn : L ≤ 260) (hI : Iv t nv) (h4 : hn ≤ 4) (ht : t ≤ 90000) (hi : i < 4) (h13 : (NN 9 nv nq).1 (13 + i) = -5) (h45 : (NN 9 nv nq).1 45 = y6) (hw : ∀ d, d ≤ 36 → (NN 9 nv nq).1 41 = nv 41 + nI d → 0 < nI d) (kk : ∀ (hn' : Nat) (vs' qs' : Nat → Nat → Int32), hn' ≤ 4 → KW p l e room_1 s m #[Value.ref b] below meth c 104 606 (lw_Z below #[Value.ref b] s) (A0 s) G d ((NN 9 nv nq).1) ((NN 9 nv nq).2) hn' vs' qs' 19 752 [(0, .ref b), (1, .ref d.1), (2, .int (nI 1))] []) : KW p l e room_1 s m #[Value.ref b] below meth c 104 606 (lw_Z below #[Value.ref b] s) (A0 s) G d nv nq hn vs qs 19 667 [(0, .ref b), (1, .ref d.1), (2, .int (nI 1)), (3, .int (nI 2)), (4, .int (nI i)), (5, .int (nI 0)), (6, .int y6), (7, .int (nI 9))] [] := by
  have hx := X.1
  have hb : c.code = cL_law := X.2.1
  intro H locs ls hW hS hl
  refine lv_iload_n hx hb dL_law_667 rfl (lv_at hl 2 rfl) ?_
  refine lv_if_eq (tgt := 750) hx hb dL_law_668 (by decide) (fun z => False.elim ((show ¬ nI 1 = 0 by decide) z)) (fun _ => ?_)
  refine lv_iload hx hb dL_law_671 (lv_at hl 7 rfl) ?_
  refine lv_iload hx hb dL_law_673 (lv_at hl 5 rfl) ?_
  refine lv_if_ne (tgt := 701) hx hb dL_law_675 (by decide) (fun z => False.elim (z rfl)) (fun _ => ?_)
  refine lv_iload_n hx hb dL_law_678 rfl (lv_at hl 3 rfl) ?_
  refine lv_if_ne (tgt := 686) hx hb dL_law_679 (by decide) (fun _ => ?_) (fun z => False.elim (absurd z (by decide)))
  refine lv_iload_n hx hb dL_law_686 rfl (lv_at hl 3 rfl) ?_
  refine lv_iconst (v := nI 1) hx hb dL_law_687 (by decide) ?_
  refine lv_icmp_ne (tgt := 696) hx hb dL_law_688 (by decide) (fun _ => ?_) (fun z => False.elim (absurd z (by decide)))
  refine lv_bipush (v := nI 9) hx hb dL_law_696 (by decide) ?_
  refine lv_goto (tgt := 706) hx hb dL_law_698 (by decide) ?_
  refine lv_icmp_ne (tgt := 750) hx hb dL_law_706 (by decide) (fun z => False.elim (z rfl)) (fun _ => ?_)
  refine lv_iload hx hb dL_law_709 (lv_at hl 5 rfl) ?_
  refine lv_if_gt (tgt := 746) hx hb dL_law_711 (by decide) (fun z => False.elim (absurd z (by decide))) (fun _ => ?_)
  refine lv_aload_n hx hb dL_law_714 rfl (lv_at hl 1 rfl) ?_
  refine lv_iload hx hb dL_law_715 (lv_at hl 7 rfl) ?_
  refine k_run (rest := []) X hK hA hW hS h4 hl.1 (Nat.le_of_ble_eq_true rfl) ⟨Nat.le_of_ble_eq_true rfl, Nat.le_of_ble_eq_true rfl⟩ ⟨Nat.le_of_ble_eq_true rfl, Nat.le_of_ble_eq_true rfl⟩ dL_law_717 (fun yv yq hn' vs' qs' H locs hr hW hS => ?_)
  obtain ⟨a, b1, dd, hd, e1, e2⟩ := lp_ok (m := 9) (q := nq) (ov := yv) (oq := yq) hI (by omega) (by omega) (by omega)
  rw [e1] at hr hW ⊢
  dsimp only at hr hW ⊢
  have hp : 0 < nI dd := hw dd (by omega) e2
  refine lv_if_le (tgt := 750) hx hb dL_law_720 (by decide) (fun z => False.elim (by
      have z : nI dd ≤ 0 := z
      rw [tL, t0] at z
      rw [tT, t0] at hp
      omega)) (fun _ => ?_)
  refine lv_aload_n hx hb dL_law_723 rfl (lv_at hl 1 rfl) ?_
  refine lv_iload hx hb dL_law_724 (lv_at hl 4 rfl) ?_
  refine lv_iconst (v := nI 0) hx hb dL_law_726 (by decide) ?_
  refine k_machine (rest := []) X hK hA hW hS hl.1 (Nat.le_of_ble_eq_true rfl) ⟨Nat.le_of_ble_eq_true rfl, Nat.le_of_ble_eq_true rfl⟩ ⟨Nat.le_of_ble_eq_true rfl, Nat.le_of_ble_eq_true rfl⟩ dL_law_727 (fun H locs hW hS => ?_)
  rw [mach0 hi, h13]
  refine lv_bipush (v := (-5)) hx hb dL_law_730 (by decide) ?_
  refine lv_icmp_ne (tgt := 750) hx hb dL_law_732 (by decide) (fun z => False.elim (z rfl)) (fun _ => ?_)
  refine lv_aload_n hx hb dL_law_735 rfl (lv_at hl 1 rfl) ?_
  refine lv_bipush (v := nI 13) hx hb dL_law_736 (by decide) ?_
  refine k_count (rest := []) X hK hA hW hS hl.1 (Nat.le_of_ble_eq_true rfl) ⟨Nat.le_of_ble_eq_true rfl, Nat.le_of_ble_eq_true rfl⟩ ⟨Nat.le_of_ble_eq_true rfl, Nat.le_of_ble_eq_true rfl⟩ dL_law_738 (fun H locs hW hS => ?_)
  rw [cnt13, h45]
  refine lv_iload hx hb dL_law_741 (lv_at hl 6 rfl) ?_
  refine lv_icmp_ne (tgt := 750) hx hb dL_law_743 (by decide) (fun z => False.elim (z rfl)) (fun _ => ?_)
  refine lv_iconst (v := nI 1) hx hb dL_law_746 (by decide) ?_
  refine lv_goto (tgt := 751) hx hb dL_law_747 (by decide) ?_
  refine lv_istore_n (lv' := [(2, .int (nI 1)), (0, .ref b), (1, .ref d.1), (3, .int (nI 2)), (4, .int (nI i)), (5, .int (nI 0)), (6, .int y6), (7, .int (nI 9))]) hx hb dL_law_751 rfl hl (by decide) rfl (fun ls hl => ?_)
  exact kk hn' vs' qs' hr.2.2 H locs ls hW hS (lv_sub hl [1, 2, 0] rfl)
set_option maxHeartbeats 4000000 in
theorem lg_752 {p : Program} {l : Launch} {e : Env} {s : State} {m : MethodId} {below : List Frame} {meth : Method} {c : Code} {b L : Nat} {xs : Nat → Int32} {G : GG} {d : AD} {nv nq : Nat → Int32} {hn : Nat} {vs qs : Nat → Nat → Int32}  (C0 : lw_At p s m meth c b L xs) (X : Cx p s m #[Value.ref b] meth c cL_law 19 wsB RL ret) (hK : KN G s) (hA : ∀ q : Nat, s.heap.size ≤ q → (A0 s) q) (hLn : L ≤ 260)  (kk : ∀ x : Nat, x < 36 → (∀ k, k < 36 → Bet (Aw nv nq) (Bw nv nq) x k) → KW p l e room_1 s m #[Value.ref b] below meth c 104 606 (lw_Z below #[Value.ref b] s) (A0 s) G d nv nq hn vs qs 19 825 [(0, .ref b), (1, .ref d.1), (2, .int (nI 1)), (8, .int (nI (10 * (x / 6) + x % 6))), (9, .int ((NN 20 (fir nv (nI (x / 6)) (nI (x % 6))) nq).1 41 - nv 41)), (10, .int ((NN 20 (fir nv (nI (x / 6)) (nI (x % 6))) nq).1 38 - nv 38)), (11, .int (nI 0))] []) : KW p l e room_1 s m #[Value.ref b] below meth c 104 606 (lw_Z below #[Value.ref b] s) (A0 s) G d nv nq hn vs qs 19 752 [(0, .ref b), (1, .ref d.1), (2, .int (nI 1))] [] := by
  have hx := X.1
  have hb : c.code = cL_law := X.2.1
  intro H locs ls hW hS hl
  refine lv_iload_n hx hb dL_law_752 rfl (lv_at hl 2 rfl) ?_
  refine lv_if_eq (tgt := 765) hx hb dL_law_753 (by decide) (fun z => False.elim ((show ¬ nI 1 = 0 by decide) z)) (fun _ => ?_)
  refine lv_aload_n hx hb dL_law_756 rfl (lv_at hl 1 rfl) ?_
  refine lv_bipush (v := nI 20) hx hb dL_law_757 (by decide) ?_
  refine k_bestFires (rest := []) X hK hA hW hS hl.1 (Nat.le_of_ble_eq_true rfl) ⟨Nat.le_of_ble_eq_true rfl, Nat.le_of_ble_eq_true rfl⟩ ⟨Nat.le_of_ble_eq_true rfl, Nat.le_of_ble_eq_true rfl⟩ dL_law_759 (fun av aq yv yq H locs hW hS => ?_)
  obtain ⟨x, hx36, ex, hB⟩ := be_ok (v := nv) (q := nq) (av := av) (aq := aq) (yv := yv) (yq := yq)
  rw [ex]
  have d1 : (10 * (x / 6) + x % 6) / 10 = x / 6 := by omega
  have d2 : (10 * (x / 6) + x % 6) % 10 = x % 6 := by omega
  have q1 : 0 ≤ (nI (x / 6)).toInt ∧ (nI (x / 6)).toInt ≤ 5 := by rw [nI_toInt (by omega)]; omega
  have q2 : 0 ≤ (nI (x % 6)).toInt ∧ (nI (x % 6)).toInt ≤ 5 := by rw [nI_toInt (by omega)]; omega
  refine lv_goto (tgt := 766) hx hb dL_law_762 (by decide) ?_
  refine lv_istore (lv' := [(8, .int (nI (10 * (x / 6) + x % 6))), (0, .ref b), (1, .ref d.1), (2, .int (nI 1))]) hx hb dL_law_766 hl (by decide) rfl (fun ls hl => ?_)
  refine lv_iload_n hx hb dL_law_768 rfl (lv_at hl 3 rfl) ?_
  refine lv_if_eq (tgt := 792) hx hb dL_law_769 (by decide) (fun z => False.elim ((show ¬ nI 1 = 0 by decide) z)) (fun _ => ?_)
  refine lv_aload_n hx hb dL_law_772 rfl (lv_at hl 2 rfl) ?_
  refine lv_iload hx hb dL_law_773 (lv_at hl 0 rfl) ?_
  refine lv_bipush (v := nI 10) hx hb dL_law_775 (by decide) ?_
  refine lv_idiv hx hb dL_law_777 (by decide) ?_
  rw [pk_div (a := (10 * (x / 6) + x % 6)) (d := 10) (by omega) (by omega) (by omega)]
  rw [d1]
  refine lv_iload hx hb dL_law_778 (lv_at hl 0 rfl) ?_
  refine lv_bipush (v := nI 10) hx hb dL_law_780 (by decide) ?_
  refine lv_irem hx hb dL_law_782 (by decide) ?_
  rw [pk_rem (a := (10 * (x / 6) + x % 6)) (d := 10) (by omega) (by omega) (by omega)]
  rw [d2]
  refine lv_bipush (v := nI 20) hx hb dL_law_783 (by decide) ?_
  refine lv_iconst (v := nI 0) hx hb dL_law_785 (by decide) ?_
  refine k_ifFires (rest := []) X hK hA hW hS hl.1 (Nat.le_of_ble_eq_true rfl) ⟨Nat.le_of_ble_eq_true rfl, Nat.le_of_ble_eq_true rfl⟩ ⟨Nat.le_of_ble_eq_true rfl, Nat.le_of_ble_eq_true rfl⟩ dL_law_786 (fun av aq yv yq H locs hW hS => ?_)
  rw [(if_ok (nv := nv) (nq := nq) (av := av) (aq := aq) (yv := yv) (yq := yq) (p0 := nI (x / 6)) (p1 := nI (x % 6)) (m := 20) q1 q2 (by omega) (by omega)).1]
  refine lv_goto (tgt := 793) hx hb dL_law_789 (by decide) ?_
  refine lv_istore (lv' := [(9, .int ((NN 20 (fir nv (nI (x / 6)) (nI (x % 6))) nq).1 41 - nv 41)), (8, .int (nI (10 * (x / 6) + x % 6))), (0, .ref b), (1, .ref d.1), (2, .int (nI 1))]) hx hb dL_law_793 hl (by decide) rfl (fun ls hl => ?_)
  refine lv_iload_n hx hb dL_law_795 rfl (lv_at hl 4 rfl) ?_
  refine lv_if_eq (tgt := 819) hx hb dL_law_796 (by decide) (fun z => False.elim ((show ¬ nI 1 = 0 by decide) z)) (fun _ => ?_)
  refine lv_aload_n hx hb dL_law_799 rfl (lv_at hl 3 rfl) ?_
  refine lv_iload hx hb dL_law_800 (lv_at hl 1 rfl) ?_
  refine lv_bipush (v := nI 10) hx hb dL_law_802 (by decide) ?_
  refine lv_idiv hx hb dL_law_804 (by decide) ?_
  rw [pk_div (a := (10 * (x / 6) + x % 6)) (d := 10) (by omega) (by omega) (by omega)]
  rw [d1]
  refine lv_iload hx hb dL_law_805 (lv_at hl 1 rfl) ?_
  refine lv_bipush (v := nI 10) hx hb dL_law_807 (by decide) ?_
  refine lv_irem hx hb dL_law_809 (by decide) ?_
  rw [pk_rem (a := (10 * (x / 6) + x % 6)) (d := 10) (by omega) (by omega) (by omega)]
  rw [d2]
  refine lv_bipush (v := nI 20) hx hb dL_law_810 (by decide) ?_
  refine lv_iconst (v := nI 2) hx hb dL_law_812 (by decide) ?_
  refine k_ifFires (rest := []) X hK hA hW hS hl.1 (Nat.le_of_ble_eq_true rfl) ⟨Nat.le_of_ble_eq_true rfl, Nat.le_of_ble_eq_true rfl⟩ ⟨Nat.le_of_ble_eq_true rfl, Nat.le_of_ble_eq_true rfl⟩ dL_law_813 (fun av aq yv yq H locs hW hS => ?_)
  rw [(if_ok (nv := nv) (nq := nq) (av := av) (aq := aq) (yv := yv) (yq := yq) (p0 := nI (x / 6)) (p1 := nI (x % 6)) (m := 20) q1 q2 (by omega) (by omega)).2.2]
  refine lv_goto (tgt := 820) hx hb dL_law_816 (by decide) ?_
  refine lv_istore (lv' := [(10, .int ((NN 20 (fir nv (nI (x / 6)) (nI (x % 6))) nq).1 38 - nv 38)), (9, .int ((NN 20 (fir nv (nI (x / 6)) (nI (x % 6))) nq).1 41 - nv 41)), (8, .int (nI (10 * (x / 6) + x % 6))), (0, .ref b), (1, .ref d.1), (2, .int (nI 1))]) hx hb dL_law_820 hl (by decide) rfl (fun ls hl => ?_)
  refine lv_iconst (v := nI 0) hx hb dL_law_822 (by decide) ?_
  refine lv_istore (lv' := [(11, .int (nI 0)), (10, .int ((NN 20 (fir nv (nI (x / 6)) (nI (x % 6))) nq).1 38 - nv 38)), (9, .int ((NN 20 (fir nv (nI (x / 6)) (nI (x % 6))) nq).1 41 - nv 41)), (8, .int (nI (10 * (x / 6) + x % 6))), (0, .ref b), (1, .ref d.1), (2, .int (nI 1))]) hx hb dL_law_823 hl (by decide) rfl (fun ls hl => ?_)
  exact kk x hx36 hB H locs ls hW hS (lv_sub hl [4, 5, 6, 3, 2, 1, 0] rfl)
set_option maxHeartbeats 4000000 in
theorem lg_825 {p : Program} {l : Launch} {e : Env} {s : State} {m : MethodId} {below : List Frame} {meth : Method} {c : Code} {b L : Nat} {xs : Nat → Int32} {G : GG} {d : AD} {nv nq : Nat → Int32} {hn : Nat} {vs qs : Nat → Nat → Int32} {k x : Nat} {t : Int} (C0 : lw_At p s m meth c b L xs) (X : Cx p s m #[Value.ref b] meth c cL_law 19 wsB RL ret) (hK : KN G s) (hA : ∀ q : Nat, s.heap.size ≤ q → (A0 s) q) (hLn : L ≤ 260) (hI : Iv t nv) (hL : Li nv nq) (ht : t ≤ 100000) (hk : k < 36) (hx36 : x < 36) (hB : Bet (Aw nv nq) (Bw nv nq) x k) (kk : KW p l e room_1 s m #[Value.ref b] below meth c 104 606 (lw_Z below #[Value.ref b] s) (A0 s) G d nv nq hn vs qs 19 825 [(0, .ref b), (1, .ref d.1), (2, .int (nI 1)), (8, .int (nI (10 * (x / 6) + x % 6))), (9, .int ((NN 20 (fir nv (nI (x / 6)) (nI (x % 6))) nq).1 41 - nv 41)), (10, .int ((NN 20 (fir nv (nI (x / 6)) (nI (x % 6))) nq).1 38 - nv 38)), (11, .int (nI (k + 1)))] []) : KW p l e room_1 s m #[Value.ref b] below meth c 104 606 (lw_Z below #[Value.ref b] s) (A0 s) G d nv nq hn vs qs 19 825 [(0, .ref b), (1, .ref d.1), (2, .int (nI 1)), (8, .int (nI (10 * (x / 6) + x % 6))), (9, .int ((NN 20 (fir nv (nI (x / 6)) (nI (x % 6))) nq).1 41 - nv 41)), (10, .int ((NN 20 (fir nv (nI (x / 6)) (nI (x % 6))) nq).1 38 - nv 38)), (11, .int (nI k))] [] := by
  have hx := X.1
  have hb : c.code = cL_law := X.2.1
  intro H locs ls hW hS hl
  have q1 : 0 ≤ (nI (k / 6)).toInt ∧ (nI (k / 6)).toInt ≤ 5 := by rw [nI_toInt (by omega)]; omega
  have q2 : 0 ≤ (nI (k % 6)).toInt ∧ (nI (k % 6)).toInt ≤ 5 := by rw [nI_toInt (by omega)]; omega
  have fk := fires_rng (a := k / 6) (b := k % 6) hI hL (by omega) (by omega) ht
  have fx := fires_rng (a := x / 6) (b := x % 6) hI hL (by omega) (by omega) ht
  obtain ⟨-, -, -, -, ⟨⟨w1, w2⟩, -⟩, ⟨u1, u2⟩, -, -⟩ := hI
  refine lv_iload hx hb dL_law_825 (lv_at hl 6 rfl) ?_
  refine lv_bipush (v := nI 36) hx hb dL_law_827 (by decide) ?_
  refine lv_icmp_ge (tgt := 933) hx hb dL_law_829 (by decide) (fun z => False.elim (by
      rw [nI_leI (by omega) (by omega)] at z
      omega)) (fun _ => ?_)
  refine lv_iload_n hx hb dL_law_832 rfl (lv_at hl 2 rfl) ?_
  refine lv_if_eq (tgt := 933) hx hb dL_law_833 (by decide) (fun z => False.elim ((show ¬ nI 1 = 0 by decide) z)) (fun _ => ?_)
  refine lv_aload_n hx hb dL_law_836 rfl (lv_at hl 1 rfl) ?_
  refine lv_iload hx hb dL_law_837 (lv_at hl 6 rfl) ?_
  refine lv_bipush (v := nI 6) hx hb dL_law_839 (by decide) ?_
  refine lv_idiv hx hb dL_law_841 (by decide) ?_
  rw [pk_div (a := k) (d := 6) (by omega) (by omega) (by omega)]
  refine lv_iload hx hb dL_law_842 (lv_at hl 6 rfl) ?_
  refine lv_bipush (v := nI 6) hx hb dL_law_844 (by decide) ?_
  refine lv_irem hx hb dL_law_846 (by decide) ?_
  rw [pk_rem (a := k) (d := 6) (by omega) (by omega) (by omega)]
  refine lv_bipush (v := nI 20) hx hb dL_law_847 (by decide) ?_
  refine lv_iconst (v := nI 0) hx hb dL_law_849 (by decide) ?_
  refine k_ifFires (rest := []) X hK hA hW hS hl.1 (Nat.le_of_ble_eq_true rfl) ⟨Nat.le_of_ble_eq_true rfl, Nat.le_of_ble_eq_true rfl⟩ ⟨Nat.le_of_ble_eq_true rfl, Nat.le_of_ble_eq_true rfl⟩ dL_law_850 (fun av aq yv yq H locs hW hS => ?_)
  rw [(if_ok (nv := nv) (nq := nq) (av := av) (aq := aq) (yv := yv) (yq := yq) (p0 := nI (k / 6)) (p1 := nI (k % 6)) (m := 20) q1 q2 (by omega) (by omega)).1]
  refine lv_istore (lv' := [(12, .int ((NN 20 (fir nv (nI (k / 6)) (nI (k % 6))) nq).1 41 - nv 41)), (0, .ref b), (1, .ref d.1), (2, .int (nI 1)), (8, .int (nI (10 * (x / 6) + x % 6))), (9, .int ((NN 20 (fir nv (nI (x / 6)) (nI (x % 6))) nq).1 41 - nv 41)), (10, .int ((NN 20 (fir nv (nI (x / 6)) (nI (x % 6))) nq).1 38 - nv 38)), (11, .int (nI k))]) hx hb dL_law_853 hl (by decide) rfl (fun ls hl => ?_)
  refine lv_aload_n hx hb dL_law_855 rfl (lv_at hl 2 rfl) ?_
  refine lv_iload hx hb dL_law_856 (lv_at hl 7 rfl) ?_
  refine lv_bipush (v := nI 6) hx hb dL_law_858 (by decide) ?_
  refine lv_idiv hx hb dL_law_860 (by decide) ?_
  rw [pk_div (a := k) (d := 6) (by omega) (by omega) (by omega)]
  refine lv_iload hx hb dL_law_861 (lv_at hl 7 rfl) ?_
  refine lv_bipush (v := nI 6) hx hb dL_law_863 (by decide) ?_
  refine lv_irem hx hb dL_law_865 (by decide) ?_
  rw [pk_rem (a := k) (d := 6) (by omega) (by omega) (by omega)]
  refine lv_bipush (v := nI 20) hx hb dL_law_866 (by decide) ?_
  refine lv_iconst (v := nI 2) hx hb dL_law_868 (by decide) ?_
  refine k_ifFires (rest := []) X hK hA hW hS hl.1 (Nat.le_of_ble_eq_true rfl) ⟨Nat.le_of_ble_eq_true rfl, Nat.le_of_ble_eq_true rfl⟩ ⟨Nat.le_of_ble_eq_true rfl, Nat.le_of_ble_eq_true rfl⟩ dL_law_869 (fun av aq yv yq H locs hW hS => ?_)
  rw [(if_ok (nv := nv) (nq := nq) (av := av) (aq := aq) (yv := yv) (yq := yq) (p0 := nI (k / 6)) (p1 := nI (k % 6)) (m := 20) q1 q2 (by omega) (by omega)).2.2]
  refine lv_istore (lv' := [(13, .int ((NN 20 (fir nv (nI (k / 6)) (nI (k % 6))) nq).1 38 - nv 38)), (12, .int ((NN 20 (fir nv (nI (k / 6)) (nI (k % 6))) nq).1 41 - nv 41)), (0, .ref b), (1, .ref d.1), (2, .int (nI 1)), (8, .int (nI (10 * (x / 6) + x % 6))), (9, .int ((NN 20 (fir nv (nI (x / 6)) (nI (x % 6))) nq).1 41 - nv 41)), (10, .int ((NN 20 (fir nv (nI (x / 6)) (nI (x % 6))) nq).1 38 - nv 38)), (11, .int (nI k))]) hx hb dL_law_872 hl (by decide) rfl (fun ls hl => ?_)
  have ek : ((NN 20 (fir nv (nI (k / 6)) (nI (k % 6))) nq).1 41 - nv 41).toInt = Aw nv nq k - (nv 41).toInt := tS (by omega) (by omega)
  have ex : ((NN 20 (fir nv (nI (x / 6)) (nI (x % 6))) nq).1 41 - nv 41).toInt = Aw nv nq x - (nv 41).toInt := tS (by omega) (by omega)
  have bk : ((NN 20 (fir nv (nI (k / 6)) (nI (k % 6))) nq).1 38 - nv 38).toInt = Bw nv nq k - (nv 38).toInt := tS (by omega) (by omega)
  have bx : ((NN 20 (fir nv (nI (x / 6)) (nI (x % 6))) nq).1 38 - nv 38).toInt = Bw nv nq x - (nv 38).toInt := tS (by omega) (by omega)
  rcases hB with hB | ⟨hB, hB2 | ⟨hB2, hB3⟩⟩
  · skip
    refine lv_iload hx hb dL_law_874 (lv_at hl 1 rfl) ?_
    refine lv_iload hx hb dL_law_876 (lv_at hl 6 rfl) ?_
    refine lv_icmp_lt (tgt := 921) hx hb dL_law_878 (by decide) (fun _ => ?_) (fun z => False.elim (z (by rw [tT, ek, ex]; omega)))
    refine lv_iconst (v := nI 1) hx hb dL_law_921 (by decide) ?_
    refine lv_goto (tgt := 926) hx hb dL_law_922 (by decide) ?_
    refine lv_istore_n (lv' := [(2, .int (nI 1)), (13, .int ((NN 20 (fir nv (nI (k / 6)) (nI (k % 6))) nq).1 38 - nv 38)), (12, .int ((NN 20 (fir nv (nI (k / 6)) (nI (k % 6))) nq).1 41 - nv 41)), (0, .ref b), (1, .ref d.1), (8, .int (nI (10 * (x / 6) + x % 6))), (9, .int ((NN 20 (fir nv (nI (x / 6)) (nI (x % 6))) nq).1 41 - nv 41)), (10, .int ((NN 20 (fir nv (nI (x / 6)) (nI (x % 6))) nq).1 38 - nv 38)), (11, .int (nI k))]) hx hb dL_law_926 rfl hl (by decide) rfl (fun ls hl => ?_)
    refine lv_iinc (v := nI (k + 1)) (lv' := [(11, .int (nI (k + 1))), (2, .int (nI 1)), (13, .int ((NN 20 (fir nv (nI (k / 6)) (nI (k % 6))) nq).1 38 - nv 38)), (12, .int ((NN 20 (fir nv (nI (k / 6)) (nI (k % 6))) nq).1 41 - nv 41)), (0, .ref b), (1, .ref d.1), (8, .int (nI (10 * (x / 6) + x % 6))), (9, .int ((NN 20 (fir nv (nI (x / 6)) (nI (x % 6))) nq).1 41 - nv 41)), (10, .int ((NN 20 (fir nv (nI (x / 6)) (nI (x % 6))) nq).1 38 - nv 38))]) hx hb dL_law_927 hl (k := 8) rfl (inc1 k) (by decide) rfl (fun ls hl => ?_)
    refine lv_goto (tgt := 825) hx hb dL_law_930 (by decide) ?_
    exact kk H locs ls hW hS (lv_sub hl [4, 5, 1, 6, 7, 8, 0] rfl)
  · skip
    refine lv_iload hx hb dL_law_874 (lv_at hl 1 rfl) ?_
    refine lv_iload hx hb dL_law_876 (lv_at hl 6 rfl) ?_
    refine lv_icmp_lt (tgt := 921) hx hb dL_law_878 (by decide) (fun z => False.elim (by
      rw [tT, ek, ex] at z
      omega)) (fun _ => ?_)
    refine lv_iload hx hb dL_law_881 (lv_at hl 1 rfl) ?_
    refine lv_iload hx hb dL_law_883 (lv_at hl 6 rfl) ?_
    refine lv_icmp_ne (tgt := 925) hx hb dL_law_885 (by decide) (fun z => False.elim (z (by rw [tE, ek, ex]; omega))) (fun _ => ?_)
    refine lv_iload hx hb dL_law_888 (lv_at hl 0 rfl) ?_
    refine lv_iload hx hb dL_law_890 (lv_at hl 7 rfl) ?_
    refine lv_icmp_gt (tgt := 921) hx hb dL_law_892 (by decide) (fun _ => ?_) (fun z => False.elim (z (by rw [tT, bk, bx]; omega)))
    refine lv_iconst (v := nI 1) hx hb dL_law_921 (by decide) ?_
    refine lv_goto (tgt := 926) hx hb dL_law_922 (by decide) ?_
    refine lv_istore_n (lv' := [(2, .int (nI 1)), (13, .int ((NN 20 (fir nv (nI (k / 6)) (nI (k % 6))) nq).1 38 - nv 38)), (12, .int ((NN 20 (fir nv (nI (k / 6)) (nI (k % 6))) nq).1 41 - nv 41)), (0, .ref b), (1, .ref d.1), (8, .int (nI (10 * (x / 6) + x % 6))), (9, .int ((NN 20 (fir nv (nI (x / 6)) (nI (x % 6))) nq).1 41 - nv 41)), (10, .int ((NN 20 (fir nv (nI (x / 6)) (nI (x % 6))) nq).1 38 - nv 38)), (11, .int (nI k))]) hx hb dL_law_926 rfl hl (by decide) rfl (fun ls hl => ?_)
    refine lv_iinc (v := nI (k + 1)) (lv' := [(11, .int (nI (k + 1))), (2, .int (nI 1)), (13, .int ((NN 20 (fir nv (nI (k / 6)) (nI (k % 6))) nq).1 38 - nv 38)), (12, .int ((NN 20 (fir nv (nI (k / 6)) (nI (k % 6))) nq).1 41 - nv 41)), (0, .ref b), (1, .ref d.1), (8, .int (nI (10 * (x / 6) + x % 6))), (9, .int ((NN 20 (fir nv (nI (x / 6)) (nI (x % 6))) nq).1 41 - nv 41)), (10, .int ((NN 20 (fir nv (nI (x / 6)) (nI (x % 6))) nq).1 38 - nv 38))]) hx hb dL_law_927 hl (k := 8) rfl (inc1 k) (by decide) rfl (fun ls hl => ?_)
    refine lv_goto (tgt := 825) hx hb dL_law_930 (by decide) ?_
    exact kk H locs ls hW hS (lv_sub hl [4, 5, 1, 6, 7, 8, 0] rfl)
  · skip
    refine lv_iload hx hb dL_law_874 (lv_at hl 1 rfl) ?_
    refine lv_iload hx hb dL_law_876 (lv_at hl 6 rfl) ?_
    refine lv_icmp_lt (tgt := 921) hx hb dL_law_878 (by decide) (fun z => False.elim (by
      rw [tT, ek, ex] at z
      omega)) (fun _ => ?_)
    refine lv_iload hx hb dL_law_881 (lv_at hl 1 rfl) ?_
    refine lv_iload hx hb dL_law_883 (lv_at hl 6 rfl) ?_
    refine lv_icmp_ne (tgt := 925) hx hb dL_law_885 (by decide) (fun z => False.elim (z (by rw [tE, ek, ex]; omega))) (fun _ => ?_)
    refine lv_iload hx hb dL_law_888 (lv_at hl 0 rfl) ?_
    refine lv_iload hx hb dL_law_890 (lv_at hl 7 rfl) ?_
    refine lv_icmp_gt (tgt := 921) hx hb dL_law_892 (by decide) (fun z => False.elim (by
      rw [tT, bk, bx] at z
      omega)) (fun _ => ?_)
    refine lv_iload hx hb dL_law_895 (lv_at hl 0 rfl) ?_
    refine lv_iload hx hb dL_law_897 (lv_at hl 7 rfl) ?_
    refine lv_icmp_ne (tgt := 925) hx hb dL_law_899 (by decide) (fun z => False.elim (z (by rw [tE, bk, bx]; omega))) (fun _ => ?_)
    refine lv_bipush (v := nI 10) hx hb dL_law_902 (by decide) ?_
    refine lv_iload hx hb dL_law_904 (lv_at hl 8 rfl) ?_
    refine lv_bipush (v := nI 6) hx hb dL_law_906 (by decide) ?_
    refine lv_idiv hx hb dL_law_908 (by decide) ?_
    rw [pk_div (a := k) (d := 6) (by omega) (by omega) (by omega)]
    refine lv_imul hx hb dL_law_909 ?_
    refine lv_iload hx hb dL_law_910 (lv_at hl 8 rfl) ?_
    refine lv_bipush (v := nI 6) hx hb dL_law_912 (by decide) ?_
    refine lv_irem hx hb dL_law_914 (by decide) ?_
    rw [pk_rem (a := k) (d := 6) (by omega) (by omega) (by omega)]
    refine lv_iadd hx hb dL_law_915 ?_
    refine lv_iload hx hb dL_law_916 (lv_at hl 5 rfl) ?_
    refine lv_icmp_lt (tgt := 925) hx hb dL_law_918 (by decide) (fun z => False.elim (by
      rw [pk_mul, nI_add, nI_ltI (by omega) (by omega)] at z
      omega)) (fun _ => ?_)
    refine lv_iconst (v := nI 1) hx hb dL_law_921 (by decide) ?_
    refine lv_goto (tgt := 926) hx hb dL_law_922 (by decide) ?_
    refine lv_istore_n (lv' := [(2, .int (nI 1)), (13, .int ((NN 20 (fir nv (nI (k / 6)) (nI (k % 6))) nq).1 38 - nv 38)), (12, .int ((NN 20 (fir nv (nI (k / 6)) (nI (k % 6))) nq).1 41 - nv 41)), (0, .ref b), (1, .ref d.1), (8, .int (nI (10 * (x / 6) + x % 6))), (9, .int ((NN 20 (fir nv (nI (x / 6)) (nI (x % 6))) nq).1 41 - nv 41)), (10, .int ((NN 20 (fir nv (nI (x / 6)) (nI (x % 6))) nq).1 38 - nv 38)), (11, .int (nI k))]) hx hb dL_law_926 rfl hl (by decide) rfl (fun ls hl => ?_)
    refine lv_iinc (v := nI (k + 1)) (lv' := [(11, .int (nI (k + 1))), (2, .int (nI 1)), (13, .int ((NN 20 (fir nv (nI (k / 6)) (nI (k % 6))) nq).1 38 - nv 38)), (12, .int ((NN 20 (fir nv (nI (k / 6)) (nI (k % 6))) nq).1 41 - nv 41)), (0, .ref b), (1, .ref d.1), (8, .int (nI (10 * (x / 6) + x % 6))), (9, .int ((NN 20 (fir nv (nI (x / 6)) (nI (x % 6))) nq).1 41 - nv 41)), (10, .int ((NN 20 (fir nv (nI (x / 6)) (nI (x % 6))) nq).1 38 - nv 38))]) hx hb dL_law_927 hl (k := 8) rfl (inc1 k) (by decide) rfl (fun ls hl => ?_)
    refine lv_goto (tgt := 825) hx hb dL_law_930 (by decide) ?_
    exact kk H locs ls hW hS (lv_sub hl [4, 5, 1, 6, 7, 8, 0] rfl)
theorem lg_825L {p : Program} {l : Launch} {e : Env} {s : State} {m : MethodId} {below : List Frame} {meth : Method} {c : Code} {b L : Nat} {xs : Nat → Int32} {G : GG} {d : AD} {nv nq : Nat → Int32} {hn : Nat} {vs qs : Nat → Nat → Int32} {x : Nat} {t : Int} (C0 : lw_At p s m meth c b L xs) (X : Cx p s m #[Value.ref b] meth c cL_law 19 wsB RL ret) (hK : KN G s) (hA : ∀ q : Nat, s.heap.size ≤ q → (A0 s) q) (hLn : L ≤ 260) (hI : Iv t nv) (hL : Li nv nq) (ht : t ≤ 100000) (hx36 : x < 36) (hB : ∀ k, k < 36 → Bet (Aw nv nq) (Bw nv nq) x k) (kk : KW p l e room_1 s m #[Value.ref b] below meth c 104 606 (lw_Z below #[Value.ref b] s) (A0 s) G d nv nq hn vs qs 19 825 [(0, .ref b), (1, .ref d.1), (2, .int (nI 1)), (8, .int (nI (10 * (x / 6) + x % 6))), (9, .int ((NN 20 (fir nv (nI (x / 6)) (nI (x % 6))) nq).1 41 - nv 41)), (10, .int ((NN 20 (fir nv (nI (x / 6)) (nI (x % 6))) nq).1 38 - nv 38)), (11, .int (nI 36))] []) : ∀ (f k : Nat), k + f = 36 → KW p l e room_1 s m #[Value.ref b] below meth c 104 606 (lw_Z below #[Value.ref b] s) (A0 s) G d nv nq hn vs qs 19 825 [(0, .ref b), (1, .ref d.1), (2, .int (nI 1)), (8, .int (nI (10 * (x / 6) + x % 6))), (9, .int ((NN 20 (fir nv (nI (x / 6)) (nI (x % 6))) nq).1 41 - nv 41)), (10, .int ((NN 20 (fir nv (nI (x / 6)) (nI (x % 6))) nq).1 38 - nv 38)), (11, .int (nI k))] []
  | 0, k, h => by
    have h : k = 36 := h
    subst h
    exact kk
  | f + 1, k, h => lg_825 C0 X hK hA hLn hI hL ht (by omega) hx36 (hB k (by omega)) (lg_825L C0 X hK hA hLn hI hL ht hx36 hB kk f (k + 1) (by omega))
set_option maxHeartbeats 4000000 in
theorem lg_825x {p : Program} {l : Launch} {e : Env} {s : State} {m : MethodId} {below : List Frame} {meth : Method} {c : Code} {b L : Nat} {xs : Nat → Int32} {G : GG} {d : AD} {nv nq : Nat → Int32} {hn : Nat} {vs qs : Nat → Nat → Int32} {x : Nat} {t : Int} (C0 : lw_At p s m meth c b L xs) (X : Cx p s m #[Value.ref b] meth c cL_law 19 wsB RL ret) (hK : KN G s) (hA : ∀ q : Nat, s.heap.size ≤ q → (A0 s) q) (hLn : L ≤ 260) (hI : Iv t nv) (hL : Li nv nq) (h4 : hn ≤ 4) (ht : t ≤ 90000) (kk : ∀ (hn' : Nat) (vs' qs' : Nat → Nat → Int32), hn' ≤ 4 → KW p l e room_1 s m #[Value.ref b] below meth c 104 606 (lw_Z below #[Value.ref b] s) (A0 s) G d nv nq hn' vs' qs' 19 983 [(0, .ref b), (1, .ref d.1), (2, .int (nI 1))] []) : KW p l e room_1 s m #[Value.ref b] below meth c 104 606 (lw_Z below #[Value.ref b] s) (A0 s) G d nv nq hn vs qs 19 825 [(0, .ref b), (1, .ref d.1), (2, .int (nI 1)), (8, .int (nI (10 * (x / 6) + x % 6))), (9, .int ((NN 20 (fir nv (nI (x / 6)) (nI (x % 6))) nq).1 41 - nv 41)), (10, .int ((NN 20 (fir nv (nI (x / 6)) (nI (x % 6))) nq).1 38 - nv 38)), (11, .int (nI 36))] [] := by
  have hx := X.1
  have hb : c.code = cL_law := X.2.1
  intro H locs ls hW hS hl
  refine lv_iload hx hb dL_law_825 (lv_at hl 6 rfl) ?_
  refine lv_bipush (v := nI 36) hx hb dL_law_827 (by decide) ?_
  refine lv_icmp_ge (tgt := 933) hx hb dL_law_829 (by decide) (fun _ => ?_) (fun z => False.elim (z (Int32.le_refl _)))
  refine lv_iload_n hx hb dL_law_933 rfl (lv_at hl 2 rfl) ?_
  refine lv_if_eq (tgt := 945) hx hb dL_law_934 (by decide) (fun z => False.elim ((show ¬ nI 1 = 0 by decide) z)) (fun _ => ?_)
  refine lv_aload_n hx hb dL_law_937 rfl (lv_at hl 1 rfl) ?_
  refine lv_iconst (v := nI 0) hx hb dL_law_938 (by decide) ?_
  refine k_count (rest := []) X hK hA hW hS hl.1 (Nat.le_of_ble_eq_true rfl) ⟨Nat.le_of_ble_eq_true rfl, Nat.le_of_ble_eq_true rfl⟩ ⟨Nat.le_of_ble_eq_true rfl, Nat.le_of_ble_eq_true rfl⟩ dL_law_939 (fun H locs hW hS => ?_)
  rw [cnt0]
  refine lv_goto (tgt := 946) hx hb dL_law_942 (by decide) ?_
  refine lv_istore (lv' := [(11, .int (nv 12)), (0, .ref b), (1, .ref d.1), (2, .int (nI 1)), (8, .int (nI (10 * (x / 6) + x % 6))), (9, .int ((NN 20 (fir nv (nI (x / 6)) (nI (x % 6))) nq).1 41 - nv 41)), (10, .int ((NN 20 (fir nv (nI (x / 6)) (nI (x % 6))) nq).1 38 - nv 38))]) hx hb dL_law_946 hl (by decide) rfl (fun ls hl => ?_)
  refine lv_iload_n hx hb dL_law_948 rfl (lv_at hl 3 rfl) ?_
  refine lv_if_eq (tgt := 981) hx hb dL_law_949 (by decide) (fun z => False.elim ((show ¬ nI 1 = 0 by decide) z)) (fun _ => ?_)
  refine lv_aload_n hx hb dL_law_952 rfl (lv_at hl 2 rfl) ?_
  refine lv_iconst (v := nI 1) hx hb dL_law_953 (by decide) ?_
  refine k_run (rest := []) X hK hA hW hS h4 hl.1 (Nat.le_of_ble_eq_true rfl) ⟨Nat.le_of_ble_eq_true rfl, Nat.le_of_ble_eq_true rfl⟩ ⟨Nat.le_of_ble_eq_true rfl, Nat.le_of_ble_eq_true rfl⟩ dL_law_954 (fun yv yq hn' vs' qs' H locs hr hW hS => ?_)
  obtain ⟨a, b1, dd, hd, e1, e2⟩ := lp_ok (m := 1) (q := nq) (ov := yv) (oq := yq) hI (by omega) (by omega) (by omega)
  rw [e1] at hr hW ⊢
  dsimp only at hr hW ⊢
  have nn : ¬ nI dd < 0 := nI_pos (by omega)
  obtain ⟨g1, g2, g3, g4⟩ := hr.2.1 nn
  refine lv_if_lt (tgt := 981) hx hb dL_law_957 (by decide) (fun z => False.elim (nn z)) (fun _ => ?_)
  refine lv_aload_n hx hb dL_law_960 rfl (lv_at hl 2 rfl) ?_
  refine k_undo (rest := []) X hK hA hW hS hr.2.2 hl.1 (Nat.le_of_ble_eq_true rfl) ⟨Nat.le_of_ble_eq_true rfl, Nat.le_of_ble_eq_true rfl⟩ ⟨Nat.le_of_ble_eq_true rfl, Nat.le_of_ble_eq_true rfl⟩ dL_law_961 (fun r u H locs hw hW hS => ?_)
  have hw := (undo_ok (a := (NN 1 nv nq).1) (b := (NN 1 nv nq).2) g2 g3 g4).symm.trans hw
  obtain ⟨rfl, rfl⟩ := Prod.mk.inj hw
  have hW : WD G (A0 s) d nv nq (hn' - 1) vs' qs' H := hW
  have h3 := hr.2.2
  refine lv_if_lt (tgt := 981) hx hb dL_law_964 (by decide) (fun z => False.elim (absurd z (nI_pos (by omega)))) (fun _ => ?_)
  refine lv_aload_n hx hb dL_law_967 rfl (lv_at hl 2 rfl) ?_
  refine lv_iconst (v := nI 0) hx hb dL_law_968 (by decide) ?_
  refine k_count (rest := []) X hK hA hW hS hl.1 (Nat.le_of_ble_eq_true rfl) ⟨Nat.le_of_ble_eq_true rfl, Nat.le_of_ble_eq_true rfl⟩ ⟨Nat.le_of_ble_eq_true rfl, Nat.le_of_ble_eq_true rfl⟩ dL_law_969 (fun H locs hW hS => ?_)
  rw [cnt0]
  refine lv_iload hx hb dL_law_972 (lv_at hl 0 rfl) ?_
  refine lv_icmp_ne (tgt := 981) hx hb dL_law_974 (by decide) (fun z => False.elim (z rfl)) (fun _ => ?_)
  refine lv_iconst (v := nI 1) hx hb dL_law_977 (by decide) ?_
  refine lv_goto (tgt := 982) hx hb dL_law_978 (by decide) ?_
  refine lv_istore_n (lv' := [(2, .int (nI 1)), (11, .int (nv 12)), (0, .ref b), (1, .ref d.1), (8, .int (nI (10 * (x / 6) + x % 6))), (9, .int ((NN 20 (fir nv (nI (x / 6)) (nI (x % 6))) nq).1 41 - nv 41)), (10, .int ((NN 20 (fir nv (nI (x / 6)) (nI (x % 6))) nq).1 38 - nv 38))]) hx hb dL_law_982 rfl hl (by decide) rfl (fun ls hl => ?_)
  exact kk (hn' - 1) vs' qs' (by omega) H locs ls hW hS (lv_sub hl [2, 3, 0] rfl)
set_option maxHeartbeats 4000000 in
theorem lg_983 {p : Program} {l : Launch} {e : Env} {s : State} {m : MethodId} {below : List Frame} {meth : Method} {c : Code} {b L : Nat} {xs : Nat → Int32} {G : GG} {d : AD} {nv nq : Nat → Int32} {hn : Nat} {vs qs : Nat → Nat → Int32} {t : Int} (C0 : lw_At p s m meth c b L xs) (X : Cx p s m #[Value.ref b] meth c cL_law 19 wsB RL ret) (hK : KN G s) (hA : ∀ q : Nat, s.heap.size ≤ q → (A0 s) q) (hLn : L ≤ 260) (hI : Iv t nv) (hL : Li nv nq) (h4 : hn ≤ 4) (ht : t ≤ 100000)  : KW p l e room_1 s m #[Value.ref b] below meth c 104 606 (lw_Z below #[Value.ref b] s) (A0 s) G d nv nq hn vs qs 19 983 [(0, .ref b), (1, .ref d.1), (2, .int (nI 1))] [] := by
  have hx := X.1
  have hb : c.code = cL_law := X.2.1
  intro H locs ls hW hS hl
  refine lv_iload_n hx hb dL_law_983 rfl (lv_at hl 2 rfl) ?_
  refine lv_if_eq (tgt := 1201) hx hb dL_law_984 (by decide) (fun z => False.elim ((show ¬ nI 1 = 0 by decide) z)) (fun _ => ?_)
  refine lv_aload_n hx hb dL_law_987 rfl (lv_at hl 1 rfl) ?_
  refine k_hangs (rest := []) C0 X hK hA hI (by omega) hL hW hS hl.1 (Nat.le_of_ble_eq_true rfl) dL_law_988 (fun H locs hW hS => ?_)
  refine lv_if_eq (tgt := 1201) hx hb dL_law_991 (by decide) (fun z => False.elim ((show ¬ nI 1 = 0 by decide) z)) (fun _ => ?_)
  refine lv_aload_n hx hb dL_law_994 rfl (lv_at hl 1 rfl) ?_
  refine lv_iconst (v := nI 2) hx hb dL_law_995 (by decide) ?_
  refine lv_bipush (v := nI 6) hx hb dL_law_996 (by decide) ?_
  refine k_setFire (rest := []) X hK hA hW hS h4 hl.1 (Nat.le_of_ble_eq_true rfl) ⟨Nat.le_of_ble_eq_true rfl, Nat.le_of_ble_eq_true rfl⟩ ⟨Nat.le_of_ble_eq_true rfl, Nat.le_of_ble_eq_true rfl⟩ dL_law_998 (fun hn1 vs1 qs1 H locs hr1 hW hS => ?_)
  rw [rf_cf1] at hr1 hW ⊢
  have hW : WD G (A0 s) d nv nq hn1 vs1 qs1 H := hW
  refine lv_iconst (v := (-1)) hx hb dL_law_1001 (by decide) ?_
  refine lv_icmp_ne (tgt := 1201) hx hb dL_law_1002 (by decide) (fun z => False.elim (z rfl)) (fun _ => ?_)
  refine lv_aload_n hx hb dL_law_1005 rfl (lv_at hl 1 rfl) ?_
  refine lv_iconst (v := nI 0) hx hb dL_law_1006 (by decide) ?_
  refine lv_bipush (v := nI 6) hx hb dL_law_1007 (by decide) ?_
  refine k_setFire (rest := []) X hK hA hW hS hr1.2.2 hl.1 (Nat.le_of_ble_eq_true rfl) ⟨Nat.le_of_ble_eq_true rfl, Nat.le_of_ble_eq_true rfl⟩ ⟨Nat.le_of_ble_eq_true rfl, Nat.le_of_ble_eq_true rfl⟩ dL_law_1009 (fun hn2 vs2 qs2 H locs hr2 hW hS => ?_)
  rw [rf_cf2] at hr2 hW ⊢
  have hW : WD G (A0 s) d nv nq hn2 vs2 qs2 H := hW
  refine lv_bipush (v := (-2)) hx hb dL_law_1012 (by decide) ?_
  refine lv_icmp_ne (tgt := 1201) hx hb dL_law_1014 (by decide) (fun z => False.elim (z rfl)) (fun _ => ?_)
  refine lv_aload_n hx hb dL_law_1017 rfl (lv_at hl 1 rfl) ?_
  refine lv_iconst (v := nI 0) hx hb dL_law_1018 (by decide) ?_
  refine lv_iconst (v := nI 0) hx hb dL_law_1019 (by decide) ?_
  refine k_fill (rest := []) X hK hA hW hS hr2.2.2 hl.1 (Nat.le_of_ble_eq_true rfl) ⟨Nat.le_of_ble_eq_true rfl, Nat.le_of_ble_eq_true rfl⟩ ⟨Nat.le_of_ble_eq_true rfl, Nat.le_of_ble_eq_true rfl⟩ dL_law_1020 (fun hn3 vs3 qs3 H locs hr3 hW hS => ?_)
  rw [rf_lw] at hr3 hW ⊢
  have hW : WD G (A0 s) d nv nq hn3 vs3 qs3 H := hW
  refine lv_bipush (v := (-2)) hx hb dL_law_1023 (by decide) ?_
  refine lv_icmp_ne (tgt := 1201) hx hb dL_law_1025 (by decide) (fun z => False.elim (z rfl)) (fun _ => ?_)
  refine lv_aload_n hx hb dL_law_1028 rfl (lv_at hl 1 rfl) ?_
  refine lv_sipush (v := nI 201) hx hb dL_law_1029 (by decide) ?_
  refine k_setRation (rest := []) X hK hA hW hS hr3.2.2 hl.1 (Nat.le_of_ble_eq_true rfl) ⟨Nat.le_of_ble_eq_true rfl, Nat.le_of_ble_eq_true rfl⟩ ⟨Nat.le_of_ble_eq_true rfl, Nat.le_of_ble_eq_true rfl⟩ dL_law_1032 (fun hn4 vs4 qs4 H locs hr4 hW hS => ?_)
  rw [rf_cr] at hr4 hW ⊢
  have hW : WD G (A0 s) d nv nq hn4 vs4 qs4 H := hW
  refine lv_bipush (v := (-2)) hx hb dL_law_1035 (by decide) ?_
  refine lv_icmp_ne (tgt := 1201) hx hb dL_law_1037 (by decide) (fun z => False.elim (z rfl)) (fun _ => ?_)
  refine lv_aload_n hx hb dL_law_1040 rfl (lv_at hl 1 rfl) ?_
  refine lv_iconst (v := nI 4) hx hb dL_law_1041 (by decide) ?_
  refine lv_iconst (v := nI 0) hx hb dL_law_1042 (by decide) ?_
  refine k_start (rest := []) X hK hA hW hS hr4.2.2 hl.1 (Nat.le_of_ble_eq_true rfl) ⟨Nat.le_of_ble_eq_true rfl, Nat.le_of_ble_eq_true rfl⟩ ⟨Nat.le_of_ble_eq_true rfl, Nat.le_of_ble_eq_true rfl⟩ dL_law_1043 (fun yv yq hn5 vs5 qs5 H locs hr5 hW hS => ?_)
  rw [rf_sl1] at hr5 hW ⊢
  have hW : WD G (A0 s) d nv nq hn5 vs5 qs5 H := hW
  refine lv_iconst (v := (-1)) hx hb dL_law_1046 (by decide) ?_
  refine lv_icmp_ne (tgt := 1201) hx hb dL_law_1047 (by decide) (fun z => False.elim (z rfl)) (fun _ => ?_)
  refine lv_aload_n hx hb dL_law_1050 rfl (lv_at hl 1 rfl) ?_
  refine lv_iconst (v := nI 0) hx hb dL_law_1051 (by decide) ?_
  refine lv_iconst (v := nI 3) hx hb dL_law_1052 (by decide) ?_
  refine k_start (rest := []) X hK hA hW hS hr5.2.2 hl.1 (Nat.le_of_ble_eq_true rfl) ⟨Nat.le_of_ble_eq_true rfl, Nat.le_of_ble_eq_true rfl⟩ ⟨Nat.le_of_ble_eq_true rfl, Nat.le_of_ble_eq_true rfl⟩ dL_law_1053 (fun yv yq hn6 vs6 qs6 H locs hr6 hW hS => ?_)
  rw [rf_sl2] at hr6 hW ⊢
  have hW : WD G (A0 s) d nv nq hn6 vs6 qs6 H := hW
  refine lv_iconst (v := (-1)) hx hb dL_law_1056 (by decide) ?_
  refine lv_icmp_ne (tgt := 1201) hx hb dL_law_1057 (by decide) (fun z => False.elim (z rfl)) (fun _ => ?_)
  refine lv_aload_n hx hb dL_law_1060 rfl (lv_at hl 1 rfl) ?_
  refine lv_iconst (v := nI 3) hx hb dL_law_1061 (by decide) ?_
  refine k_queue (rest := []) X hK hA hW hS hr6.2.2 hl.1 (Nat.le_of_ble_eq_true rfl) ⟨Nat.le_of_ble_eq_true rfl, Nat.le_of_ble_eq_true rfl⟩ ⟨Nat.le_of_ble_eq_true rfl, Nat.le_of_ble_eq_true rfl⟩ dL_law_1062 (fun hn7 vs7 qs7 H locs hr7 hW hS => ?_)
  rw [rf_al] at hr7 hW ⊢
  have hW : WD G (A0 s) d nv nq hn7 vs7 qs7 H := hW
  refine lv_iconst (v := (-1)) hx hb dL_law_1065 (by decide) ?_
  refine lv_icmp_ne (tgt := 1201) hx hb dL_law_1066 (by decide) (fun z => False.elim (z rfl)) (fun _ => ?_)
  refine lv_aload_n hx hb dL_law_1069 rfl (lv_at hl 1 rfl) ?_
  refine lv_bipush (v := nI 12) hx hb dL_law_1070 (by decide) ?_
  refine k_unqueue (rest := []) X hK hA hW hS hr7.2.2 hl.1 (Nat.le_of_ble_eq_true rfl) ⟨Nat.le_of_ble_eq_true rfl, Nat.le_of_ble_eq_true rfl⟩ ⟨Nat.le_of_ble_eq_true rfl, Nat.le_of_ble_eq_true rfl⟩ dL_law_1072 (fun hn8 vs8 qs8 H locs hr8 hW hS => ?_)
  rw [rf_rl hL] at hr8 hW ⊢
  have hW : WD G (A0 s) d nv nq hn8 vs8 qs8 H := hW
  refine lv_iconst (v := (-1)) hx hb dL_law_1075 (by decide) ?_
  refine lv_icmp_ne (tgt := 1201) hx hb dL_law_1076 (by decide) (fun z => False.elim (z rfl)) (fun _ => ?_)
  refine lv_aload_n hx hb dL_law_1079 rfl (lv_at hl 1 rfl) ?_
  refine lv_iconst (v := nI 4) hx hb dL_law_1080 (by decide) ?_
  refine k_takeOut (rest := []) X hK hA hW hS hr8.2.2 hl.1 (Nat.le_of_ble_eq_true rfl) ⟨Nat.le_of_ble_eq_true rfl, Nat.le_of_ble_eq_true rfl⟩ ⟨Nat.le_of_ble_eq_true rfl, Nat.le_of_ble_eq_true rfl⟩ dL_law_1081 (fun hn9 vs9 qs9 H locs hr9 hW hS => ?_)
  rw [rf_ul] at hr9 hW ⊢
  have hW : WD G (A0 s) d nv nq hn9 vs9 qs9 H := hW
  refine lv_iconst (v := (-1)) hx hb dL_law_1084 (by decide) ?_
  refine lv_icmp_ne (tgt := 1201) hx hb dL_law_1085 (by decide) (fun z => False.elim (z rfl)) (fun _ => ?_)
  refine lv_aload_n hx hb dL_law_1088 rfl (lv_at hl 1 rfl) ?_
  refine lv_sipush (v := nI 201) hx hb dL_law_1089 (by decide) ?_
  refine k_run (rest := []) X hK hA hW hS hr9.2.2 hl.1 (Nat.le_of_ble_eq_true rfl) ⟨Nat.le_of_ble_eq_true rfl, Nat.le_of_ble_eq_true rfl⟩ ⟨Nat.le_of_ble_eq_true rfl, Nat.le_of_ble_eq_true rfl⟩ dL_law_1092 (fun yv yq hn10 vs10 qs10 H locs hr10 hW hS => ?_)
  rw [rf_lp] at hr10 hW ⊢
  have hW : WD G (A0 s) d nv nq hn10 vs10 qs10 H := hW
  refine lv_bipush (v := (-2)) hx hb dL_law_1095 (by decide) ?_
  refine lv_icmp_ne (tgt := 1201) hx hb dL_law_1097 (by decide) (fun z => False.elim (z rfl)) (fun _ => ?_)
  refine lv_aload_n hx hb dL_law_1100 rfl (lv_at hl 1 rfl) ?_
  refine lv_iconst (v := nI 2) hx hb dL_law_1101 (by decide) ?_
  refine lv_iconst (v := nI 0) hx hb dL_law_1102 (by decide) ?_
  refine k_boiler (rest := []) X hK hA hW hS hl.1 (Nat.le_of_ble_eq_true rfl) ⟨Nat.le_of_ble_eq_true rfl, Nat.le_of_ble_eq_true rfl⟩ ⟨Nat.le_of_ble_eq_true rfl, Nat.le_of_ble_eq_true rfl⟩ dL_law_1103 (fun H locs hW hS => ?_)
  rw [rf_bo1]
  refine lv_iconst (v := (-1)) hx hb dL_law_1106 (by decide) ?_
  refine lv_icmp_ne (tgt := 1201) hx hb dL_law_1107 (by decide) (fun z => False.elim (z rfl)) (fun _ => ?_)
  refine lv_aload_n hx hb dL_law_1110 rfl (lv_at hl 1 rfl) ?_
  refine lv_iconst (v := nI 0) hx hb dL_law_1111 (by decide) ?_
  refine lv_iconst (v := nI 5) hx hb dL_law_1112 (by decide) ?_
  refine k_boiler (rest := []) X hK hA hW hS hl.1 (Nat.le_of_ble_eq_true rfl) ⟨Nat.le_of_ble_eq_true rfl, Nat.le_of_ble_eq_true rfl⟩ ⟨Nat.le_of_ble_eq_true rfl, Nat.le_of_ble_eq_true rfl⟩ dL_law_1113 (fun H locs hW hS => ?_)
  rw [rf_bo2]
  refine lv_bipush (v := (-2)) hx hb dL_law_1116 (by decide) ?_
  refine lv_icmp_ne (tgt := 1201) hx hb dL_law_1118 (by decide) (fun z => False.elim (z rfl)) (fun _ => ?_)
  refine lv_aload_n hx hb dL_law_1121 rfl (lv_at hl 1 rfl) ?_
  refine lv_iconst (v := nI 0) hx hb dL_law_1122 (by decide) ?_
  refine lv_iconst (v := nI 3) hx hb dL_law_1123 (by decide) ?_
  refine k_machine (rest := []) X hK hA hW hS hl.1 (Nat.le_of_ble_eq_true rfl) ⟨Nat.le_of_ble_eq_true rfl, Nat.le_of_ble_eq_true rfl⟩ ⟨Nat.le_of_ble_eq_true rfl, Nat.le_of_ble_eq_true rfl⟩ dL_law_1124 (fun H locs hW hS => ?_)
  rw [rf_ma]
  refine lv_bipush (v := (-2)) hx hb dL_law_1127 (by decide) ?_
  refine lv_icmp_ne (tgt := 1201) hx hb dL_law_1129 (by decide) (fun z => False.elim (z rfl)) (fun _ => ?_)
  refine lv_aload_n hx hb dL_law_1132 rfl (lv_at hl 1 rfl) ?_
  refine lv_iconst (v := (-1)) hx hb dL_law_1133 (by decide) ?_
  refine k_line (rest := []) X hK hA hW hS hl.1 (Nat.le_of_ble_eq_true rfl) ⟨Nat.le_of_ble_eq_true rfl, Nat.le_of_ble_eq_true rfl⟩ ⟨Nat.le_of_ble_eq_true rfl, Nat.le_of_ble_eq_true rfl⟩ dL_law_1134 (fun H locs hW hS => ?_)
  rw [rf_li]
  refine lv_bipush (v := (-2)) hx hb dL_law_1137 (by decide) ?_
  refine lv_icmp_ne (tgt := 1201) hx hb dL_law_1139 (by decide) (fun z => False.elim (z rfl)) (fun _ => ?_)
  refine lv_aload_n hx hb dL_law_1142 rfl (lv_at hl 1 rfl) ?_
  refine lv_iconst (v := nI 3) hx hb dL_law_1143 (by decide) ?_
  refine k_reason (rest := []) X hK hA hW hS hl.1 (Nat.le_of_ble_eq_true rfl) ⟨Nat.le_of_ble_eq_true rfl, Nat.le_of_ble_eq_true rfl⟩ ⟨Nat.le_of_ble_eq_true rfl, Nat.le_of_ble_eq_true rfl⟩ dL_law_1144 (fun yv yq H locs hW hS => ?_)
  rw [rf_re]
  refine lv_iconst (v := (-1)) hx hb dL_law_1147 (by decide) ?_
  refine lv_icmp_ne (tgt := 1201) hx hb dL_law_1148 (by decide) (fun z => False.elim (z rfl)) (fun _ => ?_)
  refine lv_aload_n hx hb dL_law_1151 rfl (lv_at hl 1 rfl) ?_
  refine lv_bipush (v := nI 6) hx hb dL_law_1152 (by decide) ?_
  refine lv_iconst (v := nI 0) hx hb dL_law_1154 (by decide) ?_
  refine lv_iconst (v := nI 1) hx hb dL_law_1155 (by decide) ?_
  refine lv_iconst (v := nI 0) hx hb dL_law_1156 (by decide) ?_
  refine k_ifFires (rest := []) X hK hA hW hS hl.1 (Nat.le_of_ble_eq_true rfl) ⟨Nat.le_of_ble_eq_true rfl, Nat.le_of_ble_eq_true rfl⟩ ⟨Nat.le_of_ble_eq_true rfl, Nat.le_of_ble_eq_true rfl⟩ dL_law_1157 (fun av aq yv yq H locs hW hS => ?_)
  rw [rf_if]
  refine lv_bipush (v := (-2)) hx hb dL_law_1160 (by decide) ?_
  refine lv_icmp_ne (tgt := 1201) hx hb dL_law_1162 (by decide) (fun z => False.elim (z rfl)) (fun _ => ?_)
  refine lv_aload_n hx hb dL_law_1165 rfl (lv_at hl 1 rfl) ?_
  refine lv_bipush (v := nI 101) hx hb dL_law_1166 (by decide) ?_
  refine k_bestFires (rest := []) X hK hA hW hS hl.1 (Nat.le_of_ble_eq_true rfl) ⟨Nat.le_of_ble_eq_true rfl, Nat.le_of_ble_eq_true rfl⟩ ⟨Nat.le_of_ble_eq_true rfl, Nat.le_of_ble_eq_true rfl⟩ dL_law_1168 (fun av aq yv yq H locs hW hS => ?_)
  rw [rf_be]
  refine lv_bipush (v := (-2)) hx hb dL_law_1171 (by decide) ?_
  refine lv_icmp_ne (tgt := 1201) hx hb dL_law_1173 (by decide) (fun z => False.elim (z rfl)) (fun _ => ?_)
  refine lv_aload_n hx hb dL_law_1176 rfl (lv_at hl 1 rfl) ?_
  refine lv_bipush (v := nI 16) hx hb dL_law_1177 (by decide) ?_
  refine k_count (rest := []) X hK hA hW hS hl.1 (Nat.le_of_ble_eq_true rfl) ⟨Nat.le_of_ble_eq_true rfl, Nat.le_of_ble_eq_true rfl⟩ ⟨Nat.le_of_ble_eq_true rfl, Nat.le_of_ble_eq_true rfl⟩ dL_law_1179 (fun H locs hW hS => ?_)
  rw [cnt16]
  refine lv_bipush (v := (-2)) hx hb dL_law_1182 (by decide) ?_
  refine lv_icmp_ne (tgt := 1201) hx hb dL_law_1184 (by decide) (fun z => False.elim (z rfl)) (fun _ => ?_)
  refine lv_aload_n hx hb dL_law_1187 rfl (lv_at hl 1 rfl) ?_
  refine lv_iconst (v := nI 2) hx hb dL_law_1188 (by decide) ?_
  refine k_stopped (rest := []) X hK hA hW hS hl.1 (Nat.le_of_ble_eq_true rfl) ⟨Nat.le_of_ble_eq_true rfl, Nat.le_of_ble_eq_true rfl⟩ ⟨Nat.le_of_ble_eq_true rfl, Nat.le_of_ble_eq_true rfl⟩ dL_law_1189 (fun H locs hW hS => ?_)
  rw [show f_X6_stopped (-5) (-5) (nI 2) = -2 from by decide]
  refine lv_bipush (v := (-2)) hx hb dL_law_1192 (by decide) ?_
  refine lv_icmp_ne (tgt := 1201) hx hb dL_law_1194 (by decide) (fun z => False.elim (z rfl)) (fun _ => ?_)
  refine lv_iconst (v := 1) hx hb dL_law_1197 (by decide) ?_
  refine lv_goto (tgt := 1202) hx hb dL_law_1198 (by decide) ?_
  refine va_forget (fun q hq => hS.2.2 q hq) ?_
  exact lw_ret hx hb X.2.2.1 X.2.2.2.2.2.2 dL_law_1202
set_option maxHeartbeats 4000000 in
theorem lg_end {p : Program} {l : Launch} {e : Env} {s : State} {m : MethodId} {below : List Frame} {meth : Method} {c : Code} {b L : Nat} {xs : Nat → Int32} {G : GG} {d : AD} {nv nq : Nat → Int32} {hn : Nat} {vs qs : Nat → Nat → Int32} {t : Int} (C0 : lw_At p s m meth c b L xs) (X : Cx p s m #[Value.ref b] meth c cL_law 19 wsB RL ret) (hK : KN G s) (hA : ∀ q : Nat, s.heap.size ≤ q → (A0 s) q) (hLn : L ≤ 260) (hI : Iv t nv) (hL : Li nv nq) (h4 : hn ≤ 4) (ht : t ≤ 80000) : KW p l e room_1 s m #[Value.ref b] below meth c 104 606 (lw_Z below #[Value.ref b] s) (A0 s) G d nv nq hn vs qs 19 752 [(0, .ref b), (1, .ref d.1), (2, .int (nI 1))] [] :=
  lg_752 C0 X hK hA hLn (fun x hx36 hB => lg_825L C0 X hK hA hLn hI hL (by omega) hx36 hB (lg_825x C0 X hK hA hLn hI hL h4 (by omega) (fun hn' vs' qs' h4' => lg_983 C0 X hK hA hLn hI hL h4' (by omega))) 36 0 (by omega))
theorem tkn {k : Nat} (hk : k < 3) : (k = 0 ∧ f_X6_ticksOf (nI k) = nI 4) ∨ (k = 1 ∧ f_X6_ticksOf (nI k) = nI 6) ∨ (k = 2 ∧ f_X6_ticksOf (nI k) = nI 9) := by
  rcases (show k = 0 ∨ k = 1 ∨ k = 2 by omega) with rfl | rfl | rfl
  · exact Or.inl ⟨rfl, by decide⟩
  · exact Or.inr (Or.inl ⟨rfl, by decide⟩)
  · exact Or.inr (Or.inr ⟨rfl, by decide⟩)
def mm (v : Nat → Int32) : Nat := if v (13 + 0) = -5 then 0 else if v (13 + 1) = -5 then 1 else if v (13 + 2) = -5 then 2 else if v (13 + 3) = -5 then 3 else 3
theorem mm_low {v : Nat → Int32} : (lds v = 4 ∧ mm v = 3 ∧ ¬ v (13 + 3) = -5) ∨ (lowI v = nI (mm v) ∧ mm v < 4 ∧ v (13 + mm v) = -5) := by
  have hl := lds_low (v := v)
  unfold mm lowI at *
  by_cases c0 : v 13 = -5
  · rw [if_pos c0, if_pos c0]
    exact Or.inr ⟨rfl, by omega, c0⟩
  · rw [if_neg c0] at hl
    rw [if_neg c0, if_neg c0]
    by_cases c1 : v 14 = -5
    · rw [if_pos c1, if_pos c1]
      exact Or.inr ⟨rfl, by omega, c1⟩
    · rw [if_neg c1] at hl
      rw [if_neg c1, if_neg c1]
      by_cases c2 : v 15 = -5
      · rw [if_pos c2, if_pos c2]
        exact Or.inr ⟨rfl, by omega, c2⟩
      · rw [if_neg c2] at hl
        rw [if_neg c2, if_neg c2]
        by_cases c3 : v 16 = -5
        · rw [if_pos c3, if_pos c3]
          exact Or.inr ⟨rfl, by omega, c3⟩
        · rw [if_neg c3] at hl
          rw [if_neg c3]
          exact Or.inl ⟨hl.mp (by decide), rfl, c3⟩
set_option maxHeartbeats 4000000 in
theorem lg_619all {p : Program} {l : Launch} {e : Env} {s : State} {m : MethodId} {below : List Frame} {meth : Method} {c : Code} {b L : Nat} {xs : Nat → Int32} {G : GG} {d : AD} {nv nq : Nat → Int32} {hn : Nat} {vs qs : Nat → Nat → Int32} {t : Int} {k : Nat} (C0 : lw_At p s m meth c b L xs) (X : Cx p s m #[Value.ref b] meth c cL_law 19 wsB RL ret) (hK : KN G s) (hA : ∀ q : Nat, s.heap.size ≤ q → (A0 s) q) (hLn : L ≤ 260) (hI : Iv t nv) (hL : Li nv nq) (h4 : hn ≤ 4) (h25 : nv 25 = nI 0) (ht : t ≤ 70000) (hk : k < 3) : KW p l e room_1 s m #[Value.ref b] below meth c 104 606 (lw_Z below #[Value.ref b] s) (A0 s) G d nv nq hn vs qs 19 619 [(0, .ref b), (1, .ref d.1), (2, .int (nI 1)), (3, .int (nI k)), (4, .int (nI (mm nv)))] [] := by
  refine lg_619 C0 X hK hA hLn h4 hk (fun yv yq hn' vs' qs' h4' => ?_)
  rcases mm_low (v := nv) with ⟨h1, h2, h3⟩ | ⟨h1, h2, h3⟩
  · have er := rs_full (v := nv) (q := nq) (K3_n hk) h1
    have es := sl_full (v := nv) (q := nq) (ov := yv) (oq := yq) (i := 3) (by omega) hk h3
    have a := sl_ok (ov := yv) (oq := yq) (p1 := nI k) (i := 3) hI hL (by omega)
    rw [h2, er, es, show (-11 : Int32) = -10 - nI 1 by decide]
    exact lg_667p C0 X hK hA hLn (by decide) (by decide) (lg_end C0 X hK hA hLn a.2.1 a.2.2 h4' (by omega))
  · obtain ⟨s1, s2⟩ := sl_val (v := nv) (q := nq) (ov := yv) (oq := yq) h2 hk h3
    have a := sl_ok (ov := yv) (oq := yq) (p1 := nI k) (i := mm nv) hI hL h2
    by_cases c : RS nv nq (nI k) = 0
    · obtain ⟨e1, e2⟩ := s1 c
      rw [e2] at a
      have c0 : RS nv nq (nI k) = nI 0 := c
      rw [e1, e2, c0]
      rcases tkn hk with ⟨ek, et⟩ | ⟨ek, et⟩ | ⟨ek, et⟩
      · obtain ⟨g1, g2, g3⟩ := clean_run (q' := nq) (n := 4) hI h25 h2 h1 h3 hk c et (by omega) (by omega) hL (by omega)
        obtain ⟨i1, i2⟩ := NN_iv 4 t _ nq a.2.1 a.2.2 (by omega)
        subst ek
        exact lg_667z0 C0 X hK hA hLn a.2.1 h4' (by omega) h2 g1 g2 g3 (fun hn2 vs2 qs2 h42 => lg_end C0 X hK hA hLn i1 i2 h42 (by omega))
      · obtain ⟨g1, g2, g3⟩ := clean_run (q' := nq) (n := 6) hI h25 h2 h1 h3 hk c et (by omega) (by omega) hL (by omega)
        obtain ⟨i1, i2⟩ := NN_iv 6 t _ nq a.2.1 a.2.2 (by omega)
        subst ek
        exact lg_667z1 C0 X hK hA hLn a.2.1 h4' (by omega) h2 g1 g2 g3 (fun hn2 vs2 qs2 h42 => lg_end C0 X hK hA hLn i1 i2 h42 (by omega))
      · obtain ⟨g1, g2, g3⟩ := clean_run (q' := nq) (n := 9) hI h25 h2 h1 h3 hk c et (by omega) (by omega) hL (by omega)
        obtain ⟨i1, i2⟩ := NN_iv 9 t _ nq a.2.1 a.2.2 (by omega)
        subst ek
        exact lg_667z2 C0 X hK hA hLn a.2.1 h4' (by omega) h2 g1 g2 g3 (fun hn2 vs2 qs2 h42 => lg_end C0 X hK hA hLn i1 i2 h42 (by omega))
    · rw [s2 c]
      have hp : 0 < RS nv nq (nI k) := by
        rcases rs_4 (v := nv) (q := nq) (K3_n hk) with e | e | e | e
        · exact absurd (e.trans nI0) c
        · rw [e]; decide
        · rw [e]; decide
        · rw [e]; decide
      exact lg_667p C0 X hK hA hLn hp c (lg_end C0 X hK hA hLn a.2.1 a.2.2 h4' (by omega))
set_option maxHeartbeats 4000000 in
theorem lg_570all {p : Program} {l : Launch} {e : Env} {s : State} {m : MethodId} {below : List Frame} {meth : Method} {c : Code} {b L : Nat} {xs : Nat → Int32} {G : GG} {d : AD} {nv nq : Nat → Int32} {hn : Nat} {vs qs : Nat → Nat → Int32} {t : Int} (C0 : lw_At p s m meth c b L xs) (X : Cx p s m #[Value.ref b] meth c cL_law 19 wsB RL ret) (hK : KN G s) (hA : ∀ q : Nat, s.heap.size ≤ q → (A0 s) q) (hLn : L ≤ 260) (hI : Iv t nv) (hL : Li nv nq) (h4 : hn ≤ 4) (h25 : nv 25 = nI 0) (ht : t ≤ 70000) : KW p l e room_1 s m #[Value.ref b] below meth c 104 606 (lw_Z below #[Value.ref b] s) (A0 s) G d nv nq hn vs qs 19 570 [(0, .ref b), (1, .ref d.1), (2, .int (nI 1))] [] :=
  lg_570 C0 X hK hA hLn (fun k hk => lg_585 C0 X hK hA hLn hI (i := 3) (by omega) (pk_m1 2) (lg_585 C0 X hK hA hLn hI (i := 2) (by omega) (pk_m1 1) (lg_585 C0 X hK hA hLn hI (i := 1) (by omega) (pk_m1 0) (lg_585 C0 X hK hA hLn hI (i := 0) (by omega) (show nI 0 + Int32.ofInt (-1) = -1 by decide) (lg_585x C0 X hK hA hLn (lg_619all C0 X hK hA hLn hI hL h4 h25 ht hk))))))
