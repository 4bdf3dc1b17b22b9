/-! the law ahead of its loop, and together -/
set_option maxHeartbeats 4000000 in
theorem lg_70 {p : Program} {l : Launch} {e : Env} {s : State} {m : MethodId} {below : List Frame} {meth : Method} {c : Code} {b L : Nat} {xs : Nat → Int32} {G : GG} {d : AD} {nv nq : Nat → Int32} {hn : Nat} {vs qs : Nat → Nat → Int32}  (C0 : lw_At p s m meth c b L xs) (X : Cx p s m #[Value.ref b] meth c cL_law 19 wsB RL ret) (hK : KN G s) (hA : ∀ q : Nat, s.heap.size ≤ q → (A0 s) q) (hLn : L ≤ 260) (hI : Iv 0 nv) (hL : Li nv nq) (h4 : hn ≤ 4) (h13 : ∀ i, i < 4 → nv (13 + i) = -5) (h25 : nv 25 = nI 0) (kk : ∀ (hn' : Nat) (vs' qs' : Nat → Nat → Int32), hn' ≤ 4 → KW p l e room_1 s m #[Value.ref b] below meth c 104 606 (lw_Z below #[Value.ref b] s) (A0 s) G d ((NN 5 nv nq).1) ((NN 5 nv nq).2) hn' vs' qs' 19 86 [(0, .ref b), (1, .ref d.1), (2, .int (nI 1)), (3, .int (nI 0))] []) : KW p l e room_1 s m #[Value.ref b] below meth c 104 606 (lw_Z below #[Value.ref b] s) (A0 s) G d nv nq hn vs qs 19 70 [(0, .ref b), (1, .ref d.1)] [] := by
  have hx := X.1
  have hb : c.code = cL_law := X.2.1
  intro H locs ls hW hS hl
  refine lv_aload_n hx hb dL_law_70 rfl (lv_at hl 1 rfl) ?_
  refine lv_iconst (v := nI 5) hx hb dL_law_71 (by decide) ?_
  refine k_run (rest := []) X hK hA hW hS h4 hl.1 (Nat.le_of_ble_eq_true rfl) ⟨Nat.le_of_ble_eq_true rfl, Nat.le_of_ble_eq_true rfl⟩ ⟨Nat.le_of_ble_eq_true rfl, Nat.le_of_ble_eq_true rfl⟩ dL_law_72 (fun yv yq hn' vs' qs' H locs hr hW hS => ?_)
  obtain ⟨a, b1, dd, hd, e1, e2⟩ := lp_ok (m := 5) (q := nq) (ov := yv) (oq := yq) hI (by omega) (by omega) (by omega)
  rw [e1] at hr hW ⊢
  dsimp only at hr hW ⊢
  have ez : nI dd = 0 := by
    rw [idle_NN 5 nv nq h13 h25] at e2
    have e3 := congrArg (fun z => z - nv 41) e2
    rw [Int32.sub_self, sub_self_add] at e3
    exact e3.symm
  refine lv_if_ne (tgt := 82) hx hb dL_law_75 (by decide) (fun z => False.elim (z ez)) (fun _ => ?_)
  refine lv_iconst (v := nI 1) hx hb dL_law_78 (by decide) ?_
  refine lv_goto (tgt := 83) hx hb dL_law_79 (by decide) ?_
  refine lv_istore_n (lv' := [(2, .int (nI 1)), (0, .ref b), (1, .ref d.1)]) hx hb dL_law_83 rfl hl (by decide) rfl (fun ls hl => ?_)
  refine lv_iconst (v := nI 0) hx hb dL_law_84 (by decide) ?_
  refine lv_istore_n (lv' := [(3, .int (nI 0)), (2, .int (nI 1)), (0, .ref b), (1, .ref d.1)]) hx hb dL_law_85 rfl hl (by decide) rfl (fun ls hl => ?_)
  exact kk hn' vs' qs' hr.2.2 H locs ls hW hS (lv_sub hl [2, 3, 1, 0] rfl)
set_option maxHeartbeats 4000000 in
theorem lg_8 {p : Program} {l : Launch} {e : Env} {s : State} {m : MethodId} {below : List Frame} {meth : Method} {c : Code} {b L : Nat} {xs : Nat → Int32} {G : GG} {d : AD} {nv nq : Nat → Int32} {hn : Nat} {vs qs : Nat → Nat → Int32}  (C0 : lw_At p s m meth c b L xs) (X : Cx p s m #[Value.ref b] meth c cL_law 19 wsB RL ret) (hK : KN G s) (hA : ∀ q : Nat, s.heap.size ≤ q → (A0 s) q) (hLn : L ≤ 260)  (kk : ∀ (hn' : Nat) (vs' qs' : Nat → Nat → Int32), hn' ≤ 4 → KW p l e room_1 s m #[Value.ref b] below meth c 104 606 (lw_Z below #[Value.ref b] s) (A0 s) G d (upd vI 0 (nI 3)) qI hn' vs' qs' 19 70 [(0, .ref b), (1, .ref d.1)] []) : KW p l e room_1 s m #[Value.ref b] below meth c 104 606 (lw_Z below #[Value.ref b] s) (A0 s) G d vI qI 0 vs qs 19 8 [(0, .ref b), (1, .ref d.1)] [] := by
  have hx := X.1
  have hb : c.code = cL_law := X.2.1
  intro H locs ls hW hS hl
  have h40 : (0 : Nat) ≤ 4 := by omega
  refine lv_aload_n hx hb dL_law_8 rfl (lv_at hl 1 rfl) ?_
  refine k_undo (rest := []) X hK hA hW hS h40 hl.1 (Nat.le_of_ble_eq_true rfl) ⟨Nat.le_of_ble_eq_true rfl, Nat.le_of_ble_eq_true rfl⟩ ⟨Nat.le_of_ble_eq_true rfl, Nat.le_of_ble_eq_true rfl⟩ dL_law_9 (fun r u H locs hw hW hS => ?_)
  have hw : ((-5 : Int32), vI, qI, (0 : Nat)) = (r, u) := hw
  obtain ⟨rfl, rfl⟩ := Prod.mk.inj hw
  have hW : WD G (A0 s) d vI qI 0 vs qs H := hW
  refine lv_bipush (v := (-5)) hx hb dL_law_12 (by decide) ?_
  refine lv_icmp_ne (tgt := 82) hx hb dL_law_14 (by decide) (fun z => False.elim (z rfl)) (fun _ => ?_)
  refine lv_aload_n hx hb dL_law_17 rfl (lv_at hl 1 rfl) ?_
  refine k_restore (rest := []) X hK hA hW hS h40 hl.1 (Nat.le_of_ble_eq_true rfl) ⟨Nat.le_of_ble_eq_true rfl, Nat.le_of_ble_eq_true rfl⟩ ⟨Nat.le_of_ble_eq_true rfl, Nat.le_of_ble_eq_true rfl⟩ dL_law_18 (fun H locs hW hS => ?_)
  refine lv_bipush (v := (-5)) hx hb dL_law_21 (by decide) ?_
  refine lv_icmp_ne (tgt := 82) hx hb dL_law_23 (by decide) (fun z => False.elim (z rfl)) (fun _ => ?_)
  refine lv_aload_n hx hb dL_law_26 rfl (lv_at hl 1 rfl) ?_
  refine lv_iconst (v := nI 0) hx hb dL_law_27 (by decide) ?_
  refine k_stopped (rest := []) X hK hA hW hS hl.1 (Nat.le_of_ble_eq_true rfl) ⟨Nat.le_of_ble_eq_true rfl, Nat.le_of_ble_eq_true rfl⟩ ⟨Nat.le_of_ble_eq_true rfl, Nat.le_of_ble_eq_true rfl⟩ dL_law_28 (fun H locs hW hS => ?_)
  rw [show f_X6_stopped (-5) (-5) (nI 0) = -5 from by decide]
  refine lv_bipush (v := (-5)) hx hb dL_law_31 (by decide) ?_
  refine lv_icmp_ne (tgt := 82) hx hb dL_law_33 (by decide) (fun z => False.elim (z rfl)) (fun _ => ?_)
  refine lv_aload_n hx hb dL_law_36 rfl (lv_at hl 1 rfl) ?_
  refine k_perform (rest := []) X hK hA hW hS h40 hl.1 (Nat.le_of_ble_eq_true rfl) ⟨Nat.le_of_ble_eq_true rfl, Nat.le_of_ble_eq_true rfl⟩ ⟨Nat.le_of_ble_eq_true rfl, Nat.le_of_ble_eq_true rfl⟩ dL_law_37 (fun H locs hW hS => ?_)
  refine lv_bipush (v := (-100)) hx hb dL_law_40 (by decide) ?_
  refine lv_icmp_ne (tgt := 82) hx hb dL_law_42 (by decide) (fun z => False.elim (z rfl)) (fun _ => ?_)
  refine lv_aload_n hx hb dL_law_45 rfl (lv_at hl 1 rfl) ?_
  refine lv_iconst (v := nI 0) hx hb dL_law_46 (by decide) ?_
  refine k_reason (rest := []) X hK hA hW hS hl.1 (Nat.le_of_ble_eq_true rfl) ⟨Nat.le_of_ble_eq_true rfl, Nat.le_of_ble_eq_true rfl⟩ ⟨Nat.le_of_ble_eq_true rfl, Nat.le_of_ble_eq_true rfl⟩ dL_law_47 (fun yv yq H locs hW hS => ?_)
  rw [(re_ok (k := 0) (by omega)).trans (rs_low (v := vI) (q := qI) (k := nI 0) (K3_n (by omega)) (by decide) (by decide))]
  refine lv_iconst (v := nI 2) hx hb dL_law_50 (by decide) ?_
  refine lv_icmp_ne (tgt := 82) hx hb dL_law_51 (by decide) (fun z => False.elim (z rfl)) (fun _ => ?_)
  refine lv_aload_n hx hb dL_law_54 rfl (lv_at hl 1 rfl) ?_
  refine k_doneIn (rest := []) X hK hA hW hS hl.1 (Nat.le_of_ble_eq_true rfl) ⟨Nat.le_of_ble_eq_true rfl, Nat.le_of_ble_eq_true rfl⟩ ⟨Nat.le_of_ble_eq_true rfl, Nat.le_of_ble_eq_true rfl⟩ dL_law_55 (fun yv yq H locs hW hS => ?_)
  refine lv_if_ne (tgt := 82) hx hb dL_law_58 (by decide) (fun z => False.elim (z (dn_ok.mpr ⟨by decide, by decide⟩))) (fun _ => ?_)
  refine lv_aload_n hx hb dL_law_61 rfl (lv_at hl 1 rfl) ?_
  refine lv_iconst (v := nI 0) hx hb dL_law_62 (by decide) ?_
  refine lv_iconst (v := nI 3) hx hb dL_law_63 (by decide) ?_
  refine k_setFire (rest := []) X hK hA hW hS h40 hl.1 (Nat.le_of_ble_eq_true rfl) ⟨Nat.le_of_ble_eq_true rfl, Nat.le_of_ble_eq_true rfl⟩ ⟨Nat.le_of_ble_eq_true rfl, Nat.le_of_ble_eq_true rfl⟩ dL_law_64 (fun hn' vs' qs' H locs hr hW hS => ?_)
  rw [show f_X2_changeFire vI (nI 0) (nI 3) = (0, upd vI 0 (nI 3)) from by unfold f_X2_changeFire; rw [if_pos rfl, if_neg (show ¬ f_X6_isWithin (nI 3) (nI 0) (nI 5) = 0 by decide), if_pos (show vI 6 ≤ 0 by decide), if_neg (show ¬ vI 0 = nI 3 by decide)]; rfl] at hr hW ⊢
  have hW : WD G (A0 s) d (upd vI 0 (nI 3)) qI hn' vs' qs' H := hW
  refine lv_if_ne (tgt := 82) hx hb dL_law_67 (by decide) (fun z => False.elim (z rfl)) (fun _ => ?_)
  exact kk hn' vs' qs' hr.2.2 H locs ls hW hS (lv_sub hl [0, 1] rfl)
theorem iv_3 : Iv 0 (upd vI 0 (nI 3)) ∧ Li (upd vI 0 (nI 3)) qI := by
  have h := cf_ok (p0 := nI 0) (p1 := nI 3) iv_0 li_0
  rw [show f_X2_changeFire vI (nI 0) (nI 3) = (0, upd vI 0 (nI 3)) from by unfold f_X2_changeFire; rw [if_pos rfl, if_neg (show ¬ f_X6_isWithin (nI 3) (nI 0) (nI 5) = 0 by decide), if_pos (show vI 6 ≤ 0 by decide), if_neg (show ¬ vI 0 = nI 3 by decide)]; rfl] at h
  exact h.2
set_option maxHeartbeats 4000000 in
theorem lg_all {p : Program} {l : Launch} {e : Env} {s : State} {m : MethodId} {below : List Frame} {meth : Method} {c : Code} {b L : Nat} {xs : Nat → Int32} {G : GG} {d : AD} {vs qs : Nat → Nat → Int32} (C0 : lw_At p s m meth c b L xs) (X : Cx p s m #[Value.ref b] meth c cL_law 19 wsB RL ret) (hK : KN G s) (hA : ∀ q : Nat, s.heap.size ≤ q → (A0 s) q) (hLn : L ≤ 260) : KW p l e room_1 s m #[Value.ref b] below meth c 104 606 (lw_Z below #[Value.ref b] s) (A0 s) G d vI qI 0 vs qs 19 8 [(0, .ref b), (1, .ref d.1)] [] := by
  have fin : ∀ (nv nq : Nat → Int32) (hn : Nat) (vs qs : Nat → Nat → Int32) (t : Int), t ≤ 3000 → Iv t nv → Li nv nq → hn ≤ 4 → KW p l e room_1 s m #[Value.ref b] below meth c 104 606 (lw_Z below #[Value.ref b] s) (A0 s) G d nv nq hn vs qs 19 86 [(0, .ref b), (1, .ref d.1), (2, .int (nI 1)), (3, .int (nI 24))] [] := by
    intro nv nq hn vs qs t ht hI hL h4
    obtain ⟨n, n12, h25, -⟩ := id hL
    exact lg_86x C0 X hK hA hLn (lg_531 C0 X hK hA hLn (t := t) (fun nv' nq' hn' vs' qs' hI' hL' h25' h4' => lg_570all C0 X hK hA hLn hI' hL' h4' h25' (by omega)) n 0 nv nq hn vs qs (by omega) hI hL h4 h25)
  refine lg_8 (nv := vI) (nq := qI) (hn := 0) C0 X hK hA hLn (fun hn' vs' qs' h4' => lg_70 C0 X hK hA hLn iv_3.1 iv_3.2 h4' (fun i hi => ?_) rfl (fun hn2 vs2 qs2 h42 => ?_))
  · rcases at4 hi with rfl | rfl | rfl | rfl <;> rfl
  · obtain ⟨g1, g2⟩ := NN_iv 5 0 _ _ iv_3.1 iv_3.2 (by omega)
    exact lg_loop C0 X hK hA hLn fin 24 0 (0 + (5 : Nat)) (0 + (5 : Nat)) (by omega) (by omega) _ _ hn2 vs2 qs2 (by omega) g1 g2 h42
