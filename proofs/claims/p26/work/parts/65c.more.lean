/-! what the law's rest needs of the numbers -/
theorem rf_cf1 {v : Nat → Int32} : f_X2_changeFire v (nI 2) (nI 6) = (-1, v) := by
  unfold f_X2_changeFire
  rw [if_neg (show ¬ nI 2 = nI 0 by decide), if_neg (show ¬ nI 2 = nI 1 by decide)]
theorem rf_cf2 {v : Nat → Int32} : f_X2_changeFire v (nI 0) (nI 6) = (-2, v) := by
  unfold f_X2_changeFire
  rw [if_pos rfl, if_pos (show f_X6_isWithin (nI 6) (nI 0) (nI 5) = 0 by decide)]
theorem rf_lw {v : Nat → Int32} : f_X2_letWaterIn v (nI 0) (nI 0) = (-2, v) := by
  unfold f_X2_letWaterIn
  rw [if_pos rfl, if_pos (show f_X6_isWithin (nI 0) (nI 1) (nI 200) = 0 by decide)]
theorem rf_cr {v : Nat → Int32} : f_X2_changeRation v (nI 201) = (-2, v) := by
  unfold f_X2_changeRation
  rw [if_pos (show f_X6_isWithin (nI 201) (nI 0) (nI 200) = 0 by decide)]
theorem rf_sl1 {v q a b : Nat → Int32} : f_X2_startLoad v q a b (nI 4) (nI 0) = (-1, v, a, b) := by
  unfold f_X2_startLoad
  rw [if_neg (show ¬ nI 4 = nI 0 by decide), if_neg (show ¬ nI 4 = nI 1 by decide), if_neg (show ¬ nI 4 = nI 2 by decide), if_neg (show ¬ nI 4 = nI 3 by decide)]
theorem rf_sl2 {v q a b : Nat → Int32} : f_X2_startLoad v q a b (nI 0) (nI 3) = (-1, v, a, b) := by
  unfold f_X2_startLoad
  rw [if_pos rfl, if_pos (show f_X6_isWithin (nI 3) (nI 0) (nI 2) = 0 by decide)]
theorem rf_al {v q : Nat → Int32} : f_X2_addToLine v q (nI 3) = (-1, v, q) := by
  unfold f_X2_addToLine
  rw [if_pos (show f_X6_isWithin (nI 3) (nI 0) (nI 2) = 0 by decide)]
theorem rf_rl {v q : Nat → Int32} (hL : Li v q) : f_X2_removeFromLine v q (nI 12) = (-1, v, q) := by
  obtain ⟨n, n12, hn, -⟩ := hL
  unfold f_X2_removeFromLine
  rw [hn, rem_out n12 n12 (by omega)]
  dsimp only
  rw [upd_id hn]
theorem rf_ul {v : Nat → Int32} : f_X2_unload v (nI 4) = (-1, v) := by
  unfold f_X2_unload
  rw [if_neg (show ¬ nI 4 = nI 0 by decide), if_neg (show ¬ nI 4 = nI 1 by decide), if_neg (show ¬ nI 4 = nI 2 by decide), if_neg (show ¬ nI 4 = nI 3 by decide)]
theorem rf_lp {v q a b : Nat → Int32} : f_X2_letPass v q a b (nI 201) = (-2, v, q, a, b) := by
  unfold f_X2_letPass
  rw [if_pos (show f_X6_isWithin (nI 201) (nI 1) (nI 200) = 0 by decide)]
theorem rf_bo1 {v : Nat → Int32} : f_X6_boiler v (nI 2) (nI 0) = -1 := by
  unfold f_X6_boiler
  rw [if_neg (show ¬ nI 2 = nI 0 by decide), if_neg (show ¬ nI 2 = nI 1 by decide)]
theorem rf_bo2 {v : Nat → Int32} : f_X6_boiler v (nI 0) (nI 5) = -2 := by
  unfold f_X6_boiler
  rw [if_pos rfl, if_neg (show ¬ nI 5 = nI 0 by decide), if_neg (show ¬ nI 5 = nI 1 by decide), if_neg (show ¬ nI 5 = nI 2 by decide), if_neg (show ¬ nI 5 = nI 3 by decide), if_neg (show ¬ nI 5 = nI 4 by decide)]
theorem rf_ma {v : Nat → Int32} : f_X6_machine v (nI 0) (nI 3) = -2 := by
  unfold f_X6_machine
  rw [if_pos rfl, if_neg (show ¬ nI 3 = nI 0 by decide), if_neg (show ¬ nI 3 = nI 1 by decide), if_neg (show ¬ nI 3 = nI 2 by decide)]
theorem rf_li {v q : Nat → Int32} : f_X6_line v q (-1) = -2 := by
  unfold f_X6_line
  rw [if_neg (show ¬ (0 : Int32) ≤ -1 by decide)]
theorem rf_re {v q a b : Nat → Int32} : (f_X6_reason v q a b (nI 3)).1 = -1 := by
  unfold f_X6_reason
  rw [if_pos (show f_X6_isWithin (nI 3) (nI 0) (nI 2) = 0 by decide)]
theorem rf_if {v q a b y z : Nat → Int32} : (f_X6_ifFires v q a b y z (nI 6) (nI 0) (nI 1) (nI 0)).1 = -2 := by
  unfold f_X6_ifFires
  rw [if_pos (show f_X6_isWithin (nI 6) (nI 0) (nI 5) = 0 by decide)]
theorem rf_be {v q a b y z : Nat → Int32} : (f_X6_bestFires v q a b y z (nI 101)).1 = -2 := by
  unfold f_X6_bestFires
  rw [if_pos (show f_X6_isWithin (nI 101) (nI 1) (nI 100) = 0 by decide)]
theorem undo_ok {a b nv nq : Nat → Int32} {hn : Nat} {vs qs : Nat → Nat → Int32} (h1 : 1 ≤ hn) (hv : vs (hn - 1) = nv) (hq : qs (hn - 1) = nq) : f_X6_undo a b hn vs qs = (nI (hn - 1), nv, nq, hn - 1) := by
  unfold f_X6_undo f_X1_takeBack
  rw [if_neg (by omega), hv, hq]
theorem rl_0 {v q : Nat → Int32} {n : Nat} (hn : n + 1 ≤ 12) (h25 : v 25 = nI (n + 1)) (hq : ∀ j, j < n + 1 → K3 (q j)) : ¬ (f_X2_removeFromLine v q (nI 0)).1 < 0 ∧ (f_X2_removeFromLine v q (nI 0)).2.1 25 = nI n := by
  obtain ⟨q', e, -⟩ := rem_ok (p := 0) hn (by omega) hq
  unfold f_X2_removeFromLine
  rw [h25, e]
  exact ⟨K3_0 (hq 0 (by omega)), show upd v 25 (nI (n + 1 - 1)) 25 = nI n from pk_us⟩
theorem nI_ex {x : Int32} (h : 0 ≤ x.toInt) : ∃ n : Nat, x = nI n ∧ (n : Int) = x.toInt := by
  obtain ⟨j, hj, e⟩ := nI_of (x := x) (by rw [tT, t0]; omega)
  exact ⟨j, e, by rw [e, nI_toInt hj]⟩
theorem MO.ml {v : Nat → Int32} {k l w : Nat} (h : MO (v k) (v l) (v w)) : ML v k l w := by
  rcases h with h | ⟨h1, ⟨h2, h3⟩, ⟨h4, h5⟩⟩
  · exact Or.inl h
  · obtain ⟨n, en, hn⟩ := nI_ex (x := v l) (by omega)
    obtain ⟨m, em, hm⟩ := nI_ex (x := v w) (by omega)
    have := tk_rng h1
    exact Or.inr ⟨h1, ⟨n, by omega, by omega, en⟩, ⟨m, by omega, em⟩⟩
theorem Iv.invL {t : Int} {v q : Nat → Int32} (h : Iv t v) (hL : Li v q) : InvL v q := by
  obtain ⟨⟨b0, b1⟩, hM, ⟨⟨hc, hr⟩, -⟩, -, -, -, -, -⟩ := h
  refine ⟨⟨⟨⟨hM.1.kd, hM.2.1.kd, hM.2.2.1.kd, hM.2.2.2.kd⟩, ⟨?_, ?_⟩, ⟨?_, ?_⟩, ⟨?_, ?_⟩, ?_⟩, ⟨hM.1.ml, hM.2.1.ml, hM.2.2.1.ml, hM.2.2.2.ml⟩⟩, hL⟩
  · rw [tL, t0]; exact b0.1.1
  · rw [tL, t0]; exact b1.1.1
  · rw [tL, t0]; exact b0.2.1.1
  · rw [tL, t0]; exact b1.2.1.1
  · rw [tL, t0]; exact hc.1
  · rw [tL, tn999]; exact hc.2
  · rw [tL, t0]; exact hr.1
theorem Iv.rb {t : Int} {B : Nat} {v : Nat → Int32} (h : Iv t v) (hB : t ≤ B) : RB B v := by
  obtain ⟨⟨b0, b1⟩, hM, -, -, hW, hU, h12, ht⟩ := h
  obtain ⟨n, en, hn⟩ := nI_ex (x := v 12) (by omega)
  obtain ⟨w, ew, hw⟩ := nI_ex (x := v 41) hW.1.1
  obtain ⟨c, ec, hc⟩ := nI_ex (x := v 38) hU.1
  have h1 := hW.1.2
  have h2 := hU.2
  refine ⟨⟨?_, ?_⟩, ⟨?_, ?_⟩, n, w, c, by omega, by omega, by omega, en, ew, ec⟩
  · rw [tL, show (nI 5).toInt = 5 by decide]; exact b0.1.2
  · rw [tL, show (nI 5).toInt = 5 by decide]; exact b1.1.2
  · rw [tL, tn200]; exact b0.2.1.2
  · rw [tL, tn200]; exact b1.2.1.2
theorem NX_L {v q : Nat → Int32} (h : InvL v q) : InvL (NX v q).1 (NX v q).2 := by
  obtain ⟨h1, n, n12, hn, hq⟩ := h.tick
  have e25 := hn
  unfold NX NXw
  generalize (f_X2_workTick v).2 = u at h1 e25 ⊢
  have same : InvL u q := ⟨h1, n, n12, e25, hq⟩
  rw [e25, kind0 n12]
  by_cases c0 : n = 0
  · rw [if_pos c0, if_pos rfl]
    exact same
  · rw [if_neg c0]
    have k0 := hq 0 (by omega)
    rw [if_neg (kd3 k0)]
    by_cases c1 : RS u q (q 0) = 0
    · rw [if_pos c1]
      by_cases c2 : lowI u < 0
      · rw [if_pos c2]
        exact same
      · rw [if_neg c2]
        obtain ⟨q', e, hq'⟩ := rem_ok (p := 0) n12 (by omega) hq
        rw [e]
        obtain ⟨i, hi, ei, e5⟩ := low_i c2
        rw [ei, nI_clamp (by omega)]
        dsimp only
        refine ⟨(h1.of25 (nI (n - 1))).put hi k0, n - 1, by omega, ?_, hq'⟩
        rw [putM_keep hi (by omega)]
        exact pk_us
    · rw [if_neg c1]
      exact same
theorem NN_rb : ∀ (n B : Nat) (v q : Nat → Int32), InvL v q → RB B v → RB (B + n) (NN n v q).1
  | 0, B, v, q, _, h => h
  | n + 1, B, v, q, hL, h => by
    have h1 : RB (B + 1) (NX v q).1 := by
      rw [← (pass_nx v q v q).1]
      exact h.pass hL.1.1
    rw [NN, show B + (n + 1) = B + 1 + n by omega]
    exact NN_rb n (B + 1) _ _ (NX_L hL) h1
theorem fires_rng {t : Int} {v q : Nat → Int32} {a b : Nat} (h : Iv t v) (hL : Li v q) (ha : a ≤ 5) (hb : b ≤ 5) (ht : t ≤ 100000) : (0 ≤ ((NN 20 (fir v (nI a) (nI b)) q).1 41).toInt ∧ ((NN 20 (fir v (nI a) (nI b)) q).1 41).toInt ≤ 100000000) ∧ (0 ≤ ((NN 20 (fir v (nI a) (nI b)) q).1 38).toInt ∧ ((NN 20 (fir v (nI a) (nI b)) q).1 38).toInt ≤ 100000000) := by
  have hR := NN_rb 20 100000 (fir v (nI a) (nI b)) q ((h.invL hL).fir (nI_ge0 (by omega)) (nI_ge0 (by omega))) ((h.rb (B := 100000) (by omega)).fir ha hb)
  obtain ⟨-, -, tt, w, c, g1, g2, g3, g4, g5, g6⟩ := hR
  rw [g5, g6, nI_toInt (by omega), nI_toInt (by omega)]
  omega
/-- nothing is washed where nothing is -/
theorem idle_tick {v : Nat → Int32} (h : ∀ i, i < 4 → v (13 + i) = -5) : (f_X2_workTick v).2 41 = v 41 ∧ ∀ i, i < 4 → (f_X2_workTick v).2 (13 + i) = -5 := by
  have hp : ∀ i, i < 4 → preW v (13 + i) = -5 := fun i hi => (preW_keep v (by omega) (by omega) (by omega) (by omega)).trans (h i hi)
  have p41 : preW v 41 = v 41 := preW_keep v (by decide) (by decide) (by decide) (by decide)
  rw [tick_eq]
  by_cases c : f_X2_need (preW v) ≤ f_X2_allPressure (preW v)
  · rw [if_pos c]
    dsimp only
    have hu : ∀ i, i < 4 → f_X2_takeSteam (preW v) (f_X2_need (preW v)) (13 + i) = -5 := fun i hi => (takeS_keep _ (by omega) (by omega)).trans (hp i hi)
    have u41 : f_X2_takeSteam (preW v) (f_X2_need (preW v)) 41 = v 41 := (takeS_keep _ (by omega) (by omega)).trans p41
    generalize f_X2_takeSteam (preW v) (f_X2_need (preW v)) = u at hu u41 ⊢
    have e0 : wm0 u = u := by unfold wm0; rw [if_pos (hu 0 (by omega))]
    have e1 : wm1 u = u := by unfold wm1; rw [if_pos (hu 1 (by omega))]
    have e2 : wm2 u = u := by unfold wm2; rw [if_pos (hu 2 (by omega))]
    have e3 : wm3 u = u := by unfold wm3; rw [if_pos (hu 3 (by omega))]
    rw [wl_eq, e0, e1, e2, e3]
    exact ⟨(coolC_keep _ (by decide)).trans u41, fun i hi => (coolC_keep _ (by omega)).trans (hu i hi)⟩
  · rw [if_neg c]
    dsimp only
    refine ⟨(coolC_keep _ (by decide)).trans ((hl_keep _ (by decide) (by decide) (by decide)).trans p41), fun i hi => (coolC_keep _ (by omega)).trans ?_⟩
    rcases at4 hi with rfl | rfl | rfl | rfl
    · exact (hl_0 _).1.trans (if_pos (hp 0 (by omega)))
    · exact (hl_1 _).1.trans (if_pos (hp 1 (by omega)))
    · exact (hl_2 _).1.trans (if_pos (hp 2 (by omega)))
    · exact (hl_3 _).1.trans (if_pos (hp 3 (by omega)))
theorem idle_NN : ∀ (n : Nat) (v q : Nat → Int32), (∀ i, i < 4 → v (13 + i) = -5) → v 25 = nI 0 → (NN n v q).1 41 = v 41
  | 0, v, q, _, _ => rfl
  | n + 1, v, q, h, h25 => by
    obtain ⟨h1, h2⟩ := idle_tick h
    have e25 := (tick_25 v).trans h25
    have eN : NX v q = ((f_X2_workTick v).2, q) := by
      unfold NX NXw
      rw [e25, kind0 (by omega), if_pos rfl, if_pos rfl]
    rw [NN, eN]
    dsimp only
    rw [idle_NN n _ q h2 e25, h1]
theorem iv_0 : Iv 0 vI := by
  have hb : BO 0 (nI 0) (nI 100) (nI 0) (nI 0) (nI 0) := ⟨by decide, by decide, by decide, by decide, by decide, Or.inl (by decide)⟩
  have hm : MO (-5) (nI 0) (nI 0) := MO.out
  exact ⟨⟨hb, hb⟩, ⟨hm, hm, hm, hm⟩, ⟨⟨⟨by decide, by decide⟩, ⟨by decide, by decide⟩⟩, by decide⟩, (show vI 40 = vI 41 + vI 42 + vI 43 + nI (lds vI) by decide), ⟨⟨by decide, by decide⟩, by decide, by decide⟩, ⟨by decide, by decide⟩, by decide, by decide⟩
theorem li_0 : Li vI qI := ⟨0, by omega, rfl, fun j hj => absurd hj (Nat.not_lt_zero _)⟩
