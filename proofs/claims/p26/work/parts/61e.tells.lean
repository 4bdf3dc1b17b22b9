/-! what is told of a state -/
theorem push_ok {hn : Nat} {xs : Nat → Nat → Nat} {vs qs : Nat → Nat → Int32} {v q : Nat → Int32} (h : hn ≤ 4) : (f_X1_push hn xs vs qs v q).1 = (if hn = 4 then 4 else hn + 1) ∧ (1 ≤ (f_X1_push hn xs vs qs v q).1 ∧ (f_X1_push hn xs vs qs v q).1 ≤ 4) ∧ (f_X1_push hn xs vs qs v q).2.2.1 ((f_X1_push hn xs vs qs v q).1 - 1) = v ∧ (f_X1_push hn xs vs qs v q).2.2.2 ((f_X1_push hn xs vs qs v q).1 - 1) = q := by
  unfold f_X1_push
  by_cases c : hn = 4
  · rw [if_pos c, if_pos c]
    exact ⟨rfl, ⟨by dsimp only; omega, by dsimp only; omega⟩, rfl, rfl⟩
  · rw [if_neg c, if_neg c]
    refine ⟨rfl, ⟨by dsimp only; omega, by dsimp only; omega⟩, ?_, ?_⟩
    · show (if hn + 1 - 1 = hn then v else vs (hn + 1 - 1)) = v
      rw [if_pos (by omega)]
    · show (if hn + 1 - 1 = hn then q else qs (hn + 1 - 1)) = q
      rw [if_pos (by omega)]
theorem dn_loop : ∀ (F i : Nat) (v q a b : Nat → Int32), 1 ≤ i → i ≤ 401 → 402 - i ≤ F → ¬ (s_X6_doneIn_13 F v q a b i).1 = 0
  | 0, i, v, q, a, b, _, h2, h3 => by omega
  | F + 1, i, v, q, a, b, h1, h2, h3 => by
    rw [s_X6_doneIn_13]
    by_cases c : nI 400 < nI i
    · rw [if_pos c]
      exact fun z => absurd z (show ¬ (-5 : Int32) = 0 by decide)
    · rw [if_neg c]
      rw [nI_ltI (by omega) (by omega)] at c
      by_cases d : f_X2_isIdle v = 0
      · rw [if_pos d]
        exact dn_loop F (i + 1) _ _ _ _ (by omega) (by omega) (by omega)
      · rw [if_neg d]
        exact fun z => by
          have := (nI_eq (a := i) (b := 0) (by omega) (by decide)).mp z
          omega
theorem dn_ok {v q a b : Nat → Int32} : (f_X6_doneIn v q a b).1 = 0 ↔ (v 25 = 0 ∧ f_X2_loadsInMachines v = 0) := by
  unfold f_X6_doneIn
  rw [s_X6_doneIn_13, if_neg (show ¬ nI 400 < nI 0 by decide)]
  by_cases d : f_X2_isIdle v = 0
  · rw [if_pos d]
    refine ⟨fun z => absurd z (dn_loop 401 1 _ _ _ _ (by omega) (by omega) (by omega)), fun z => ?_⟩
    exfalso
    unfold f_X2_isIdle at d
    rw [if_pos z.1, if_pos z.2] at d
    exact absurd d (by decide)
  · rw [if_neg d]
    refine ⟨fun _ => ?_, fun _ => rfl⟩
    unfold f_X2_isIdle at d
    by_cases e : v 25 = 0
    · rw [if_pos e] at d
      by_cases f : f_X2_loadsInMachines v = 0
      · exact ⟨e, f⟩
      · rw [if_neg f] at d
        exact absurd rfl d
    · rw [if_neg e] at d
      exact absurd rfl d
theorem lds_low {v : Nat → Int32} : lowI v < 0 ↔ lds v = 4 := by
  unfold lowI lds
  by_cases c0 : v 13 = -5
  · rw [if_pos c0, c0, ld_5]
    have h1 := ld_le (v 14)
    have h2 := ld_le (v 15)
    have h3 := ld_le (v 16)
    exact ⟨fun z => absurd z (by decide), fun z => by omega⟩
  · rw [if_neg c0, ld_k c0]
    by_cases c1 : v 14 = -5
    · rw [if_pos c1, c1, ld_5]
      have h2 := ld_le (v 15)
      have h3 := ld_le (v 16)
      exact ⟨fun z => absurd z (by decide), fun z => by omega⟩
    · rw [if_neg c1, ld_k c1]
      by_cases c2 : v 15 = -5
      · rw [if_pos c2, c2, ld_5]
        have h3 := ld_le (v 16)
        exact ⟨fun z => absurd z (by decide), fun z => by omega⟩
      · rw [if_neg c2, ld_k c2]
        by_cases c3 : v 16 = -5
        · rw [if_pos c3, c3, ld_5]
          exact ⟨fun z => absurd z (by decide), fun z => by omega⟩
        · rw [if_neg c3, ld_k c3]
          exact ⟨fun _ => rfl, fun _ => by decide⟩
theorem rs_why {v q : Nat → Int32} {k : Int32} (hk : K3 k) : RS v q k = whyV v (lowI v) k := by
  unfold RS
  exact rea_at hk
theorem rs_full {v q : Nat → Int32} {k : Int32} (hk : K3 k) (h : lds v = 4) : RS v q k = nI 1 := by
  rw [rs_why hk]
  unfold whyV
  rw [if_pos (lds_low.mpr h)]
theorem rs_low {v q : Nat → Int32} {k : Int32} (hk : K3 k) (h : ¬ lds v = 4) (hp : ¬ nI 10 ≤ f_X2_allPressure v) : RS v q k = nI 2 := by
  obtain ⟨i, hi, ei, e5⟩ := low_i (fun z => h (lds_low.mp z))
  rw [rs_why hk, rea_j hi ei e5, if_neg hp]
theorem rs_rest {v q : Nat → Int32} {k : Int32} (hk : K3 k) (h : ¬ lds v = 4) (hp : nI 10 ≤ f_X2_allPressure v) : RS v q k = nI 0 ∨ RS v q k = nI 3 := by
  obtain ⟨i, hi, ei, e5⟩ := low_i (fun z => h (lds_low.mp z))
  rw [rs_why hk, rea_j hi ei e5, if_pos hp]
  by_cases c : wIn (f_X6_ticksOf k).toNatClampNeg (putM v i k) = true
  · rw [if_pos c]
    exact Or.inr rfl
  · rw [if_neg c]
    exact Or.inl rfl
theorem rs_zero {v q : Nat → Int32} {k : Int32} {i : Nat} (hk : K3 k) (hi : i < 4) (ei : lowI v = nI i) (e5 : v (13 + i) = -5) (h : RS v q k = 0) : wIn (f_X6_ticksOf k).toNatClampNeg (putM v i k) = false := by
  rw [rs_why hk, rea_j hi ei e5] at h
  by_cases hp : nI 10 ≤ f_X2_allPressure v
  · rw [if_pos hp] at h
    cases c : wIn (f_X6_ticksOf k).toNatClampNeg (putM v i k)
    · rfl
    · rw [c, if_pos rfl] at h
      exact absurd h (by decide)
  · rw [if_neg hp] at h
    exact absurd h (by decide)
theorem rs_4 {v q : Nat → Int32} {k : Int32} (hk : K3 k) : RS v q k = nI 0 ∨ RS v q k = nI 1 ∨ RS v q k = nI 2 ∨ RS v q k = nI 3 := by
  rw [rs_why hk]
  exact whyV_4 _ _ _
theorem re_ok {v q a b : Nat → Int32} {k : Nat} (hk : k < 3) : (f_X6_reason v q a b (nI k)).1 = RS v q (nI k) := by
  unfold f_X6_reason
  rw [if_neg (K3_w hk)]
  exact rea_ind
/-! what other fires bring -/
theorem look_nn {v q a b : Nat → Int32} {p0 p1 : Int32} {m : Nat} (hm : m < 2 ^ 31) : (f_X6_lookAhead v q a b p0 p1 (nI m)).1 = (NN m (fir v p0 p1) q).1 := by
  rw [look_eq, nI_clamp hm]
  exact (passN_nn m _ q a b).1
theorem if_ok {nv nq av aq yv yq : Nat → Int32} {p0 p1 : Int32} {m : Nat} (h0 : 0 ≤ p0.toInt ∧ p0.toInt ≤ 5) (h1 : 0 ≤ p1.toInt ∧ p1.toInt ≤ 5) (m1 : 1 ≤ m) (m2 : m ≤ 200) : (f_X6_ifFires nv nq av aq yv yq p0 p1 (nI m) (nI 0)).1 = (NN m (fir nv p0 p1) nq).1 41 - nv 41 ∧ (f_X6_ifFires nv nq av aq yv yq p0 p1 (nI m) (nI 1)).1 = (NN m (fir nv p0 p1) nq).1 42 - nv 42 ∧ (f_X6_ifFires nv nq av aq yv yq p0 p1 (nI m) (nI 2)).1 = (NN m (fir nv p0 p1) nq).1 38 - nv 38 := by
  have hm : (nI m).toInt = m := nI_toInt (by omega)
  have w0 : ¬ f_X6_isWithin p0 (nI 0) (nI 5) = 0 := inw_r (by omega) (by decide) (by decide)
  have w1 : ¬ f_X6_isWithin p1 (nI 0) (nI 5) = 0 := inw_r (by omega) (by decide) (by decide)
  have w2 : ¬ f_X6_isWithin (nI m) (nI 1) (nI 200) = 0 := inw_r (by rw [hm]; omega) (by decide) (by decide)
  have e := look_nn (v := nv) (q := nq) (a := yv) (b := yq) (p0 := p0) (p1 := p1) (m := m) (by omega)
  rw [← e]
  unfold f_X6_ifFires
  rw [if_neg w0, if_neg w1, if_neg w2, if_neg w0, if_neg w1, if_neg w2, if_neg w0, if_neg w1, if_neg w2, if_neg (show ¬ f_X6_isWithin (nI 0) (nI 0) (nI 3) = 0 by decide), if_neg (show ¬ f_X6_isWithin (nI 1) (nI 0) (nI 3) = 0 by decide), if_neg (show ¬ f_X6_isWithin (nI 2) (nI 0) (nI 3) = 0 by decide)]
  generalize f_X6_lookAhead nv nq yv yq p0 p1 (nI m) = A
  obtain ⟨a1, a2, a3, a4⟩ := A
  refine ⟨?_, ?_, ?_⟩
  · dsimp only
    rw [if_pos rfl]
  · dsimp only
    rw [if_neg (show ¬ nI 1 = nI 0 by decide), if_pos rfl]
  · dsimp only
    rw [if_neg (show ¬ nI 2 = nI 0 by decide), if_neg (show ¬ nI 2 = nI 1 by decide), if_pos rfl]
theorem fir_same {v : Nat → Int32} : fir v (v 0) (v 1) = v := by
  unfold fir
  rw [upd_id (f := v) rfl, upd_id rfl]
def Aw (v q : Nat → Int32) (k : Nat) : Int := ((NN 20 (fir v (nI (k / 6)) (nI (k % 6))) q).1 41).toInt
def Bw (v q : Nat → Int32) (k : Nat) : Int := ((NN 20 (fir v (nI (k / 6)) (nI (k % 6))) q).1 38).toInt
def Bet (A B : Nat → Int) (x k : Nat) : Prop := A k < A x ∨ (A k = A x ∧ (B x < B k ∨ (B k = B x ∧ x ≤ k)))
def BeI (A B : Nat → Int) (p : Nat) (bb bm bl : Int32) : Prop := (p = 0 ∧ bb = -5) ∨ ∃ x, x < p ∧ bb = nI (10 * (x / 6) + x % 6) ∧ bm.toInt = A x ∧ bl.toInt = B x ∧ ∀ k, k < p → Bet A B x k
theorem bet_loop {v q : Nat → Int32} : ∀ (F i j : Nat) (av aq yv yq : Nat → Int32) (bb bm bl : Int32), i ≤ 5 → j ≤ 6 → (5 - i) * 7 + (7 - j) ≤ F → BeI (Aw v q) (Bw v q) (6 * i + j) bb bm bl → ∃ x, x < 36 ∧ (s_X6_bestFires_33 v q (nI 20) F av aq yv yq bb bm bl i j).1 = nI (10 * (x / 6) + x % 6) ∧ ∀ k, k < 36 → Bet (Aw v q) (Bw v q) x k
  | 0, i, j, av, aq, yv, yq, bb, bm, bl, hi, hj, hF, _ => by omega
  | F + 1, i, j, av, aq, yv, yq, bb, bm, bl, hi, hj, hF, hB => by
    by_cases hj5 : j ≤ 5
    · obtain ⟨B1, B2⟩ := best_c (nv := v) (nq := q) (av := av) (aq := aq) (yv := yv) (yq := yq) (p0 := nI 20) (bb := bb) (bm := bm) (bl := bl) (F := F) (i := i) (j := j) hj5
      have ea := look_nn (v := v) (q := q) (a := yv) (b := yq) (p0 := nI i) (p1 := nI j) (m := 20) (by omega)
      have d1 : (6 * i + j) / 6 = i := by omega
      have d2 : (6 * i + j) % 6 = j := by omega
      have eA : Aw v q (6 * i + j) = ((NN 20 (fir v (nI i) (nI j)) q).1 41).toInt := by unfold Aw; rw [d1, d2]
      have eB : Bw v q (6 * i + j) = ((NN 20 (fir v (nI i) (nI j)) q).1 38).toInt := by unfold Bw; rw [d1, d2]
      rw [← ea] at eA eB
      by_cases hb : Bt bb bm bl ((f_X6_lookAhead v q yv yq (nI i) (nI j) (nI 20)).1 41) ((f_X6_lookAhead v q yv yq (nI i) (nI j) (nI 20)).1 38)
      · rw [B1 hb]
        refine bet_loop F i (j + 1) _ _ _ _ _ _ _ hi (by omega) (by omega) (Or.inr ⟨6 * i + j, by omega, by rw [d1, d2], eA.symm, eB.symm, fun k hk => ?_⟩)
        by_cases ek : k = 6 * i + j
        · rw [ek]
          exact Or.inr ⟨rfl, Or.inr ⟨rfl, Nat.le_refl _⟩⟩
        · rcases hB with ⟨hp, -⟩ | ⟨x, hx, e1, e2, e3, hK⟩
          · omega
          · have hk2 := hK k (by omega)
            unfold Bet at hk2 ⊢
            rw [eA, eB]
            unfold Bt at hb
            rcases hb with hb | hb | ⟨hb, hc⟩
            · rw [e1] at hb
              exact absurd hb (n5 (by omega))
            · rw [tT] at hb
              omega
            · rw [tE] at hb
              rw [tL] at hc
              omega
      · rw [B2 hb]
        refine bet_loop F i (j + 1) _ _ _ _ _ _ _ hi (by omega) (by omega) ?_
        unfold Bt at hb
        rcases hB with ⟨hp, h5⟩ | ⟨x, hx, e1, e2, e3, hK⟩
        · exact absurd (Or.inl h5) hb
        · refine Or.inr ⟨x, by omega, e1, e2, e3, fun k hk => ?_⟩
          by_cases ek : k = 6 * i + j
          · rw [ek]
            unfold Bet
            rw [eA, eB]
            have n1 : ¬ bm < (f_X6_lookAhead v q yv yq (nI i) (nI j) (nI 20)).1 41 := fun z => hb (Or.inr (Or.inl z))
            rw [tT] at n1
            by_cases e4 : (f_X6_lookAhead v q yv yq (nI i) (nI j) (nI 20)).1 41 = bm
            · have n2 : bl ≤ (f_X6_lookAhead v q yv yq (nI i) (nI j) (nI 20)).1 38 := by
                by_cases z : bl ≤ (f_X6_lookAhead v q yv yq (nI i) (nI j) (nI 20)).1 38
                · exact z
                · exact absurd (Or.inr (Or.inr ⟨e4, z⟩)) hb
              rw [tL] at n2
              rw [tE] at e4
              omega
            · rw [tE] at e4
              omega
          · exact hK k (by omega)
    · have hj6 : j = 6 := by omega
      subst hj6
      rw [s_X6_bestFires_33, if_pos (show nI 5 < nI 6 by decide)]
      by_cases hi5 : i = 5
      · subst hi5
        rw [if_pos (show nI 5 < nI (5 + 1) by decide)]
        rcases hB with ⟨hp, -⟩ | ⟨x, hx, e1, e2, e3, hK⟩
        · omega
        · exact ⟨x, by omega, e1, fun k hk => hK k (by omega)⟩
      · rw [if_neg (fun z => by have := (nI_ltI (by omega) (by omega)).mp z; omega)]
        refine bet_loop F (i + 1) 0 _ _ _ _ _ _ _ (by omega) (by omega) (by omega) ?_
        rw [show 6 * (i + 1) + 0 = 6 * i + 6 by omega]
        exact hB
theorem be_ok {v q av aq yv yq : Nat → Int32} : ∃ x, x < 36 ∧ (f_X6_bestFires v q av aq yv yq (nI 20)).1 = nI (10 * (x / 6) + x % 6) ∧ ∀ k, k < 36 → Bet (Aw v q) (Bw v q) x k := by
  unfold f_X6_bestFires
  rw [if_neg (show ¬ f_X6_isWithin (nI 20) (nI 1) (nI 100) = 0 by decide)]
  exact bet_loop 42 0 0 av aq yv yq (-5) (nI 0) (nI 0) (by omega) (by omega) (by omega) (Or.inl ⟨rfl, rfl⟩)
/-! a load that can be started ends in its ticks -/
theorem tick_k0 {v : Nat → Int32} {j : Nat} (h : (f_X2_workTick v).1 = nI 0) (hj : j = 40 ∨ j = 42 ∨ j = 43) : (f_X2_workTick v).2 j = v j := by
  rw [tick_eq] at h ⊢
  by_cases c : f_X2_need (preW v) ≤ f_X2_allPressure (preW v)
  · rw [if_pos c]
    dsimp only
    rw [coolC_keep _ (by omega), wl_keep _ (by omega) (by omega) (by omega), takeS_keep _ (by omega) (by omega), preW_keep _ (by omega) (by omega) (by omega) (by omega)]
  · rw [if_neg c] at h
    dsimp only at h
    exact absurd h (by decide)
theorem ld_tick {v : Nat → Int32} {j : Nat} (hj : j < 4) (h : (f_X2_workTick v).1 = nI 0) : ld ((f_X2_workTick v).2 (13 + j)) ≤ ld (v (13 + j)) := by
  rw [(tick_mi hj h).1]
  by_cases c : v (13 + j) = -5
  · rw [if_pos c, ld_5]
    omega
  · rw [if_neg c]
    by_cases d : v (17 + j) - nI 1 = 0
    · rw [if_pos d, ld_5]
      omega
    · rw [if_neg d]
      omega
theorem clean {i : Nat} (hi : i < 4) : ∀ (n : Nat) (v q : Nat → Int32), n ≤ 9 → v 25 = nI 0 → wIn n v = false → ((n = 0 ∧ v (13 + i) = -5) ∨ (1 ≤ n ∧ ¬ v (13 + i) = -5 ∧ v (17 + i) = nI n)) → (NN n v q).1 (13 + i) = -5 ∧ (NN n v q).1 45 = v 45 ∧ ((NN n v q).1 40 = v 40 ∧ (NN n v q).1 42 = v 42 ∧ (NN n v q).1 43 = v 43) ∧ ∀ j, j < 4 → ld ((NN n v q).1 (13 + j)) ≤ ld (v (13 + j))
  | 0, v, q, _, _, _, hP => by
    rw [NN]
    rcases hP with ⟨-, h⟩ | ⟨h, -⟩
    · exact ⟨h, rfl, ⟨rfl, rfl, rfl⟩, fun j _ => Nat.le_refl _⟩
    · omega
  | n + 1, v, q, hn, h25, hw, hP => by
    have h0 : (f_X2_workTick v).1 = nI 0 := by
      rcases tick_wait (v := v) with ⟨h0, -⟩ | ⟨h1, -⟩
      · exact h0
      · rw [wIn_1 h1] at hw
        exact absurd hw (by decide)
    rw [wIn_0 h0] at hw
    have e25 := (tick_25 v).trans h25
    have eN : NX v q = ((f_X2_workTick v).2, q) := by
      unfold NX NXw
      rw [e25, kind0 (by omega), if_pos rfl, if_pos rfl]
    have e45 : (f_X2_workTick v).2 45 = v 45 := by
      rcases tick_wait (v := v) with ⟨-, h1⟩ | ⟨h1, -⟩
      · exact h1
      · rw [h0] at h1
        exact absurd h1 (by decide)
    rcases hP with ⟨h, -⟩ | ⟨-, hk, hl⟩
    · omega
    · obtain ⟨a1, a2⟩ := tick_mi hi h0
      rw [if_neg hk] at a1 a2
      rw [hl, pk_sub (by omega)] at a1 a2
      have hP2 : (n = 0 ∧ (f_X2_workTick v).2 (13 + i) = -5) ∨ (1 ≤ n ∧ ¬ (f_X2_workTick v).2 (13 + i) = -5 ∧ (f_X2_workTick v).2 (17 + i) = nI n) := by
        rw [show n + 1 - 1 = n by omega] at a1 a2
        by_cases c : n = 0
        · rw [c, if_pos (show nI 0 = 0 from rfl)] at a1
          exact Or.inl ⟨c, a1⟩
        · have c2 : ¬ nI n = 0 := fun z => c ((nI_eq (a := n) (b := 0) (by omega) (by decide)).mp z)
          rw [if_neg c2] at a1 a2
          exact Or.inr ⟨by omega, by rw [a1]; exact hk, a2⟩
      obtain ⟨b1, b2, ⟨b3, b4, b5⟩, b6⟩ := clean hi n _ q (by omega) e25 hw hP2
      rw [NN, eN]
      dsimp only
      exact ⟨b1, b2.trans e45, ⟨b3.trans (tick_k0 h0 (by omega)), b4.trans (tick_k0 h0 (by omega)), b5.trans (tick_k0 h0 (by omega))⟩, fun j hj => Nat.le_trans (b6 j hj) (ld_tick hj h0)⟩
theorem clean_run {t : Int} {v q q' : Nat → Int32} {i k n : Nat} (h : Iv t v) (h25 : v 25 = nI 0) (hi : i < 4) (hl : lowI v = nI i) (he : v (13 + i) = -5) (hk : k < 3) (hr : RS v q (nI k) = 0) (hn : f_X6_ticksOf (nI k) = nI n) (n1 : 1 ≤ n) (n9 : n ≤ 9) (hL : Li v q') (ht : t ≤ 100000) : (NN n (putM v i (nI k)) q').1 (13 + i) = -5 ∧ (NN n (putM v i (nI k)) q').1 45 = v 45 ∧ ∀ d, d ≤ 36 → (NN n (putM v i (nI k)) q').1 41 = putM v i (nI k) 41 + nI d → 0 < nI d := by
  have hp := h.put hi he (K3_n hk)
  have hw := rs_zero (K3_n hk) hi hl he hr
  rw [hn, nI_clamp (by omega)] at hw
  have hne : ¬ putM v i (nI k) (13 + i) = -5 := by
    rw [putM_k hi]
    exact kd3 (K3_n hk)
  obtain ⟨b1, b2, ⟨b3, b4, b5⟩, b6⟩ := clean hi n (putM v i (nI k)) q' n9 (by rw [putM_keep hi (by omega)]; exact h25) hw (Or.inr ⟨n1, hne, by rw [putM_l hi]; exact hn⟩)
  obtain ⟨hI, -⟩ := NN_iv n t (putM v i (nI k)) q' hp (hL.of (show putM v i (nI k) 25 = v 25 from putM_keep hi (by omega))) (by omega)
  refine ⟨b1, b2.trans (putM_keep hi (by omega)), fun d hd e41 => ?_⟩
  generalize putM v i (nI k) = v1 at *
  generalize (NN n v1 q').1 = u at *
  have s1 := hp.2.2.2.1
  have s2 := hI.2.2.2.1
  unfold SA at s1 s2
  have hlt : lds u < lds v1 := by
    unfold lds
    have g0 : ld (u 13) ≤ ld (v1 13) := b6 0 (by omega)
    have g1 : ld (u 14) ≤ ld (v1 14) := b6 1 (by omega)
    have g2 : ld (u 15) ≤ ld (v1 15) := b6 2 (by omega)
    have g3 : ld (u 16) ≤ ld (v1 16) := b6 3 (by omega)
    have z1 : ld (u (13 + i)) = 0 := by rw [b1, ld_5]
    have z2 : ld (v1 (13 + i)) = 1 := ld_k hne
    rcases at4 hi with rfl | rfl | rfl | rfl
    · have z1 : ld (u 13) = 0 := z1
      have z2 : ld (v1 13) = 1 := z2
      omega
    · have z1 : ld (u 14) = 0 := z1
      have z2 : ld (v1 14) = 1 := z2
      omega
    · have z1 : ld (u 15) = 0 := z1
      have z2 : ld (v1 15) = 1 := z2
      omega
    · have z1 : ld (u 16) = 0 := z1
      have z2 : ld (v1 16) = 1 := z2
      omega
  have hd0 : d ≠ 0 := by
    intro z
    subst z
    rw [add0] at e41
    rw [b3, b4, b5, e41] at s2
    have e : nI (lds u) + (v1 41 + v1 42 + v1 43) = nI (lds v1) + (v1 41 + v1 42 + v1 43) := by
      rw [Int32.add_comm (nI (lds u)), Int32.add_comm (nI (lds v1)), ← s1, ← s2]
    have e2 := congrArg (fun z => z - (v1 41 + v1 42 + v1 43)) e
    rw [Int32.add_sub_cancel, Int32.add_sub_cancel] at e2
    have hb : lds v1 ≤ 4 := by
      unfold lds
      have g0 := ld_le (v1 13)
      have g1 := ld_le (v1 14)
      have g2 := ld_le (v1 15)
      have g3 := ld_le (v1 16)
      omega
    have := (nI_eq (by omega) (by omega)).mp e2
    omega
  rw [tT, t0, nI_toInt (by omega)]
  omega
