/-! the acts on a state -/
theorem inw {x : Int32} {a b : Nat} (h : ¬ f_X6_isWithin x (nI a) (nI b) = 0) (ha : a < 2 ^ 31) (hb : b < 2 ^ 31) : (a : Int) ≤ x.toInt ∧ x.toInt ≤ b := by
  unfold f_X6_isWithin at h
  by_cases c1 : x < nI a
  · rw [if_pos c1] at h
    exact absurd nI0 h
  · rw [if_neg c1] at h
    by_cases c2 : nI b < x
    · rw [if_pos c2] at h
      exact absurd nI0 h
    · rw [tT, nI_toInt ha] at c1
      rw [tT, nI_toInt hb] at c2
      omega
theorem inw_r {x : Int32} {a b : Nat} (h : (a : Int) ≤ x.toInt ∧ x.toInt ≤ b) (ha : a < 2 ^ 31) (hb : b < 2 ^ 31) : ¬ f_X6_isWithin x (nI a) (nI b) = 0 := by
  unfold f_X6_isWithin
  rw [if_neg (by rw [tT, nI_toInt ha]; omega), if_neg (by rw [tT, nI_toInt hb]; omega)]
  decide
theorem inw_o {x : Int32} {a b : Nat} (h : ¬ ((a : Int) ≤ x.toInt ∧ x.toInt ≤ b)) (ha : a < 2 ^ 31) (hb : b < 2 ^ 31) : f_X6_isWithin x (nI a) (nI b) = 0 := by
  by_cases c : f_X6_isWithin x (nI a) (nI b) = 0
  · exact c
  · exact absurd (inw c ha hb) h
theorem inw_K {x : Int32} (h : ¬ f_X6_isWithin x (nI 0) (nI 2) = 0) : K3 x := by
  have h1 := inw h (by decide) (by decide)
  have h2 : x.toInt = 0 ∨ x.toInt = 1 ∨ x.toInt = 2 := by omega
  rcases h2 with h2 | h2 | h2
  · exact Or.inl (tE.mpr (h2.trans (by decide)))
  · exact Or.inr (Or.inl (tE.mpr (h2.trans (by decide))))
  · exact Or.inr (Or.inr (tE.mpr (h2.trans (by decide))))
theorem K3.n {k : Int32} (h : K3 k) : ∃ n, n < 3 ∧ k = nI n := by
  rcases h with rfl | rfl | rfl
  · exact ⟨0, by omega, rfl⟩
  · exact ⟨1, by omega, rfl⟩
  · exact ⟨2, by omega, rfl⟩
theorem K3_n {n : Nat} (h : n < 3) : K3 (nI n) := by
  rcases (show n = 0 ∨ n = 1 ∨ n = 2 by omega) with rfl | rfl | rfl
  · exact Or.inl rfl
  · exact Or.inr (Or.inl rfl)
  · exact Or.inr (Or.inr rfl)
theorem K3_w {n : Nat} (h : n < 3) : ¬ f_X6_isWithin (nI n) (nI 0) (nI 2) = 0 := inw_r (by rw [nI_toInt (by omega)]; omega) (by decide) (by decide)
/-- an act that answers below 0 changes nothing; every act keeps the ranges and the accounts -/
def AK (t : Int) (v q : Nat → Int32) (r : Int32) (v' q' : Nat → Int32) : Prop := (r < 0 → v' = v ∧ q' = q) ∧ Iv t v' ∧ Li v' q'
theorem AK.same {t : Int} {v q : Nat → Int32} {r : Int32} (h : Iv t v) (hL : Li v q) : AK t v q r v q := ⟨fun _ => ⟨rfl, rfl⟩, h, hL⟩
theorem Li.of {v v' q : Nat → Int32} (h : Li v q) (e : v' 25 = v 25) : Li v' q := by
  obtain ⟨n, h1, h2, h3⟩ := h
  exact ⟨n, h1, e.trans h2, h3⟩
theorem cf_ok {t : Int} {v q : Nat → Int32} {p0 p1 : Int32} (h : Iv t v) (hL : Li v q) : AK t v q (f_X2_changeFire v p0 p1).1 (f_X2_changeFire v p0 p1).2 q := by
  unfold f_X2_changeFire
  by_cases a0 : p0 = nI 0
  · rw [if_pos a0]
    by_cases c : f_X6_isWithin p1 (nI 0) (nI 5) = 0
    · rw [if_pos c]
      exact AK.same h hL
    · rw [if_neg c]
      by_cases d : v 6 ≤ 0
      · rw [if_pos d]
        by_cases e : v 0 = p1
        · rw [if_pos e]
          exact AK.same h hL
        · rw [if_neg e]
          have hp := inw c (by decide) (by decide)
          obtain ⟨g0, g1, g2, g3, g4, g5⟩ := h.1.1
          rw [tL, t0] at d
          refine ⟨fun z => ?_, h.bo (fun j h1 _ _ => pk_un (by omega)) ?_ ?_, hL.of (show upd v 0 p1 25 = v 25 from pk_un (by decide))⟩
          · rw [tT, t0] at z
            dsimp only at z
            omega
          · exact ⟨⟨hp.1, hp.2⟩, g1, g2, g3, g4, Or.inl (Int.le_antisymm d g3.1)⟩
          · exact h.1.2
      · rw [if_neg d]
        exact AK.same h hL
  · rw [if_neg a0]
    by_cases a1 : p0 = nI 1
    · rw [if_pos a1]
      by_cases c : f_X6_isWithin p1 (nI 0) (nI 5) = 0
      · rw [if_pos c]
        exact AK.same h hL
      · rw [if_neg c]
        by_cases d : v 7 ≤ 0
        · rw [if_pos d]
          by_cases e : v 1 = p1
          · rw [if_pos e]
            exact AK.same h hL
          · rw [if_neg e]
            have hp := inw c (by decide) (by decide)
            obtain ⟨g0, g1, g2, g3, g4, g5⟩ := h.1.2
            rw [tL, t0] at d
            refine ⟨fun z => ?_, h.bo (fun j h1 _ _ => pk_un (by omega)) ?_ ?_, hL.of (show upd v 1 p1 25 = v 25 from pk_un (by decide))⟩
            · rw [tT, t0] at z
              dsimp only at z
              omega
            · exact h.1.1
            · exact ⟨⟨hp.1, hp.2⟩, g1, g2, g3, g4, Or.inl (Int.le_antisymm d g3.1)⟩
        · rw [if_neg d]
          exact AK.same h hL
    · rw [if_neg a1]
      exact AK.same h hL
theorem lw_ok {t : Int} {v q : Nat → Int32} {p0 p1 : Int32} (h : Iv t v) (hL : Li v q) : AK t v q (f_X2_letWaterIn v p0 p1).1 (f_X2_letWaterIn v p0 p1).2 q := by
  unfold f_X2_letWaterIn
  by_cases a0 : p0 = nI 0
  · rw [if_pos a0]
    by_cases c : f_X6_isWithin p1 (nI 1) (nI 200) = 0
    · rw [if_pos c]
      exact AK.same h hL
    · rw [if_neg c]
      have hp := inw c (by decide) (by decide)
      obtain ⟨g0, g1, g2, g3, g4, g5⟩ := h.1.1
      have es : (v 2 + p1).toInt = (v 2).toInt + p1.toInt := tA (by omega) (by omega)
      by_cases d : v 2 + p1 ≤ nI 200
      · rw [if_pos d]
        rw [tL, tn200, es] at d
        refine ⟨fun z => ?_, h.bo (fun j h1 _ _ => pk_un (by omega)) ?_ ?_, hL.of (show upd v 2 (v 2 + p1) 25 = v 25 from pk_un (by decide))⟩
        · dsimp only at z
          rw [tT, t0, es] at z
          omega
        · exact ⟨g0, (show 0 ≤ (v 2 + p1).toInt ∧ (v 2 + p1).toInt ≤ 200 by rw [es]; omega), g2, g3, g4, g5⟩
        · exact h.1.2
      · rw [if_neg d]
        exact AK.same h hL
  · rw [if_neg a0]
    by_cases a1 : p0 = nI 1
    · rw [if_pos a1]
      by_cases c : f_X6_isWithin p1 (nI 1) (nI 200) = 0
      · rw [if_pos c]
        exact AK.same h hL
      · rw [if_neg c]
        have hp := inw c (by decide) (by decide)
        obtain ⟨g0, g1, g2, g3, g4, g5⟩ := h.1.2
        have es : (v 3 + p1).toInt = (v 3).toInt + p1.toInt := tA (by omega) (by omega)
        by_cases d : v 3 + p1 ≤ nI 200
        · rw [if_pos d]
          rw [tL, tn200, es] at d
          refine ⟨fun z => ?_, h.bo (fun j h1 _ _ => pk_un (by omega)) ?_ ?_, hL.of (show upd v 3 (v 3 + p1) 25 = v 25 from pk_un (by decide))⟩
          · dsimp only at z
            rw [tT, t0, es] at z
            omega
          · exact h.1.1
          · exact ⟨g0, (show 0 ≤ (v 3 + p1).toInt ∧ (v 3 + p1).toInt ≤ 200 by rw [es]; omega), g2, g3, g4, g5⟩
        · rw [if_neg d]
          exact AK.same h hL
    · rw [if_neg a1]
      exact AK.same h hL
theorem Iv.r11 {t : Int} {v : Nat → Int32} {x : Int32} (h : Iv t v) (hx : 0 ≤ x.toInt ∧ x.toInt ≤ 200) : Iv t (upd v 11 x) := by
  obtain ⟨⟨b0, b1⟩, hM, ⟨⟨hc, -⟩, he⟩, hS, hW, hU, h12, ht⟩ := h
  exact ⟨⟨b0, b1⟩, hM.of (fun j h1 h2 => pk_un (by omega)), ⟨⟨hc, hx⟩, he⟩, hS.of (fun j h1 h2 => pk_un (by omega)) (pk_un (by decide)) (pk_un (by decide)) (pk_un (by decide)) (pk_un (by decide)), hW.of (pk_un (by decide)) (pk_un (by decide)), hU.of (pk_un (by decide)), h12, ht⟩
theorem cr_ok {t : Int} {v q : Nat → Int32} {p0 : Int32} (h : Iv t v) (hL : Li v q) : AK t v q (f_X2_changeRation v p0).1 (f_X2_changeRation v p0).2 q := by
  unfold f_X2_changeRation
  by_cases c : f_X6_isWithin p0 (nI 0) (nI 200) = 0
  · rw [if_pos c]
    exact AK.same h hL
  · rw [if_neg c]
    have hp := inw c (by decide) (by decide)
    by_cases e : p0 = v 11
    · rw [if_pos e]
      exact AK.same h hL
    · rw [if_neg e]
      refine ⟨fun z => ?_, h.r11 ⟨hp.1, hp.2⟩, hL.of (show upd v 11 p0 25 = v 25 from pk_un (by decide))⟩
      have hr := h.2.2.1.1.2
      dsimp only at z
      rw [tT, t0] at z
      omega
theorem al_ok {t : Int} {v q : Nat → Int32} {p0 : Int32} (h : Iv t v) (hL : Li v q) : AK t v q (f_X2_addToLine v q p0).1 (f_X2_addToLine v q p0).2.1 (f_X2_addToLine v q p0).2.2 := by
  unfold f_X2_addToLine
  by_cases c : f_X6_isWithin p0 (nI 0) (nI 2) = 0
  · rw [if_pos c]
    exact AK.same h hL
  · rw [if_neg c]
    have hk := inw_K c
    obtain ⟨n, n12, hn, hq⟩ := id hL
    rw [hn]
    unfold f_X5_add
    rw [if_neg (nI_pos (by omega))]
    by_cases d : nI n < nI 12
    · rw [if_pos d]
      rw [nI_ltI (by omega) (by omega)] at d
      rw [nI_clamp (by omega), nI_add, pk_sub (by omega)]
      dsimp only
      refine ⟨fun z => absurd z (nI_pos (by omega)), h.of (fun j _ hj => pk_un hj), n + 1, by omega, pk_us, fun j hj => ?_⟩
      by_cases e : j = n
      · rw [e, pk_us]
        exact hk
      · rw [pk_un e]
        exact hq j (by omega)
    · rw [if_neg d]
      dsimp only
      rw [upd_id hn]
      exact AK.same h hL
theorem rl_ok {t : Int} {v q : Nat → Int32} {p : Nat} (h : Iv t v) (hL : Li v q) (hp : p < 2 ^ 31) : AK t v q (f_X2_removeFromLine v q (nI p)).1 (f_X2_removeFromLine v q (nI p)).2.1 (f_X2_removeFromLine v q (nI p)).2.2 := by
  obtain ⟨n, n12, hn, hq⟩ := id hL
  unfold f_X2_removeFromLine
  rw [hn]
  by_cases d : p < n
  · obtain ⟨q', e, hq'⟩ := rem_ok n12 d hq
    rw [e]
    obtain ⟨m, h3, em⟩ := (hq p d).n
    dsimp only
    refine ⟨fun z => ?_, h.of (fun j _ hj => pk_un hj), n - 1, by omega, pk_us, hq'⟩
    rw [em] at z
    exact absurd z (nI_pos (by omega))
  · rw [rem_out n12 (by omega) hp]
    dsimp only
    rw [upd_id hn]
    exact AK.same h hL
theorem outV_m {v : Nat → Int32} {i j : Nat} (h1 : j ≠ 13 + i) (h2 : j ≠ 17 + i) (h3 : j ≠ 21 + i) (h4 : j ≠ 43) : outV v i j = v j := by
  unfold outV
  rw [pk_un h4, pk_un h3, pk_un h2, pk_un h1]
theorem Iv.out {t : Int} {v : Nat → Int32} {i : Nat} (h : Iv t v) (hi : i < 4) (he : ¬ v (13 + i) = -5) : Iv t (outV v i) := by
  obtain ⟨⟨b0, b1⟩, hM, hC, hS, hW, hU, h12, ht⟩ := h
  have K := fun j (hj : j < 13 ∨ (25 ≤ j ∧ j ≠ 43)) => outV_m (v := v) (i := i) (j := j) (by omega) (by omega) (by omega) (by omega)
  have k1 : outV v i (13 + i) = -5 := by
    unfold outV
    rw [pk_un (by omega), pk_un (by omega), pk_un (by omega), pk_us]
  have k2 : outV v i (17 + i) = nI 0 := by
    unfold outV
    rw [pk_un (by omega), pk_un (by omega), pk_us]
  have k3 : outV v i (21 + i) = nI 0 := by
    unfold outV
    rw [pk_un (by omega), pk_us]
  have k4 : outV v i 43 = v 43 + nI 1 := pk_us
  refine ⟨⟨?_, ?_⟩, hM.set hi ?_ (fun j h1 h2 h3 h4 h5 => outV_m h3 h4 h5 (by omega)), hC.of (K 10 (by decide)) (K 11 (by decide)) (K 38 (by decide)) (K 39 (by decide)), ?_, hW.of (K 41 (by decide)) (K 44 (by decide)), hU.of (K 38 (by decide)), by rw [K 12 (by decide)]; exact h12, ht⟩
  · rw [K 0 (by decide), K 2 (by decide), K 4 (by decide), K 6 (by decide), K 8 (by decide)]
    exact b0
  · rw [K 1 (by decide), K 3 (by decide), K 5 (by decide), K 7 (by decide), K 9 (by decide)]
    exact b1
  · rw [k1, k2, k3]
    exact MO.out
  · have hl := lds_set (v := v) (v' := outV v i) hi (fun j h1 h2 h3 => outV_m h3 (by omega) (by omega) (by omega))
    rw [k1, ld_5, ld_k he] at hl
    have hl : lds v = 1 + lds (outV v i) := by omega
    unfold SA at hS ⊢
    rw [K 40 (by decide), K 41 (by decide), K 42 (by decide), k4, hS, hl, ← nI_add]
    ac_rfl
theorem ul_ok {t : Int} {v q : Nat → Int32} {i : Nat} (h : Iv t v) (hL : Li v q) (hi : i < 4) : AK t v q (f_X2_unload v (nI i)).1 (f_X2_unload v (nI i)).2 q := by
  rw [unload_i hi]
  by_cases c : f_X3_isEmpty (v (13 + i)) = 0
  · rw [if_pos c]
    have c2 := emp_ne.mp c
    refine ⟨fun z => ?_, h.out hi c2, hL.of (show outV v i 25 = v 25 from outV_m (by omega) (by omega) (by omega) (by omega))⟩
    rcases h.2.1.at hi with ⟨h1, -⟩ | ⟨-, h2, -⟩
    · exact absurd h1 c2
    · dsimp only at z
      rw [tT, t0] at z
      omega
  · rw [if_neg c]
    exact AK.same h hL
theorem sl_ok {t : Int} {v q ov oq : Nat → Int32} {p1 : Int32} {i : Nat} (h : Iv t v) (hL : Li v q) (hi : i < 4) : AK t v q (f_X2_startLoad v q ov oq (nI i) p1).1 (f_X2_startLoad v q ov oq (nI i) p1).2.1 q := by
  rw [start_i hi]
  by_cases c : f_X6_isWithin p1 (nI 0) (nI 2) = 0
  · rw [if_pos c]
    exact AK.same h hL
  · rw [if_neg c]
    have hk := inw_K c
    by_cases d : f_X3_isEmpty (v (13 + i)) = 0
    · rw [if_pos d]
      exact AK.same h hL
    · rw [if_neg d]
      have d2 : v (13 + i) = -5 := by
        by_cases z : v (13 + i) = -5
        · exact z
        · exact absurd (emp_ne.mpr z) d
      by_cases e : (f_X2_reasonAgainst v q ov oq p1).1 = 0
      · rw [if_pos e]
        refine ⟨fun z => ?_, h.put hi d2 hk, hL.of (show putM v i p1 25 = v 25 from putM_keep hi (by omega))⟩
        have := tk_rng hk
        dsimp only at z
        rw [tT, t0] at z
        omega
      · rw [if_neg e]
        exact AK.same h hL
theorem sl_full {v q ov oq : Nat → Int32} {i k : Nat} (hi : i < 4) (hk : k < 3) (he : ¬ v (13 + i) = -5) : (f_X2_startLoad v q ov oq (nI i) (nI k)).1 = -11 := by
  rw [start_i hi, if_neg (K3_w hk), if_pos (emp_ne.mpr he)]
  show (-10 : Int32) - nI 1 = -11
  decide
theorem sl_val {v q ov oq : Nat → Int32} {i k : Nat} (hi : i < 4) (hk : k < 3) (he : v (13 + i) = -5) : (RS v q (nI k) = 0 → (f_X2_startLoad v q ov oq (nI i) (nI k)).1 = f_X6_ticksOf (nI k) ∧ (f_X2_startLoad v q ov oq (nI i) (nI k)).2.1 = putM v i (nI k)) ∧ (¬ RS v q (nI k) = 0 → (f_X2_startLoad v q ov oq (nI i) (nI k)).1 = -10 - RS v q (nI k)) := by
  have hr : (f_X2_reasonAgainst v q ov oq (nI k)).1 = RS v q (nI k) := rea_ind
  rw [start_i hi, if_neg (K3_w hk), if_neg (emp5 he), hr]
  refine ⟨fun z => ?_, fun z => ?_⟩
  · rw [if_pos z]
    exact ⟨rfl, rfl⟩
  · rw [if_neg z]
theorem lp_ok {t : Int} {v q ov oq : Nat → Int32} {m : Nat} (h : Iv t v) (h1 : 1 ≤ m) (h2 : m ≤ 200) (ht : t + m ≤ 99999) : ∃ a b d, d ≤ 4 * m ∧ f_X2_letPass v q ov oq (nI m) = (nI d, (NN m v q).1, (NN m v q).2, a, b) ∧ (NN m v q).1 41 = v 41 + nI d := by
  have ht0 := h.2.2.2.2.2.2.2
  have h12 := h.2.2.2.2.2.2.1
  have hm : (nI m).toInt = m := nI_toInt (by omega)
  obtain ⟨d, hd, e41⟩ := NN_41 m v q
  obtain ⟨e1, e2⟩ := passN_nn m v q ov oq
  refine ⟨(passN m v q ov oq).2.2.1, (passN m v q ov oq).2.2.2, d, hd, ?_, e41⟩
  unfold f_X2_letPass
  rw [if_neg (inw_r (a := 1) (b := 200) (by rw [hm]; omega) (by decide) (by decide)), if_pos (by rw [tL, tA (by rw [hm]; omega) (by rw [hm]; omega), hm, nI_toInt (by omega)]; omega)]
  have hL := letp_N (p0 := nI m) (z := v 41) ((nI m).toNatClampNeg + 1) v q ov oq 0 (Nat.zero_le _) (by omega)
  rw [hL, Nat.sub_zero, nI_clamp (by omega), e1, e2, e41, sub_self_add]
