/-! the acts on a slot of the model are the class's acts -/
def IS (v q : Nat → Int32) : Prop := InvL v q ∧ RB 99999 v
def Fx (M M' : Nat → Int32) (x : Nat) : Prop := ∀ j, (j < 46 * x ∨ 46 * x + 46 ≤ j) → (j < 322 ∨ 322 + 46 ≤ j) → M' j = M j
theorem Fx.rf {M : Nat → Int32} {x : Nat} : Fx M M x := fun _ _ _ => rfl
theorem Fx.of {M M' : Nat → Int32} {x : Nat} (h : Fr M M' (46 * x)) : Fx M M' x := fun j h1 _ => h j h1
def Act (M M' : Nat → Int32) (x : Nat) (r r' : Int32) (v q : Nat → Int32) : Prop := r = r' ∧ At M' (46 * x) v q ∧ IS v q ∧ Fx M M' x
theorem in_eq (p a b : Int32) : f_X7_in p a b = f_X6_isWithin p a b := rfl
theorem in_nat {p : Int32} {n : Nat} (h : ¬ f_X7_in p (nI 0) (nI n) = 0) (hn : n < 2 ^ 31) : ∃ i, i ≤ n ∧ p = nI i := ⟨p.toNatClampNeg, inLe h hn, natOf (inNat0 h)⟩
theorem in_1n {p : Int32} {n : Nat} (h : ¬ f_X7_in p (nI 1) (nI n) = 0) (hn : n < 2 ^ 31) : ∃ i, 1 ≤ i ∧ i ≤ n ∧ p = nI i := by
  unfold f_X7_in at h
  by_cases c : p < nI 1
  · rw [if_pos c] at h; exact absurd rfl h
  · rw [if_neg c] at h
    by_cases c2 : nI n < p
    · rw [if_pos c2] at h; exact absurd rfl h
    · have h0 : ¬ p < 0 := fun z => c (Int32.lt_trans z (by decide))
      obtain ⟨j, hj, e⟩ := nI_of h0
      rw [e, nI_ltI hj (by decide)] at c
      rw [e, nI_ltI hn hj] at c2
      exact ⟨j, by omega, by omega, e⟩
theorem in_of {i n : Nat} (h : i ≤ n) (hn : n < 2 ^ 31) : ¬ f_X7_in (nI i) (nI 0) (nI n) = 0 := by
  unfold f_X7_in
  rw [if_neg (fun z => by have := (nI_ltI (by omega) (by omega)).mp z; omega), if_neg (fun z => by have := (nI_ltI hn (by omega)).mp z; omega)]
  decide
theorem InvL.of {v v' q : Nat → Int32} (h : InvL v q) (e : ∀ j, 13 ≤ j → j < 26 → v' j = v j) (hf : 0 ≤ v' 0 ∧ 0 ≤ v' 1) (hw : 0 ≤ v' 2 ∧ 0 ≤ v' 3) (hc : v' 10 = v 10) (hr : 0 ≤ v' 11) : InvL v' q := by
  obtain ⟨⟨⟨hk, -, -, h10, -⟩, hM⟩, n, h1, h2, h3⟩ := h
  have E := fun j a b => e j a b
  refine ⟨⟨⟨?_, hf, hw, by rw [hc]; exact h10, hr⟩, hM.1.of (E 13 (by decide) (by decide)) (E 17 (by decide) (by decide)) (E 21 (by decide) (by decide)), hM.2.1.of (E 14 (by decide) (by decide)) (E 18 (by decide) (by decide)) (E 22 (by decide) (by decide)), hM.2.2.1.of (E 15 (by decide) (by decide)) (E 19 (by decide) (by decide)) (E 23 (by decide) (by decide)), hM.2.2.2.of (E 16 (by decide) (by decide)) (E 20 (by decide) (by decide)) (E 24 (by decide) (by decide))⟩, n, h1, by rw [E 25 (by decide) (by decide)]; exact h2, h3⟩
  unfold KS
  rw [E 13 (by decide) (by decide), E 14 (by decide) (by decide), E 15 (by decide) (by decide), E 16 (by decide) (by decide)]
  exact hk
theorem nIle5 {i : Nat} (h : i ≤ 5) : nI i ≤ nI 5 := (nI_leI (by omega) (by decide)).mpr h

theorem sets_0 {M v q : Nat → Int32} {x : Nat} {p1 : Int32} (hA : At M (46 * x) v q) (hI : IS v q) : Act M (f_X7_sets M x (nI 0) p1).2 x (f_X7_sets M x (nI 0) p1).1 (f_X2_changeFire v (nI 0) p1).1 (f_X2_changeFire v (nI 0) p1).2 q := by
  unfold f_X7_sets f_X2_changeFire
  rw [if_neg (in_of (i := 0) (n := 1) (by decide) (by decide)), in_eq p1, if_pos rfl]
  have e6 : M (46 * x + (nI 0).toNatClampNeg + 6) = v 6 := hA.plain (j := 6) (by decide) (by rw [nI_clamp (by decide)])
  have e0 : M (46 * x + (nI 0).toNatClampNeg) = v 0 := hA.plain (j := 0) (by decide) (by rw [nI_clamp (by decide)])
  rw [e6, e0]
  by_cases c1 : f_X6_isWithin p1 (nI 0) (nI 5) = 0
  · rw [if_pos c1, if_pos c1]
    exact ⟨rfl, hA, hI, Fx.rf⟩
  · rw [if_neg c1, if_neg c1]
    obtain ⟨k, hk, ek⟩ := in_nat (p := p1) (n := 5) c1 (by decide)
    by_cases c2 : v 6 ≤ 0
    · rw [if_pos c2, if_pos c2]
      by_cases c3 : v 0 = p1
      · rw [if_pos c3, if_pos c3]
        exact ⟨rfl, hA, hI, Fx.rf⟩
      · rw [if_neg c3, if_neg c3]
        have h1 := AtF.plainU (M0 := M) ⟨hA, Fr_rf⟩ (j := 0) (by decide) p1
        refine ⟨rfl, h1.1, ⟨hI.1.of (fun j a b => pk_un (by omega)) ?_ ⟨hI.1.1.1.2.2.1.1, hI.1.1.1.2.2.1.2⟩ rfl hI.1.1.1.2.2.2.2, ?_⟩, Fx.of h1.2⟩
        · rw [ek]; exact ⟨nI_ge0 (by omega), hI.1.1.1.2.1.2⟩
        · rw [ek]; exact ⟨⟨nIle5 hk, hI.2.1.2⟩, hI.2.2.1, hI.2.2.2⟩
    · rw [if_neg c2, if_neg c2]
      exact ⟨rfl, hA, hI, Fx.rf⟩

theorem sets_1 {M v q : Nat → Int32} {x : Nat} {p1 : Int32} (hA : At M (46 * x) v q) (hI : IS v q) : Act M (f_X7_sets M x (nI 1) p1).2 x (f_X7_sets M x (nI 1) p1).1 (f_X2_changeFire v (nI 1) p1).1 (f_X2_changeFire v (nI 1) p1).2 q := by
  unfold f_X7_sets f_X2_changeFire
  rw [if_neg (in_of (i := 1) (n := 1) (by decide) (by decide)), in_eq p1, if_neg (show ¬ nI 1 = nI 0 by decide), if_pos rfl]
  have e6 : M (46 * x + (nI 1).toNatClampNeg + 6) = v 7 := hA.plain (j := 7) (by decide) (by rw [nI_clamp (by decide)])
  have e0 : M (46 * x + (nI 1).toNatClampNeg) = v 1 := hA.plain (j := 1) (by decide) (by rw [nI_clamp (by decide)])
  rw [e6, e0]
  by_cases c1 : f_X6_isWithin p1 (nI 0) (nI 5) = 0
  · rw [if_pos c1, if_pos c1]
    exact ⟨rfl, hA, hI, Fx.rf⟩
  · rw [if_neg c1, if_neg c1]
    obtain ⟨k, hk, ek⟩ := in_nat (p := p1) (n := 5) c1 (by decide)
    by_cases c2 : v 7 ≤ 0
    · rw [if_pos c2, if_pos c2]
      by_cases c3 : v 1 = p1
      · rw [if_pos c3, if_pos c3]
        exact ⟨rfl, hA, hI, Fx.rf⟩
      · rw [if_neg c3, if_neg c3]
        have h1 := AtF.plainU (M0 := M) ⟨hA, Fr_rf⟩ (j := 1) (by decide) p1
        refine ⟨rfl, h1.1, ⟨hI.1.of (fun j a b => pk_un (by omega)) ?_ ⟨hI.1.1.1.2.2.1.1, hI.1.1.1.2.2.1.2⟩ rfl hI.1.1.1.2.2.2.2, ?_⟩, Fx.of h1.2⟩
        · rw [ek]; exact ⟨hI.1.1.1.2.1.1, nI_ge0 (by omega)⟩
        · rw [ek]; exact ⟨⟨hI.2.1.1, nIle5 hk⟩, hI.2.2.1, hI.2.2.2⟩
    · rw [if_neg c2, if_neg c2]
      exact ⟨rfl, hA, hI, Fx.rf⟩

theorem two_cases (p : Int32) : p = nI 0 ∨ p = nI 1 ∨ (f_X7_in p (nI 0) (nI 1) = 0 ∧ ¬ p = nI 0 ∧ ¬ p = nI 1) := by
  by_cases c0 : p = nI 0
  · exact Or.inl c0
  · by_cases c1 : p = nI 1
    · exact Or.inr (Or.inl c1)
    · refine Or.inr (Or.inr ⟨?_, c0, c1⟩)
      refine Classical.byContradiction fun h => ?_
      obtain ⟨i, hi, e⟩ := in_nat h (by decide)
      have h2 : i = 0 ∨ i = 1 := by omega
      rcases h2 with rfl | rfl
      · exact c0 e
      · exact c1 e
theorem sets_at {M v q : Nat → Int32} {x : Nat} {p0 p1 : Int32} (hA : At M (46 * x) v q) (hI : IS v q) : Act M (f_X7_sets M x p0 p1).2 x (f_X7_sets M x p0 p1).1 (f_X2_changeFire v p0 p1).1 (f_X2_changeFire v p0 p1).2 q := by
  rcases two_cases p0 with rfl | rfl | ⟨c, c0, c1⟩
  · exact sets_0 hA hI
  · exact sets_1 hA hI
  · unfold f_X7_sets f_X2_changeFire
    rw [if_pos c, if_neg c0, if_neg c1]
    exact ⟨rfl, hA, hI, Fx.rf⟩

theorem fills_0 {M v q : Nat → Int32} {x : Nat} {p1 : Int32} (hA : At M (46 * x) v q) (hI : IS v q) : Act M (f_X7_fills M x (nI 0) p1).2 x (f_X7_fills M x (nI 0) p1).1 (f_X2_letWaterIn v (nI 0) p1).1 (f_X2_letWaterIn v (nI 0) p1).2 q := by
  unfold f_X7_fills f_X2_letWaterIn
  rw [if_neg (in_of (i := 0) (n := 1) (by decide) (by decide)), in_eq p1, if_pos rfl]
  have ei : 46 * x + 2 + (nI 0).toNatClampNeg = 46 * x + 2 := by rw [nI_clamp (by decide)]
  have e0 : M (46 * x + 2) = v 2 := hA.plain (j := 2) (by decide) rfl
  rw [ei, e0]
  by_cases c1 : f_X6_isWithin p1 (nI 1) (nI 200) = 0
  · rw [if_pos c1, if_pos c1]
    exact ⟨rfl, hA, hI, Fx.rf⟩
  · rw [if_neg c1, if_neg c1]
    obtain ⟨k, hk1, hk, ek⟩ := in_1n (p := p1) (n := 200) c1 (by decide)
    obtain ⟨a, ha, ea⟩ := nI_of (x := v 2) (Int32.not_lt.mpr hI.1.1.1.2.2.1.1)
    have ha2 : a ≤ 200 := by have h := hI.2.2.1.1; rw [ea] at h; exact (nI_leI ha (by decide)).mp h
    have e : v 2 + p1 ≤ nI 200 ↔ v 2 ≤ nI 200 - p1 := by
      rw [ea, ek, nI_add, pk_sub hk, nI_leI (by omega) (by decide), nI_leI ha (by omega)]
      exact ⟨fun h => by omega, fun h => by omega⟩
    by_cases c2 : v 2 + p1 ≤ nI 200
    · rw [if_pos (e.mp c2), if_pos c2]
      have h1 := AtF.plainU (M0 := M) ⟨hA, Fr_rf⟩ (j := 2) (by decide) (v 2 + p1)
      have z : 0 ≤ v 2 + p1 := by rw [ea, ek, nI_add]; exact nI_ge0 (by omega)
      refine ⟨pk_us, h1.1, ⟨hI.1.of (fun j a b => pk_un (by omega)) hI.1.1.1.2.1 ?_ rfl hI.1.1.1.2.2.2.2, hI.2.1, ?_, hI.2.2.2⟩, Fx.of h1.2⟩
      · exact ⟨z, hI.1.1.1.2.2.1.2⟩
      · exact ⟨c2, hI.2.2.1.2⟩
    · rw [if_neg (fun z => c2 (e.mpr z)), if_neg c2]
      exact ⟨rfl, hA, hI, Fx.rf⟩

theorem fills_1 {M v q : Nat → Int32} {x : Nat} {p1 : Int32} (hA : At M (46 * x) v q) (hI : IS v q) : Act M (f_X7_fills M x (nI 1) p1).2 x (f_X7_fills M x (nI 1) p1).1 (f_X2_letWaterIn v (nI 1) p1).1 (f_X2_letWaterIn v (nI 1) p1).2 q := by
  unfold f_X7_fills f_X2_letWaterIn
  rw [if_neg (in_of (i := 1) (n := 1) (by decide) (by decide)), in_eq p1, if_neg (show ¬ nI 1 = nI 0 by decide), if_pos rfl]
  have ei : 46 * x + 2 + (nI 1).toNatClampNeg = 46 * x + 3 := by rw [nI_clamp (by decide)]
  have e0 : M (46 * x + 3) = v 3 := hA.plain (j := 3) (by decide) rfl
  rw [ei, e0]
  by_cases c1 : f_X6_isWithin p1 (nI 1) (nI 200) = 0
  · rw [if_pos c1, if_pos c1]
    exact ⟨rfl, hA, hI, Fx.rf⟩
  · rw [if_neg c1, if_neg c1]
    obtain ⟨k, hk1, hk, ek⟩ := in_1n (p := p1) (n := 200) c1 (by decide)
    obtain ⟨a, ha, ea⟩ := nI_of (x := v 3) (Int32.not_lt.mpr hI.1.1.1.2.2.1.2)
    have ha2 : a ≤ 200 := by have h := hI.2.2.1.2; rw [ea] at h; exact (nI_leI ha (by decide)).mp h
    have e : v 3 + p1 ≤ nI 200 ↔ v 3 ≤ nI 200 - p1 := by
      rw [ea, ek, nI_add, pk_sub hk, nI_leI (by omega) (by decide), nI_leI ha (by omega)]
      exact ⟨fun h => by omega, fun h => by omega⟩
    by_cases c2 : v 3 + p1 ≤ nI 200
    · rw [if_pos (e.mp c2), if_pos c2]
      have h1 := AtF.plainU (M0 := M) ⟨hA, Fr_rf⟩ (j := 3) (by decide) (v 3 + p1)
      have z : 0 ≤ v 3 + p1 := by rw [ea, ek, nI_add]; exact nI_ge0 (by omega)
      refine ⟨pk_us, h1.1, ⟨hI.1.of (fun j a b => pk_un (by omega)) hI.1.1.1.2.1 ?_ rfl hI.1.1.1.2.2.2.2, hI.2.1, ?_, hI.2.2.2⟩, Fx.of h1.2⟩
      · exact ⟨hI.1.1.1.2.2.1.1, z⟩
      · exact ⟨hI.2.2.1.1, c2⟩
    · rw [if_neg (fun z => c2 (e.mpr z)), if_neg c2]
      exact ⟨rfl, hA, hI, Fx.rf⟩

theorem fills_at {M v q : Nat → Int32} {x : Nat} {p0 p1 : Int32} (hA : At M (46 * x) v q) (hI : IS v q) : Act M (f_X7_fills M x p0 p1).2 x (f_X7_fills M x p0 p1).1 (f_X2_letWaterIn v p0 p1).1 (f_X2_letWaterIn v p0 p1).2 q := by
  rcases two_cases p0 with rfl | rfl | ⟨c, c0, c1⟩
  · exact fills_0 hA hI
  · exact fills_1 hA hI
  · unfold f_X7_fills f_X2_letWaterIn
    rw [if_pos c, if_neg c0, if_neg c1]
    exact ⟨rfl, hA, hI, Fx.rf⟩
theorem queues_at {M v q : Nat → Int32} {x : Nat} {p0 : Int32} (hA : At M (46 * x) v q) (hI : IS v q) : Act M (f_X7_queues M x p0 (M (46 * x + 25)).toNatClampNeg).2 x (f_X7_queues M x p0 (M (46 * x + 25)).toNatClampNeg).1 (f_X2_addToLine v q p0).1 (f_X2_addToLine v q p0).2.1 (f_X2_addToLine v q p0).2.2 := by
  unfold f_X7_queues f_X2_addToLine
  rw [in_eq p0]
  by_cases c1 : f_X6_isWithin p0 (nI 0) (nI 2) = 0
  · rw [if_pos c1, if_pos c1]
    exact ⟨rfl, hA, hI, Fx.rf⟩
  · rw [if_neg c1, if_neg c1]
    obtain ⟨n, n12, hn, hq⟩ := hI.1.2
    have e25 : M (46 * x + 25) = nI n := hA.p25.trans hn
    rw [e25, nI_clamp (by omega), hn]
    unfold f_X5_add
    rw [if_neg (show ¬ nI n < 0 from nI_pos (by omega)), nI_clamp (by omega)]
    by_cases c2 : n = 12
    · rw [if_pos (by rw [c2]), if_neg (fun z => by have := (nI_ltI (by omega) (by decide)).mp z; omega)]
      dsimp only
      refine ⟨rfl, hA.cong (fun j _ => ?_) (fun _ _ => rfl), ⟨hI.1.of (fun j _ _ => ?_) hI.1.1.1.2.1 hI.1.1.1.2.2.1 rfl hI.1.1.1.2.2.2.2, hI.2⟩, Fx.rf⟩
      all_goals
        by_cases ej : j = 25
        · subst ej
          rw [pk_us]
          first | exact hn | exact hn.symm
        · rw [pk_un ej]
    · rw [if_neg (fun z => c2 ((nI_eq (by omega) (by decide)).mp z)), if_pos ((nI_ltI (by omega) (by decide)).mpr (by omega))]
      dsimp only
      have h1 := AtF.lineU (M0 := M) ⟨hA, Fr_rf⟩ (j := n) (by omega) p0
      have e2 : upd M (46 * x + 26 + n) p0 (46 * x + 25) = nI n := by rw [pk_un (by omega)]; exact e25
      have h2 := AtF.plainU h1 (j := 25) (by decide) (nI n + nI 1)
      rw [e2, pk_us]
      refine ⟨rfl, h2.1, ⟨⟨hI.1.1.of25 _, n + 1, by omega, by rw [pk_us, nI_add], fun j hj => ?_⟩, hI.2.of rfl rfl rfl rfl rfl rfl rfl⟩, Fx.of h2.2⟩
      by_cases ej : j = n
      · subst ej
        rw [pk_us]
        exact inK3 (x := p0) c1
      · rw [pk_un ej]
        exact hq j (by omega)
theorem start_i {v q ov oq : Nat → Int32} {p1 : Int32} {i : Nat} (hi : i < 4) : f_X2_startLoad v q ov oq (nI i) p1 = if f_X6_isWithin p1 (nI 0) (nI 2) = 0 then ((-1), v, ov, oq) else if f_X3_isEmpty (v (13 + i)) = 0 then (((-10) - nI 1), v, ov, oq) else if (f_X2_reasonAgainst v q ov oq p1).1 = 0 then (f_X6_ticksOf p1, putM v i p1, (f_X2_reasonAgainst v q ov oq p1).2.1, (f_X2_reasonAgainst v q ov oq p1).2.2) else ((-10) - (f_X2_reasonAgainst v q ov oq p1).1, v, (f_X2_reasonAgainst v q ov oq p1).2.1, (f_X2_reasonAgainst v q ov oq p1).2.2) := by
  have h4 : i = 0 ∨ i = 1 ∨ i = 2 ∨ i = 3 := by omega
  rcases h4 with rfl | rfl | rfl | rfl
  · unfold f_X2_startLoad
    rw [if_pos rfl]
    rfl
  · unfold f_X2_startLoad
    rw [if_neg (show ¬ nI 1 = nI 0 by decide), if_pos rfl]
    rfl
  · unfold f_X2_startLoad
    rw [if_neg (show ¬ nI 2 = nI 0 by decide), if_neg (show ¬ nI 2 = nI 1 by decide), if_pos rfl]
    rfl
  · unfold f_X2_startLoad
    rw [if_neg (show ¬ nI 3 = nI 0 by decide), if_neg (show ¬ nI 3 = nI 1 by decide), if_neg (show ¬ nI 3 = nI 2 by decide), if_pos rfl]
    rfl
theorem whyV_4 (v : Nat → Int32) (p k : Int32) : whyV v p k = nI 0 ∨ whyV v p k = nI 1 ∨ whyV v p k = nI 2 ∨ whyV v p k = nI 3 := by
  unfold whyV
  by_cases c1 : p < 0
  · rw [if_pos c1]; exact Or.inr (Or.inl rfl)
  · rw [if_neg c1]
    by_cases c2 : v (13 + p.toNatClampNeg) = -5
    · rw [if_pos c2]
      by_cases c3 : nI 10 ≤ f_X2_allPressure v
      · rw [if_pos c3]
        by_cases c4 : wIn (f_X6_ticksOf k).toNatClampNeg (putM v p.toNatClampNeg k) = true
        · rw [if_pos c4]; exact Or.inr (Or.inr (Or.inr rfl))
        · rw [if_neg c4]; exact Or.inl rfl
      · rw [if_neg c3]; exact Or.inr (Or.inr (Or.inl rfl))
    · rw [if_neg c2]; exact Or.inr (Or.inl rfl)
theorem whyV_le (v : Nat → Int32) (p k : Int32) : whyV v p k ≤ 0 ↔ whyV v p k = 0 := by
  rcases whyV_4 v p k with e | e | e | e <;> rw [e] <;> decide
theorem InvL.put {v q : Nat → Int32} {i : Nat} {k : Int32} (h : InvL v q) (hi : i < 4) (hk : k = 0 ∨ k = 1 ∨ k = 2) : InvL (putM v i k) q := by
  obtain ⟨hW, n, h1, h2, h3⟩ := h
  refine ⟨hW.put hi hk, n, h1, ?_, h3⟩
  unfold putM
  rw [pk_un (by omega), pk_un (by omega), pk_un (by omega), pk_un (by omega)]
  exact h2
theorem putM_keep {v : Nat → Int32} {i j : Nat} {k : Int32} (hi : i < 4) (hj : j < 13 ∨ (25 ≤ j ∧ j ≠ 40)) : putM v i k j = v j := by
  unfold putM
  rw [pk_un (by omega), pk_un (by omega), pk_un (by omega), pk_un (by omega)]
theorem RB.put {B i : Nat} {v : Nat → Int32} {k : Int32} (h : RB B v) (hi : i < 4) : RB B (putM v i k) :=
  h.of (putM_keep (j := 0) hi (by decide)) (putM_keep (j := 1) hi (by decide)) (putM_keep (j := 2) hi (by decide)) (putM_keep (j := 3) hi (by decide)) (putM_keep (j := 12) hi (by decide)) (putM_keep (j := 41) hi (by decide)) (putM_keep (j := 38) hi (by decide))
theorem starts_at {M v q ov oq : Nat → Int32} {x : Nat} {p0 p1 : Int32} (hx : x ≤ 6) (hA : At M (46 * x) v q) (hI : IS v q) : Act M (f_X7_starts M x p0 p1).2 x (f_X7_starts M x p0 p1).1 (f_X2_startLoad v q ov oq p0 p1).1 (f_X2_startLoad v q ov oq p0 p1).2.1 q := by
  unfold f_X7_starts
  by_cases c0 : f_X7_in p0 (nI 0) (nI 3) = 0
  · rw [if_pos c0]
    have hne : ∀ i, i < 4 → ¬ p0 = nI i := fun i hi z => in_of (i := i) (n := 3) (by omega) (by decide) (by rw [← z]; exact c0)
    unfold f_X2_startLoad
    rw [if_neg (hne 0 (by omega)), if_neg (hne 1 (by omega)), if_neg (hne 2 (by omega)), if_neg (hne 3 (by omega))]
    exact ⟨rfl, hA, hI, Fx.rf⟩
  · rw [if_neg c0]
    obtain ⟨i, hi, e⟩ := in_nat c0 (by decide)
    rw [e, start_i (by omega), in_eq p1, nI_clamp (by omega)]
    by_cases c1 : f_X6_isWithin p1 (nI 0) (nI 2) = 0
    · rw [if_pos c1, if_pos c1]
      exact ⟨rfl, hA, hI, Fx.rf⟩
    · rw [if_neg c1, if_neg c1]
      have hk := inK3 (x := p1) c1
      obtain ⟨g1, g2⟩ := why_at (p0 := nI i) hx hA hI.1.1 ((nI_ltI (by omega) (by decide)).mpr (by omega)) hk
      generalize hR : f_X7_why M x (nI i) p1 = R at g1 g2 ⊢
      obtain ⟨r, M2⟩ := R
      dsimp only at g1 g2 ⊢
      have hA2 : At M2 (46 * x) v q := hA.fr (fun j h1 h2 => g2 j (by omega))
      rw [g1]
      by_cases c2 : v (13 + i) = -5
      · rw [if_neg (emp5 c2)]
        have r1 := rea_at (v := v) (q := q) (ov := ov) (oq := oq) hk
        rw [r1, ← why_any (i := i) hI.1.1.2 (by omega) c2]
        by_cases c3 : whyV v (nI i) p1 = 0
        · rw [if_pos ((whyV_le _ _ _).mpr c3), if_pos c3]
          have h3 := puts_at (M0 := M2) ⟨hA2, Fr_rf⟩ (i := i) (k := p1) (by omega) hk
          refine ⟨tk_k hk, h3.1, ⟨hI.1.put (by omega) hk, hI.2.put (by omega)⟩, fun j h1 h2 => (h3.2 j h1).trans (g2 j h2)⟩
        · rw [if_neg (fun z => c3 ((whyV_le _ _ _).mp z)), if_neg c3]
          exact ⟨rfl, hA2, hI, fun j _ h2 => g2 j h2⟩
      · rw [if_pos (emp_ne.mpr c2)]
        have e1 : whyV v (nI i) p1 = nI 1 := by
          unfold whyV
          rw [if_neg (nI_pos (by omega)), nI_clamp (by omega), if_neg c2]
        rw [e1, if_neg (show ¬ nI 1 ≤ 0 by decide)]
        exact ⟨rfl, hA2, hI, fun j _ h2 => g2 j h2⟩
theorem letp_N {p0 z : Int32} : ∀ (n : Nat) (v q ov oq : Nat → Int32) (i : Nat), i ≤ p0.toNatClampNeg → p0.toNatClampNeg - i < n → s_X2_letPass_36 p0 n v q ov oq z i = ((passN (p0.toNatClampNeg - i) v q ov oq).1 41 - z, (passN (p0.toNatClampNeg - i) v q ov oq).1, (passN (p0.toNatClampNeg - i) v q ov oq).2.1, (passN (p0.toNatClampNeg - i) v q ov oq).2.2.1, (passN (p0.toNatClampNeg - i) v q ov oq).2.2.2)
  | 0, _, _, _, _, _, _, h => absurd h (Nat.not_lt_zero _)
  | n + 1, v, q, ov, oq, i, hi, hn => by
    have hb := natBig p0
    rw [s_X2_letPass_36]
    by_cases c : p0 ≤ nI i
    · rw [if_pos c]
      have : p0.toNatClampNeg - i = 0 := by
        rcases Nat.lt_or_ge i p0.toNatClampNeg with h | h
        · exfalso
          have hp : ¬ p0 < 0 := fun z => by
            have := natBig p0
            have e0 : p0.toNatClampNeg = 0 := by
              rw [Int32.lt_iff_toInt_lt] at z
              have h0 : (0 : Int32).toInt = 0 := by decide
              have : p0.toNatClampNeg = p0.toInt.toNat := rfl
              omega
            omega
          rw [natOf hp, nI_leI hb (by omega)] at c
          omega
        · omega
      rw [this]
      rfl
    · rw [if_neg c]
      have hlt := ltNat c (by omega)
      have e : p0.toNatClampNeg - i = (p0.toNatClampNeg - (i + 1)) + 1 := by omega
      rw [e]
      have h := letp_N (p0 := p0) (z := z) n (f_X2_passTick v q ov oq).1 (f_X2_passTick v q ov oq).2.1 (f_X2_passTick v q ov oq).2.2.1 (f_X2_passTick v q ov oq).2.2.2 (i + 1) (by omega) (by omega)
      exact h
theorem runs_at {M v q ov oq : Nat → Int32} {x : Nat} {p0 : Int32} (hx : x ≤ 6) (hA : At M (46 * x) v q) (hI : IS v q) : Act M (f_X7_runs M x p0).2 x (f_X7_runs M x p0).1 (f_X2_letPass v q ov oq p0).1 (f_X2_letPass v q ov oq p0).2.1 (f_X2_letPass v q ov oq p0).2.2.1 := by
  unfold f_X7_runs f_X2_letPass
  rw [in_eq p0]
  by_cases c1 : f_X6_isWithin p0 (nI 1) (nI 200) = 0
  · rw [if_pos c1, if_pos c1]
    exact ⟨rfl, hA, hI, Fx.rf⟩
  · rw [if_neg c1, if_neg c1]
    obtain ⟨k, hk1, hk, ek⟩ := in_1n (p := p0) (n := 200) c1 (by decide)
    obtain ⟨t, w, c, h1, h2, h3, e12, e41, e38⟩ := hI.2.2.2
    have e0 : M (46 * x + 12) = v 12 := hA.p12
    have e : v 12 + p0 ≤ nI 99999 ↔ v 12 ≤ nI 99999 - p0 := by
      rw [e12, ek, nI_add, pk_sub (by omega), nI_leI (by omega) (by decide), nI_leI (by omega) (by omega)]
      exact ⟨fun h => by omega, fun h => by omega⟩
    rw [e0]
    by_cases c2 : v 12 + p0 ≤ nI 99999
    · rw [if_pos (e.mp c2), if_pos c2, letp_N _ _ _ _ _ _ (Nat.zero_le _) (by omega), ticks_eqN, Nat.sub_zero]
      obtain ⟨g1, g2, g3⟩ := passN_at hx p0.toNatClampNeg M v q ov oq hA hI.1
      have hb := passN_rb p0.toNatClampNeg v q ov oq hI.1 hI.2
      have hp : p0.toNatClampNeg = k := by rw [ek, nI_clamp (by omega)]
      rw [e12, ek, nI_add, nI_leI (by omega) (by decide)] at c2
      have e2 := passN_12 k v q ov oq
      rw [hp] at g1 g2 g3 hb ⊢
      rw [e12, nI_add] at e2
      have hb2 := (hb.tk e2 (by omega) (by omega)).up c2
      have q41 : stepN x k M (46 * x + 41) = (passN k v q ov oq).1 41 := g1.p41
      have m41 : M (46 * x + 41) = v 41 := hA.p41
      dsimp only
      rw [q41, m41]
      exact ⟨rfl, g1, ⟨g2, hb2⟩, g3⟩
    · rw [if_neg (fun z => c2 (e.mpr z)), if_neg c2]
      exact ⟨rfl, hA, hI, Fx.rf⟩
