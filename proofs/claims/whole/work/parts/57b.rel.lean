/-! the class beside the model: what holds between the calls -/
def RlH (M : Nat → Int32) (hn : Nat) (vs qs : Nat → Nat → Int32) : Prop := ∀ i, i < hn → At M (46 * (i + 1)) (vs i) (qs i) ∧ IS (vs i) (qs i)
def RlK (g M zv zq : Nat → Int32) (hs : Int32) : Prop := (hs = nI 0 ∧ g 1 = nI 0) ∨ (hs = nI 1 ∧ g 1 = nI 1 ∧ At M (46 * 5) zv zq ∧ IS zv zq)
def RlS (g : Nat → Int32) (sn se : Int32) : Prop := (g 6 < 0 ∧ sn = -5 ∧ se = -5) ∨ (¬ g 6 < 0 ∧ sn = g 6 ∧ se = g 7)
def RlT (g : Nat → Int32) (tl : Int32) : Prop := ∃ n, n ≤ 80 ∧ tl = nI n ∧ g 2 = nI n
def Rl (hs sn se : Int32) (nv nq zv zq : Nat → Int32) (hn : Nat) (vs qs : Nat → Nat → Int32) (tl : Int32) (g M : Nat → Int32) : Prop := hn ≤ 4 ∧ g 0 = nI hn ∧ At M 0 nv nq ∧ IS nv nq ∧ RlH M hn vs qs ∧ RlK g M zv zq hs ∧ RlS g sn se ∧ RlT g tl
theorem At.cpyK {M v q : Nat → Int32} {x y b : Nat} (h : At M b v q) (hd : b + 46 ≤ 46 * y ∨ 46 * y + 46 ≤ b) : At (cpyM M x y 46) b v q := h.fr (fun j h1 h2 => cpy_fr (by omega))
theorem rec_rl {g M nv nq : Nat → Int32} {hn : Nat} {xs : Nat → Nat → Nat} {vs qs : Nat → Nat → Int32} (h4 : hn ≤ 4) (h0 : g 0 = nI hn) (hA : At M 0 nv nq) (hI : IS nv nq) (hH : RlH M hn vs qs) :
    (f_X1_push hn xs vs qs nv nq).1 ≤ 4 ∧ (f_X7_records g M hn).1 0 = nI (f_X1_push hn xs vs qs nv nq).1 ∧ (∀ j, 0 < j → (f_X7_records g M hn).1 j = g j) ∧ RlH (f_X7_records g M hn).2 (f_X1_push hn xs vs qs nv nq).1 (f_X1_push hn xs vs qs nv nq).2.2.1 (f_X1_push hn xs vs qs nv nq).2.2.2 := by
  unfold f_X1_push f_X7_records
  by_cases c : hn = 4
  · subst c
    rw [if_pos rfl, if_pos rfl]
    dsimp only
    refine ⟨Nat.le_refl 4, ?_, fun j hj => ?_, fun i hi => ?_⟩
    · rw [pk_us, h0, pk_sub (by omega), nI_add]
    · rw [pk_un (by omega), pk_un (by omega)]
    · rcases at4 hi with rfl | rfl | rfl | rfl
      · exact ⟨(((cpy_at (x := 2) (y := 1) (hH 1 (by omega)).1).cpyK (y := 2) (by omega)).cpyK (y := 3) (by omega)).cpyK (y := 4) (by omega), (hH 1 (by omega)).2⟩
      · exact ⟨((cpy_at (x := 3) (y := 2) ((hH 2 (by omega)).1.cpyK (x := 2) (y := 1) (by omega))).cpyK (y := 3) (by omega)).cpyK (y := 4) (by omega), (hH 2 (by omega)).2⟩
      · exact ⟨(cpy_at (x := 4) (y := 3) (((hH 3 (by omega)).1.cpyK (x := 2) (y := 1) (by omega)).cpyK (x := 3) (y := 2) (by omega))).cpyK (y := 4) (by omega), (hH 3 (by omega)).2⟩
      · exact ⟨cpy_at (x := 0) (y := 4) (((hA.cpyK (x := 2) (y := 1) (by omega)).cpyK (x := 3) (y := 2) (by omega)).cpyK (x := 4) (y := 3) (by omega)), hI⟩
  · rw [if_neg c, if_neg (fun z => c ((nI_eq (by omega) (by decide)).mp z))]
    dsimp only
    refine ⟨by omega, ?_, fun j hj => ?_, fun i hi => ?_⟩
    · rw [pk_us, h0, nI_add]
    · rw [pk_un (by omega)]
    · by_cases e : i = hn
      · subst e
        dsimp only
        rw [if_pos rfl, if_pos rfl]
        exact ⟨cpy_at (x := 0) hA, hI⟩
      · dsimp only
        rw [if_neg e, if_neg e]
        exact ⟨(hH i (by omega)).1.cpyK (by omega), (hH i (by omega)).2⟩
theorem Rl.move {hs sn se tl : Int32} {nv nq zv zq g M g' M' : Nat → Int32} {hn : Nat} {vs qs : Nat → Nat → Int32} (hR : Rl hs sn se nv nq zv zq hn vs qs tl g M) (hg : ∀ j, (j < 3 ∨ 6 ≤ j) → g' j = g j) (hM : ∀ j, j < 276 → M' j = M j) : Rl hs sn se nv nq zv zq hn vs qs tl g' M' := by
  obtain ⟨h4, h0, hA, hI, hH, hK, hS, hT⟩ := hR
  refine ⟨h4, by rw [hg 0 (by omega)]; exact h0, hA.fr (fun j _ h2 => hM j (by omega)), hI, fun i hi => ⟨(hH i hi).1.fr (fun j _ h2 => hM j (by omega)), (hH i hi).2⟩, ?_, ?_, ?_⟩
  · unfold RlK
    rw [hg 1 (by omega)]
    rcases hK with h | ⟨h1, h2, h3, h5⟩
    · exact Or.inl h
    · exact Or.inr ⟨h1, h2, h3.fr (fun j _ h6 => hM j (by omega)), h5⟩
  · unfold RlS
    rw [hg 6 (by omega), hg 7 (by omega)]
    exact hS
  · unfold RlT
    rw [hg 2 (by omega)]
    exact hT
/-- an act on the state itself, behind the record -/
theorem direct_rl {hs sn se tl : Int32} {nv nq zv zq g M M' v' q' : Nat → Int32} {hn : Nat} {xs : Nat → Nat → Nat} {vs qs : Nat → Nat → Int32} (hR : Rl hs sn se nv nq zv zq hn vs qs tl g M) (hA : At M' 0 v' q') (hI : IS v' q') (hF : ∀ j, 46 ≤ j → j < 276 → M' j = (f_X7_records g M hn).2 j) :
    Rl hs sn se v' q' zv zq (f_X1_push hn xs vs qs nv nq).1 (f_X1_push hn xs vs qs nv nq).2.2.1 (f_X1_push hn xs vs qs nv nq).2.2.2 tl (f_X7_records g M hn).1 M' := by
  obtain ⟨h4, h0, hA0, hI0, hH, hK, hS, hT⟩ := hR
  obtain ⟨r1, r2, r3, r4⟩ := rec_rl (xs := xs) h4 h0 hA0 hI0 hH
  refine ⟨r1, r2, hA, hI, fun i hi => ⟨(r4 i hi).1.fr (fun j h1 h2 => hF j (by omega) (by omega)), (r4 i hi).2⟩, ?_, ?_, ?_⟩
  · unfold RlK
    rw [r3 1 (by omega)]
    rcases hK with h | ⟨h1, h2, h3, h5⟩
    · exact Or.inl h
    · exact Or.inr ⟨h1, h2, h3.fr (fun j h6 h7 => (hF j (by omega) (by omega)).trans (rec_keep h4 (by omega))), h5⟩
  · unfold RlS
    rw [r3 6 (by omega), r3 7 (by omega)]
    exact hS
  · unfold RlT
    rw [r3 2 (by omega)]
    exact hT
/-- an act tried in a slot of its own, and taken if it is no error -/
theorem settle_rl {hs sn se tl r r' : Int32} {nv nq zv zq g M M' v' q' : Nat → Int32} {hn : Nat} {xs : Nat → Nat → Nat} {vs qs : Nat → Nat → Int32} (hR : Rl hs sn se nv nq zv zq hn vs qs tl g M) (hA : Act (cpyM M 0 6 46) M' 6 r r' v' q') (hneg : r' < 0 → v' = nv ∧ q' = nq) :
    (f_X6_recorded nv nq hn xs vs qs r').1 = (f_X7_settles g M' r hn).1 ∧ Rl hs sn se v' q' zv zq (f_X6_recorded nv nq hn xs vs qs r').2.1 (f_X6_recorded nv nq hn xs vs qs r').2.2.2.1 (f_X6_recorded nv nq hn xs vs qs r').2.2.2.2 tl (f_X7_settles g M' r hn).2.1 (f_X7_settles g M' r hn).2.2 := by
  obtain ⟨e, hA1, hI1, hF⟩ := hA
  subst e
  have hlow : ∀ j, j < 276 → M' j = M j := fun j hj => (hF j (by omega) (by omega)).trans (cpy_fr (by omega))
  have hR1 := hR.move (g' := g) (M' := M') (fun _ _ => rfl) hlow
  unfold f_X6_recorded f_X7_settles
  by_cases c : r < 0
  · rw [if_pos c, if_pos c]
    obtain ⟨e1, e2⟩ := hneg c
    subst e1 e2
    exact ⟨rfl, hR1⟩
  · rw [if_neg c, if_neg c]
    exact ⟨rfl, direct_rl (xs := xs) hR1 (cpy_at (x := 6) (y := 0) (hA1.fr (fun j h1 h2 => rec_keep hR.1 (by omega)))) hI1 (fun j h1 _ => cpy_fr (by omega))⟩
theorem nneg {x : Int32} (h : 0 ≤ x) : ¬ x < 0 := Int32.not_lt.mpr h
theorem cf_neg {v : Nat → Int32} {p0 p1 : Int32} (h0 : 0 ≤ v 0) (h1 : 0 ≤ v 1) : (f_X2_changeFire v p0 p1).1 < 0 → (f_X2_changeFire v p0 p1).2 = v := by
  unfold f_X2_changeFire
  repeat' split
  all_goals first | exact fun _ => rfl | exact fun z => absurd z (nneg h0) | exact fun z => absurd z (nneg h1)
theorem nn_add {x y : Int32} (h0 : 0 ≤ x) (h2 : x ≤ nI 200) (c : ¬ f_X6_isWithin y (nI 1) (nI 200) = 0) : ¬ x + y < 0 := by
  obtain ⟨i, -, hi, rfl⟩ := in_1n (p := y) (n := 200) c (by decide)
  obtain ⟨j, hj, rfl⟩ := nI_of2 (n := 200) (by decide) (nneg h0) h2
  rw [nI_add]
  exact nI_pos (by omega)
theorem lw_neg {v : Nat → Int32} {p0 p1 : Int32} (h0 : 0 ≤ v 2) (h1 : 0 ≤ v 3) (k0 : v 2 ≤ nI 200) (k1 : v 3 ≤ nI 200) : (f_X2_letWaterIn v p0 p1).1 < 0 → (f_X2_letWaterIn v p0 p1).2 = v := by
  unfold f_X2_letWaterIn
  by_cases a0 : p0 = nI 0
  · rw [if_pos a0]
    by_cases c : f_X6_isWithin p1 (nI 1) (nI 200) = 0
    · rw [if_pos c]; exact fun _ => rfl
    · rw [if_neg c]
      by_cases d : v 2 + p1 ≤ nI 200
      · rw [if_pos d]; exact fun z => absurd z (nn_add h0 k0 c)
      · rw [if_neg d]; exact fun _ => rfl
  · rw [if_neg a0]
    by_cases a1 : p0 = nI 1
    · rw [if_pos a1]
      by_cases c : f_X6_isWithin p1 (nI 1) (nI 200) = 0
      · rw [if_pos c]; exact fun _ => rfl
      · rw [if_neg c]
        by_cases d : v 3 + p1 ≤ nI 200
        · rw [if_pos d]; exact fun z => absurd z (nn_add h1 k1 c)
        · rw [if_neg d]; exact fun _ => rfl
    · rw [if_neg a1]; exact fun _ => rfl
theorem upd_id {f : Nat → Int32} {k : Nat} {x : Int32} (h : f k = x) : upd f k x = f := by
  funext j
  by_cases e : j = k
  · subst e; rw [pk_us]; exact h.symm
  · exact pk_un e
theorem al_neg {v q : Nat → Int32} {p0 : Int32} {n : Nat} (h : v 25 = nI n) (hn : n ≤ 12) : (f_X2_addToLine v q p0).1 < 0 → (f_X2_addToLine v q p0).2.1 = v ∧ (f_X2_addToLine v q p0).2.2 = q := by
  unfold f_X2_addToLine
  by_cases c : f_X6_isWithin p0 (nI 0) (nI 2) = 0
  · rw [if_pos c]; exact fun _ => ⟨rfl, rfl⟩
  · rw [if_neg c]
    unfold f_X5_add
    by_cases c1 : v 25 < 0
    · rw [if_pos c1]; exact fun _ => ⟨upd_id rfl, rfl⟩
    · rw [if_neg c1]
      by_cases c2 : v 25 < nI 12
      · rw [if_pos c2]
        intro z
        exfalso
        have z : v 25 + nI 1 - nI 1 < 0 := z
        rw [h, nI_add, pk_sub (by omega)] at z
        exact nI_pos (by omega) z
      · rw [if_neg c2]; exact fun _ => ⟨upd_id rfl, rfl⟩
theorem sl_neg {v q ov oq : Nat → Int32} {p0 p1 : Int32} : (f_X2_startLoad v q ov oq p0 p1).1 < 0 → (f_X2_startLoad v q ov oq p0 p1).2.1 = v := by
  have key : ∀ i, i < 4 → p0 = nI i → (f_X2_startLoad v q ov oq p0 p1).1 < 0 → (f_X2_startLoad v q ov oq p0 p1).2.1 = v := by
    intro i hi e
    subst e
    rw [start_i hi]
    by_cases c : f_X6_isWithin p1 (nI 0) (nI 2) = 0
    · rw [if_pos c]; exact fun _ => rfl
    · rw [if_neg c]
      by_cases c1 : f_X3_isEmpty (v (13 + i)) = 0
      · rw [if_pos c1]; exact fun _ => rfl
      · rw [if_neg c1]
        by_cases c2 : (f_X2_reasonAgainst v q ov oq p1).1 = 0
        · rw [if_pos c2]
          intro z
          exfalso
          obtain ⟨n, h1, h2, h3⟩ := ticks_n (inK3 (x := p1) c)
          have z : f_X6_ticksOf p1 < 0 := z
          rw [h3] at z
          exact nI_pos (by omega) z
        · rw [if_neg c2]; exact fun _ => rfl
  by_cases c0 : p0 = nI 0
  · exact key 0 (by omega) c0
  · by_cases c1 : p0 = nI 1
    · exact key 1 (by omega) c1
    · by_cases c2 : p0 = nI 2
      · exact key 2 (by omega) c2
      · by_cases c3 : p0 = nI 3
        · exact key 3 (by omega) c3
        · unfold f_X2_startLoad
          rw [if_neg c0, if_neg c1, if_neg c2, if_neg c3]
          exact fun _ => rfl
/-! what is washed and burnt grows -/
theorem pass_41 {v q ov oq : Nat → Int32} : ∃ n, n ≤ 4 ∧ (f_X2_passTick v q ov oq).1 41 = v 41 + nI n := by
  rw [pass_keep (j := 41) (by omega), tick_eq]
  by_cases c : f_X2_need (preW v) ≤ f_X2_allPressure (preW v)
  · rw [if_pos c]
    obtain ⟨n, hn, e⟩ := wl_41 (f_X2_takeSteam (preW v) (f_X2_need (preW v)))
    refine ⟨n, hn, ?_⟩
    dsimp only
    rw [coolC_keep (j := 41) _ (by omega), e, takeS_keep (j := 41) _ (by omega) (by omega), preW_keep (j := 41) v (by omega) (by omega) (by omega) (by omega)]
  · rw [if_neg c]
    refine ⟨0, by omega, ?_⟩
    dsimp only
    rw [coolC_keep (j := 41) _ (by omega), hl_keep (j := 41) _ (by omega) (by omega) (by omega), preW_keep (j := 41) v (by omega) (by omega) (by omega) (by omega), add0]
theorem passN_41 : ∀ (k : Nat) (v q ov oq : Nat → Int32), ∃ n, n ≤ 4 * k ∧ (passN k v q ov oq).1 41 = v 41 + nI n
  | 0, v, q, ov, oq => ⟨0, by omega, (add0 _).symm⟩
  | k + 1, v, q, ov, oq => by
    obtain ⟨n, hn, e⟩ := pass_41 (v := v) (q := q) (ov := ov) (oq := oq)
    obtain ⟨m, hm, e2⟩ := passN_41 k (f_X2_passTick v q ov oq).1 (f_X2_passTick v q ov oq).2.1 (f_X2_passTick v q ov oq).2.2.1 (f_X2_passTick v q ov oq).2.2.2
    refine ⟨n + m, by omega, ?_⟩
    have e3 : (passN (k + 1) v q ov oq).1 41 = (f_X2_passTick v q ov oq).1 41 + nI m := e2
    rw [e3, e, Int32.add_assoc, nI_add]
theorem sub_self_add (x y : Int32) : x + y - x = y := by
  rw [Int32.add_comm, Int32.add_sub_cancel]
theorem lp_neg {v q ov oq : Nat → Int32} {p0 : Int32} : (f_X2_letPass v q ov oq p0).1 < 0 → (f_X2_letPass v q ov oq p0).2.1 = v ∧ (f_X2_letPass v q ov oq p0).2.2.1 = q := by
  unfold f_X2_letPass
  by_cases c1 : f_X6_isWithin p0 (nI 1) (nI 200) = 0
  · rw [if_pos c1]; exact fun _ => ⟨rfl, rfl⟩
  · rw [if_neg c1]
    by_cases c2 : v 12 + p0 ≤ nI 99999
    · rw [if_pos c2, letp_N _ _ _ _ _ _ (Nat.zero_le _) (by omega), Nat.sub_zero]
      intro z
      exfalso
      obtain ⟨k, -, hk, ek⟩ := in_1n (p := p0) (n := 200) c1 (by decide)
      obtain ⟨n, hn, e⟩ := passN_41 p0.toNatClampNeg v q ov oq
      have hp : p0.toNatClampNeg = k := by rw [ek, nI_clamp (by omega)]
      have z : (passN p0.toNatClampNeg v q ov oq).1 41 - v 41 < 0 := z
      rw [e, sub_self_add] at z
      exact nI_pos (by omega) z
    · rw [if_neg c2]; exact fun _ => ⟨rfl, rfl⟩
