/-! the fires that would do: the class beside the model -/
theorem pass_38 {v q ov oq : Nat → Int32} (hT : InvT v) (hf : v 0 ≤ nI 5 ∧ v 1 ≤ nI 5) : ∃ n, n ≤ 10 ∧ (f_X2_passTick v q ov oq).1 38 = v 38 + nI n := by
  obtain ⟨-, -, -, n, hn, e⟩ := preW_b hT hf
  refine ⟨n, hn, ?_⟩
  rw [pass_keep (j := 38) (by omega), tick_eq]
  by_cases c : f_X2_need (preW v) ≤ f_X2_allPressure (preW v)
  · rw [if_pos c]
    dsimp only
    rw [coolC_keep (j := 38) _ (by omega), wl_keep (j := 38) _ (by omega) (by omega) (by omega), takeS_keep (j := 38) _ (by omega) (by omega), e]
  · rw [if_neg c]
    dsimp only
    rw [coolC_keep (j := 38) _ (by omega), hl_keep (j := 38) _ (by omega) (by omega) (by omega), e]
theorem pass_L {v q ov oq : Nat → Int32} (hL : InvL v q) : InvL (f_X2_passTick v q ov oq).1 (f_X2_passTick v q ov oq).2.1 :=
  (pass_at (x := 0) (M0 := enc v q) (M := fun j => enc v q (j - 46 * 0)) (v := v) (q := q) ov oq (by omega) (fun j _ => by simp) hL).2.1
theorem passN_38 : ∀ (k B : Nat) (v q ov oq : Nat → Int32), InvL v q → RB B v → ∃ n, n ≤ 10 * k ∧ (passN k v q ov oq).1 38 = v 38 + nI n
  | 0, _, v, q, ov, oq, _, _ => ⟨0, by omega, (add0 _).symm⟩
  | k + 1, B, v, q, ov, oq, hL, hB => by
    obtain ⟨n, hn, e⟩ := pass_38 (q := q) (ov := ov) (oq := oq) hL.1.1 hB.1
    obtain ⟨m, hm, e2⟩ := passN_38 k (B + 1) (f_X2_passTick v q ov oq).1 (f_X2_passTick v q ov oq).2.1 (f_X2_passTick v q ov oq).2.2.1 (f_X2_passTick v q ov oq).2.2.2 (pass_L hL) (hB.pass hL.1.1)
    refine ⟨n + m, by omega, ?_⟩
    have e3 : (passN (k + 1) v q ov oq).1 38 = (f_X2_passTick v q ov oq).1 38 + nI m := e2
    rw [e3, e, Int32.add_assoc, nI_add]
def Bt (bb bm bl a w : Int32) : Prop := bb = -5 ∨ bm < a ∨ (a = bm ∧ ¬ bl ≤ w)
def Bt2 (bm bl a w : Int32) : Prop := bm < a ∨ (a = bm ∧ ¬ bl ≤ w)
theorem best_c {nv nq av aq yv yq : Nat → Int32} {p0 bb bm bl : Int32} {F i j : Nat} (hj : j ≤ 5) :
    (Bt bb bm bl ((f_X6_lookAhead nv nq yv yq (nI i) (nI j) p0).1 41) ((f_X6_lookAhead nv nq yv yq (nI i) (nI j) p0).1 38) → s_X6_bestFires_33 nv nq p0 (F + 1) av aq yv yq bb bm bl i j = s_X6_bestFires_33 nv nq p0 F (f_X6_lookAhead nv nq yv yq (nI i) (nI j) p0).1 (f_X6_lookAhead nv nq yv yq (nI i) (nI j) p0).2.1 (f_X6_lookAhead nv nq yv yq (nI i) (nI j) p0).2.2.1 (f_X6_lookAhead nv nq yv yq (nI i) (nI j) p0).2.2.2 (nI (10 * i + j)) ((f_X6_lookAhead nv nq yv yq (nI i) (nI j) p0).1 41) ((f_X6_lookAhead nv nq yv yq (nI i) (nI j) p0).1 38) i (j + 1)) ∧
    (¬ Bt bb bm bl ((f_X6_lookAhead nv nq yv yq (nI i) (nI j) p0).1 41) ((f_X6_lookAhead nv nq yv yq (nI i) (nI j) p0).1 38) → s_X6_bestFires_33 nv nq p0 (F + 1) av aq yv yq bb bm bl i j = s_X6_bestFires_33 nv nq p0 F (f_X6_lookAhead nv nq yv yq (nI i) (nI j) p0).1 (f_X6_lookAhead nv nq yv yq (nI i) (nI j) p0).2.1 (f_X6_lookAhead nv nq yv yq (nI i) (nI j) p0).2.2.1 (f_X6_lookAhead nv nq yv yq (nI i) (nI j) p0).2.2.2 bb bm bl i (j + 1)) := by
  rw [s_X6_bestFires_33, if_neg (fun z => by have := (nI_ltI (by decide) (by omega)).mp z; omega)]
  generalize f_X6_lookAhead nv nq yv yq (nI i) (nI j) p0 = A
  obtain ⟨a1, a2, a3, a4⟩ := A
  dsimp only
  unfold Bt
  by_cases c1 : a1 41 = bm
  · rw [if_pos c1]
    by_cases c2 : bl ≤ a1 38
    · rw [if_pos c2]
      by_cases c3 : bb = -5
      · rw [if_pos c3]; exact ⟨fun _ => rfl, fun z => absurd (Or.inl c3) z⟩
      · rw [if_neg c3]
        by_cases c4 : bm < a1 41
        · rw [if_pos c4]; exact ⟨fun _ => rfl, fun z => absurd (Or.inr (Or.inl c4)) z⟩
        · rw [if_neg c4]
          refine ⟨fun z => ?_, fun _ => rfl⟩
          rcases z with z | z | z
          · exact absurd z c3
          · exact absurd z c4
          · exact absurd c2 z.2
    · rw [if_neg c2]
      refine ⟨fun _ => ?_, fun z => absurd (Or.inr (Or.inr ⟨c1, c2⟩)) z⟩
      by_cases c3 : bb = -5
      · rw [if_pos c3]
      · rw [if_neg c3]
        by_cases c4 : bm < a1 41
        · rw [if_pos c4]
        · rw [if_neg c4]
  · rw [if_neg c1]
    by_cases c3 : bb = -5
    · rw [if_pos c3]; exact ⟨fun _ => rfl, fun z => absurd (Or.inl c3) z⟩
    · rw [if_neg c3]
      by_cases c4 : bm < a1 41
      · rw [if_pos c4]; exact ⟨fun _ => rfl, fun z => absurd (Or.inr (Or.inl c4)) z⟩
      · rw [if_neg c4]
        refine ⟨fun z => ?_, fun _ => rfl⟩
        rcases z with z | z | z
        · exact absurd z c3
        · exact absurd z c4
        · exact absurd z.1 c1
theorem best_m {M : Nat → Int32} {p0 bb bm bc : Int32} {F k i j : Nat} (hk : k < 36) (hi : k / 6 = i) (hj : k % 6 = j) :
    (Bt2 bm bc (f_X7_more (f_X7_tries M (nI i) (nI j) p0) 41) (f_X7_more (f_X7_tries M (nI i) (nI j) p0) 38) → s_X7_bestFires_23 p0 (F + 1) M bb bm bc k = s_X7_bestFires_23 p0 F (f_X7_tries M (nI i) (nI j) p0) (nI (10 * i + j)) (f_X7_more (f_X7_tries M (nI i) (nI j) p0) 41) (f_X7_more (f_X7_tries M (nI i) (nI j) p0) 38) (k + 1)) ∧
    (¬ Bt2 bm bc (f_X7_more (f_X7_tries M (nI i) (nI j) p0) 41) (f_X7_more (f_X7_tries M (nI i) (nI j) p0) 38) → s_X7_bestFires_23 p0 (F + 1) M bb bm bc k = s_X7_bestFires_23 p0 F (f_X7_tries M (nI i) (nI j) p0) bb bm bc (k + 1)) := by
  rw [s_X7_bestFires_23, if_neg (fun z => by have := (nI_leI (by decide) (by omega)).mp z; omega), rem6 hk, div6 hk, hi, hj, pk_mul, nI_add]
  generalize f_X7_tries M (nI i) (nI j) p0 = B
  dsimp only
  unfold Bt2
  by_cases c1 : bm < f_X7_more B 41
  · rw [if_pos c1]; exact ⟨fun _ => rfl, fun z => absurd (Or.inl c1) z⟩
  · rw [if_neg c1]
    by_cases c2 : f_X7_more B 41 = bm
    · rw [if_pos c2]
      by_cases c3 : bc ≤ f_X7_more B 38
      · rw [if_pos c3]
        refine ⟨fun z => ?_, fun _ => rfl⟩
        rcases z with z | z
        · exact absurd z c1
        · exact absurd c3 z.2
      · rw [if_neg c3]; exact ⟨fun _ => rfl, fun z => absurd (Or.inr ⟨c2, c3⟩) z⟩
    · rw [if_neg c2]
      refine ⟨fun z => ?_, fun _ => rfl⟩
      rcases z with z | z
      · exact absurd z c1
      · exact absurd z.1 c2
def BS (W C i j : Nat) (bb bm bl bb' bm' bc' : Int32) : Prop := (i = 0 ∧ j = 0 ∧ bb = -5 ∧ bb' = nI 0 ∧ bm' = -1) ∨ ∃ x w c, x ≤ 100 ∧ w ≤ 400 ∧ c ≤ 1000 ∧ bb = nI x ∧ bb' = nI x ∧ bm = nI (W + w) ∧ bm' = nI w ∧ bl = nI (C + c) ∧ bc' = nI c
theorem n5 {x : Nat} (h : x ≤ 100) : ¬ nI x = -5 := fun z => by
  have h1 : nI x < 0 := by rw [z]; decide
  exact nI_pos (by omega) h1
theorem bt_eq {W C i j w1 c1 : Nat} {bb bm bl bb' bm' bc' : Int32} (hS : BS W C i j bb bm bl bb' bm' bc') (hW : W ≤ 1000000) (hC : C ≤ 1000000) (hw : w1 ≤ 400) (hc : c1 ≤ 1000) : Bt bb bm bl (nI (W + w1)) (nI (C + c1)) ↔ Bt2 bm' bc' (nI w1) (nI c1) := by
  unfold Bt Bt2
  rcases hS with ⟨-, -, h1, -, h2⟩ | ⟨x, w, c, h1, h2, h3, e1, e2, e3, e4, e5, e6⟩
  · subst h1 h2
    refine ⟨fun _ => Or.inl ?_, fun _ => Or.inl rfl⟩
    exact Int32.lt_of_lt_of_le m1_lt (nI_ge0 (by omega))
  · subst e1 e3 e4 e5 e6
    rw [nI_ltI (by omega) (by omega), nI_ltI (by omega) (by omega), nI_eq (by omega) (by omega), nI_eq (by omega) (by omega), nI_leI (by omega) (by omega), nI_leI (by omega) (by omega)]
    constructor
    · rintro (z | z | z)
      · exact absurd z (n5 h1)
      · exact Or.inl (by omega)
      · exact Or.inr (by omega)
    · rintro (z | z)
      · exact Or.inr (Or.inl (by omega))
      · exact Or.inr (Or.inr (by omega))
theorem RB.fir {B i j : Nat} {v : Nat → Int32} (h : RB B v) (hi : i ≤ 5) (hj : j ≤ 5) : RB B (fir v (nI i) (nI j)) := ⟨⟨nIle5 hi, nIle5 hj⟩, h.2.1, h.2.2⟩
theorem best_loop {M0 nv nq : Nat → Int32} {p0 : Int32} {p W C : Nat} (hp : p ≤ 100) (ep : p0 = nI p) (hA0 : At M0 0 nv nq) (hI : IS nv nq) (eW : nv 41 = nI W) (eC : nv 38 = nI C) (hW : W ≤ 1000000) (hC : C ≤ 1000000) : ∀ (F F2 i j : Nat) (M av aq yv yq : Nat → Int32) (bb bm bl bb' bm' bc' : Int32), i ≤ 5 → j ≤ 6 → 42 - (7 * i + j) ≤ F → 37 - (6 * i + j) ≤ F2 → BS W C i j bb bm bl bb' bm' bc' → (∀ k, k < 276 → M k = M0 k) →
    (s_X6_bestFires_33 nv nq p0 F av aq yv yq bb bm bl i j).1 = (s_X7_bestFires_23 p0 F2 M bb' bm' bc' (6 * i + j)).1 ∧ ∀ k, k < 276 → (s_X7_bestFires_23 p0 F2 M bb' bm' bc' (6 * i + j)).2 k = M0 k
  | 0, _, i, j, _, _, _, _, _, _, _, _, _, _, _, hi, hj, hF, _, _, _ => by omega
  | F + 1, 0, i, j, _, _, _, _, _, _, _, _, _, _, _, hi, hj, _, hF2, _, _ => by omega
  | F + 1, F2 + 1, i, j, M, av, aq, yv, yq, bb, bm, bl, bb', bm', bc', hi, hj, hF, hF2, hS, hM => by
    by_cases c6 : j = 6
    · subst c6
      by_cases c5 : i = 5
      · subst c5
        rw [s_X6_bestFires_33, if_pos (by decide), if_pos (by decide), s_X7_bestFires_23, if_pos (show nI 36 ≤ nI (6 * 5 + 6) by decide)]
        rcases hS with ⟨z, -⟩ | ⟨x, w, c, h1, h2, h3, e1, e2, -⟩
        · omega
        · exact ⟨e1.trans e2.symm, hM⟩
      · rw [s_X6_bestFires_33, if_pos (by decide), if_neg (fun z => by have := (nI_ltI (by decide) (by omega)).mp z; omega)]
        have h := best_loop hp ep hA0 hI eW eC hW hC F (F2 + 1) (i + 1) 0 M av aq yv yq bb bm bl bb' bm' bc' (by omega) (by omega) (by omega) (by omega) (by
          rcases hS with ⟨-, z, -⟩ | z
          · omega
          · exact Or.inr z) hM
        rw [show 6 * (i + 1) + 0 = 6 * i + 6 by omega] at h
        exact h
    · have hA : At M 0 nv nq := hA0.fr (fun k _ h2 => hM k (by omega))
      obtain ⟨t1, t2⟩ := tries_at (p0 := nI i) (p1 := nI j) (p2 := p0) yv yq hA hI.1 (nI_ge0 (by omega)) (nI_ge0 (by omega))
      have hM2 : ∀ k, k < 276 → f_X7_tries M (nI i) (nI j) p0 k = M0 k := fun k hk => (t2 k hk).trans (hM k hk)
      obtain ⟨b1, b2⟩ := best_c (nv := nv) (nq := nq) (av := av) (aq := aq) (yv := yv) (yq := yq) (p0 := p0) (bb := bb) (bm := bm) (bl := bl) (F := F) (i := i) (j := j) (by omega)
      obtain ⟨d1, d2⟩ := best_m (M := M) (p0 := p0) (bb := bb') (bm := bm') (bc := bc') (F := F2) (k := 6 * i + j) (i := i) (j := j) (by omega) (by omega) (by omega)
      obtain ⟨w1, hw1, ew1⟩ : ∃ n, n ≤ 400 ∧ (f_X6_lookAhead nv nq yv yq (nI i) (nI j) p0).1 41 = nI W + nI n := by
        obtain ⟨n, hn, e⟩ := passN_41 p0.toNatClampNeg (fir nv (nI i) (nI j)) nq yv yq
        rw [look_eq]
        refine ⟨n, ?_, by rw [e]; show nv 41 + nI n = _; rw [eW]⟩
        rw [ep, nI_clamp (by omega)] at hn
        omega
      obtain ⟨c1, hc1, ec1⟩ : ∃ n, n ≤ 1000 ∧ (f_X6_lookAhead nv nq yv yq (nI i) (nI j) p0).1 38 = nI C + nI n := by
        obtain ⟨n, hn, e⟩ := passN_38 p0.toNatClampNeg 99999 (fir nv (nI i) (nI j)) nq yv yq (hI.1.fir (nI_ge0 (by omega)) (nI_ge0 (by omega))) (hI.2.fir (by omega) (by omega))
        rw [look_eq]
        refine ⟨n, ?_, by rw [e]; show nv 38 + nI n = _; rw [eC]⟩
        rw [ep, nI_clamp (by omega)] at hn
        omega
      have m1 : f_X7_more (f_X7_tries M (nI i) (nI j) p0) 41 = nI w1 := by
        rw [more_at (j := 41) t1 hA t2 (by omega), ew1, eW, sub_self_add]
      have m2 : f_X7_more (f_X7_tries M (nI i) (nI j) p0) 38 = nI c1 := by
        rw [more_at (j := 38) t1 hA t2 (by omega), ec1, eC, sub_self_add]
      rw [ew1, ec1, nI_add, nI_add] at b1 b2
      rw [m1, m2] at d1 d2
      have hbt := bt_eq hS hW hC hw1 hc1
      by_cases c : Bt bb bm bl (nI (W + w1)) (nI (C + c1))
      · rw [b1 c, d1 (hbt.mp c)]
        exact best_loop hp ep hA0 hI eW eC hW hC F F2 i (j + 1) _ _ _ _ _ _ _ _ _ _ _ hi (by omega) (by omega) (by omega) (Or.inr ⟨10 * i + j, w1, c1, by omega, hw1, hc1, rfl, rfl, rfl, rfl, rfl, rfl⟩) hM2
      · rw [b2 c, d2 (fun z => c (hbt.mpr z))]
        exact best_loop hp ep hA0 hI eW eC hW hC F F2 i (j + 1) _ _ _ _ _ _ _ _ _ _ _ hi (by omega) (by omega) (by omega) (by
          rcases hS with ⟨-, -, z, -⟩ | z
          · exact absurd (Or.inl z) c
          · exact Or.inr z) hM2
theorem eq_bestFires {hs sn se tl : Int32} {nv nq zv zq g M : Nat → Int32} {hn : Nat} {vs qs : Nat → Nat → Int32} {av aq yv yq : Nat → Int32} {p0 : Int32} (hR : Rl hs sn se nv nq zv zq hn vs qs tl g M) : (f_X6_bestFires nv nq av aq yv yq p0).1 = (f_X7_bestFires M p0).1 ∧ Rl hs sn se nv nq zv zq hn vs qs tl g (f_X7_bestFires M p0).2 := by
  unfold f_X6_bestFires f_X7_bestFires
  rw [in_eq p0]
  by_cases c : f_X6_isWithin p0 (nI 1) (nI 100) = 0
  · rw [if_pos c, if_pos c]
    exact ⟨rfl, hR⟩
  · rw [if_neg c, if_neg c]
    obtain ⟨p, -, hp, ep⟩ := in_1n (p := p0) (n := 100) c (by decide)
    obtain ⟨t, w, cc, h1, h2, h3, e12, e41, e38⟩ := hR.is.2.2.2
    obtain ⟨g1, g2⟩ := best_loop (M0 := M) hp ep hR.at hR.is e41 e38 (by omega) (by omega) 42 37 0 0 M av aq yv yq (-5) (nI 0) (nI 0) (nI 0) (-1) (nI 0) (by omega) (by omega) (by omega) (by omega) (Or.inl ⟨rfl, rfl, rfl, rfl, rfl⟩) (fun _ _ => rfl)
    exact ⟨g1, hR.move (fun _ _ => rfl) g2⟩
