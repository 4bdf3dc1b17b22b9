theorem pass_38 {v q ov oq : Nat → Int32} (hT : InvT v) (hf : v 0 ≤ nI 5 ∧ v 1 ≤ nI 5) : ∃ n, n ≤ 10 ∧ (f_X2_passTick v q ov oq).1 38 = v 38 + nI n := by
  obtain ⟨-, -, -, n, hn, e⟩ := preW_b hT hf
  refine ⟨n, hn, ?_⟩
  rw [pass_keep (j := 38) (by omega), tick_eq]
  by_cases c : f_X2_need (preW v) ≤ f_X2_allPressure (preW v)
  · rw [if_pos c]
    dsimp only
    rw [coolC_keep (j := 38) _ (by omega), wl_keep (j := 38) _ (by omega) (by omega) (by omega), takeS_keep (j := 38) _ (by omega) (by omega), e]
  · rw [if_neg c]
    dsimp only
    rw [coolC_keep (j := 38) _ (by omega), hl_keep (j := 38) _ (by omega) (by omega) (by omega), e]
def Bt (bb bm bl a w : Int32) : Prop := bb = -5 ∨ bm < a ∨ (a = bm ∧ ¬ bl ≤ w)
def Bt2 (bm bl a w : Int32) : Prop := bm < a ∨ (a = bm ∧ ¬ bl ≤ w)
theorem best_c {nv nq av aq yv yq : Nat → Int32} {p0 bb bm bl : Int32} {F i j : Nat} (hj : j ≤ 5) :
    (Bt bb bm bl ((f_X6_lookAhead nv nq yv yq (nI i) (nI j) p0).1 41) ((f_X6_lookAhead nv nq yv yq (nI i) (nI j) p0).1 38) → s_X6_bestFires_33 nv nq p0 (F + 1) av aq yv yq bb bm bl i j = s_X6_bestFires_33 nv nq p0 F (f_X6_lookAhead nv nq yv yq (nI i) (nI j) p0).1 (f_X6_lookAhead nv nq yv yq (nI i) (nI j) p0).2.1 (f_X6_lookAhead nv nq yv yq (nI i) (nI j) p0).2.2.1 (f_X6_lookAhead nv nq yv yq (nI i) (nI j) p0).2.2.2 (nI (10 * i + j)) ((f_X6_lookAhead nv nq yv yq (nI i) (nI j) p0).1 41) ((f_X6_lookAhead nv nq yv yq (nI i) (nI j) p0).1 38) i (j + 1)) ∧
    (¬ Bt bb bm bl ((f_X6_lookAhead nv nq yv yq (nI i) (nI j) p0).1 41) ((f_X6_lookAhead nv nq yv yq (nI i) (nI j) p0).1 38) → s_X6_bestFires_33 nv nq p0 (F + 1) av aq yv yq bb bm bl i j = s_X6_bestFires_33 nv nq p0 F (f_X6_lookAhead nv nq yv yq (nI i) (nI j) p0).1 (f_X6_lookAhead nv nq yv yq (nI i) (nI j) p0).2.1 (f_X6_lookAhead nv nq yv yq (nI i) (nI j) p0).2.2.1 (f_X6_lookAhead nv nq yv yq (nI i) (nI j) p0).2.2.2 bb bm bl i (j + 1)) := by
  rw [s_X6_bestFires_33, if_neg (fun z => by have := (nI_ltI (by decide) (by omega)).mp z; omega)]
  generalize f_X6_lookAhead nv nq yv yq (nI i) (nI j) p0 = A
  obtain ⟨a1, a2, a3, a4⟩ := A
  dsimp only
  unfold Bt
  by_cases c1 : a1 41 = bm
  · rw [if_pos c1]
    by_cases c2 : bl ≤ a1 38
    · rw [if_pos c2]
      by_cases c3 : bb = -5
      · rw [if_pos c3]; exact ⟨fun _ => rfl, fun z => absurd (Or.inl c3) z⟩
      · rw [if_neg c3]
        by_cases c4 : bm < a1 41
        · rw [if_pos c4]; exact ⟨fun _ => rfl, fun z => absurd (Or.inr (Or.inl c4)) z⟩
        · rw [if_neg c4]
          refine ⟨fun z => ?_, fun _ => rfl⟩
          rcases z with z | z | z
          · exact absurd z c3
          · exact absurd z c4
          · exact absurd c2 z.2
    · rw [if_neg c2]
      refine ⟨fun _ => ?_, fun z => absurd (Or.inr (Or.inr ⟨c1, c2⟩)) z⟩
      by_cases c3 : bb = -5
      · rw [if_pos c3]
      · rw [if_neg c3]
        by_cases c4 : bm < a1 41
        · rw [if_pos c4]
        · rw [if_neg c4]
  · rw [if_neg c1]
    by_cases c3 : bb = -5
    · rw [if_pos c3]; exact ⟨fun _ => rfl, fun z => absurd (Or.inl c3) z⟩
    · rw [if_neg c3]
      by_cases c4 : bm < a1 41
      · rw [if_pos c4]; exact ⟨fun _ => rfl, fun z => absurd (Or.inr (Or.inl c4)) z⟩
      · rw [if_neg c4]
        refine ⟨fun z => ?_, fun _ => rfl⟩
        rcases z with z | z | z
        · exact absurd z c3
        · exact absurd z c4
        · exact absurd z.1 c1
def BS (W C i j : Nat) (bb bm bl bb' bm' bc' : Int32) : Prop := (i = 0 ∧ j = 0 ∧ bb = -5 ∧ bb' = nI 0 ∧ bm' = -1) ∨ ∃ x w c, x ≤ 100 ∧ w ≤ 400 ∧ c ≤ 1000 ∧ bb = nI x ∧ bb' = nI x ∧ bm = nI (W + w) ∧ bm' = nI w ∧ bl = nI (C + c) ∧ bc' = nI c
theorem n5 {x : Nat} (h : x ≤ 100) : ¬ nI x = -5 := fun z => by
  have h1 : nI x < 0 := by rw [z]; decide
  exact nI_pos (by omega) h1
theorem bt_eq {W C i j w1 c1 : Nat} {bb bm bl bb' bm' bc' : Int32} (hS : BS W C i j bb bm bl bb' bm' bc') (hW : W ≤ 1000000) (hC : C ≤ 1000000) (hw : w1 ≤ 400) (hc : c1 ≤ 1000) : Bt bb bm bl (nI (W + w1)) (nI (C + c1)) ↔ Bt2 bm' bc' (nI w1) (nI c1) := by
  unfold Bt Bt2
  rcases hS with ⟨-, -, h1, -, h2⟩ | ⟨x, w, c, h1, h2, h3, e1, e2, e3, e4, e5, e6⟩
  · subst h1 h2
    refine ⟨fun _ => Or.inl ?_, fun _ => Or.inl rfl⟩
    exact Int32.lt_of_lt_of_le m1_lt (nI_ge0 (by omega))
  · subst e1 e3 e4 e5 e6
    rw [nI_ltI (by omega) (by omega), nI_ltI (by omega) (by omega), nI_eq (by omega) (by omega), nI_eq (by omega) (by omega), nI_leI (by omega) (by omega), nI_leI (by omega) (by omega)]
    constructor
    · rintro (z | z | z)
      · exact absurd z (n5 h1)
      · exact Or.inl (by omega)
      · exact Or.inr (by omega)
    · rintro (z | z)
      · exact Or.inr (Or.inl (by omega))
      · exact Or.inr (Or.inr (by omega))
theorem RB.fir {B i j : Nat} {v : Nat → Int32} (h : RB B v) (hi : i ≤ 5) (hj : j ≤ 5) : RB B (fir v (nI i) (nI j)) := ⟨⟨nIle5 hi, nIle5 hj⟩, h.2.1, h.2.2⟩
