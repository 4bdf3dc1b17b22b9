def IS (v q : Nat → Int32) : Prop := InvL v q ∧ RB 99999 v
theorem InvL.of {v v' q : Nat → Int32} (h : InvL v q) (e : ∀ j, 13 ≤ j → j < 26 → v' j = v j) (hf : 0 ≤ v' 0 ∧ 0 ≤ v' 1) (hw : 0 ≤ v' 2 ∧ 0 ≤ v' 3) (hc : v' 10 = v 10) (hr : 0 ≤ v' 11) : InvL v' q := by
  obtain ⟨⟨⟨hk, -, -, h10, -⟩, hM⟩, n, h1, h2, h3⟩ := h
  have E := fun j a b => e j a b
  refine ⟨⟨⟨?_, hf, hw, by rw [hc]; exact h10, hr⟩, hM.1.of (E 13 (by decide) (by decide)) (E 17 (by decide) (by decide)) (E 21 (by decide) (by decide)), hM.2.1.of (E 14 (by decide) (by decide)) (E 18 (by decide) (by decide)) (E 22 (by decide) (by decide)), hM.2.2.1.of (E 15 (by decide) (by decide)) (E 19 (by decide) (by decide)) (E 23 (by decide) (by decide)), hM.2.2.2.of (E 16 (by decide) (by decide)) (E 20 (by decide) (by decide)) (E 24 (by decide) (by decide))⟩, n, h1, by rw [E 25 (by decide) (by decide)]; exact h2, h3⟩
  unfold KS
  rw [E 13 (by decide) (by decide), E 14 (by decide) (by decide), E 15 (by decide) (by decide), E 16 (by decide) (by decide)]
  exact hk
theorem nIle5 {i : Nat} (h : i ≤ 5) : nI i ≤ nI 5 := (nI_leI (by omega) (by decide)).mpr h

theorem start_i {v q ov oq : Nat → Int32} {p1 : Int32} {i : Nat} (hi : i < 4) : f_X2_startLoad v q ov oq (nI i) p1 = if f_X6_isWithin p1 (nI 0) (nI 2) = 0 then ((-1), v, ov, oq) else if f_X3_isEmpty (v (13 + i)) = 0 then (((-10) - nI 1), v, ov, oq) else if (f_X2_reasonAgainst v q ov oq p1).1 = 0 then (f_X6_ticksOf p1, putM v i p1, (f_X2_reasonAgainst v q ov oq p1).2.1, (f_X2_reasonAgainst v q ov oq p1).2.2) else ((-10) - (f_X2_reasonAgainst v q ov oq p1).1, v, (f_X2_reasonAgainst v q ov oq p1).2.1, (f_X2_reasonAgainst v q ov oq p1).2.2) := by
  have h4 : i = 0 ∨ i = 1 ∨ i = 2 ∨ i = 3 := by omega
  rcases h4 with rfl | rfl | rfl | rfl
  · unfold f_X2_startLoad
    rw [if_pos rfl]
    rfl
  · unfold f_X2_startLoad
    rw [if_neg (show ¬ nI 1 = nI 0 by decide), if_pos rfl]
    rfl
  · unfold f_X2_startLoad
    rw [if_neg (show ¬ nI 2 = nI 0 by decide), if_neg (show ¬ nI 2 = nI 1 by decide), if_pos rfl]
    rfl
  · unfold f_X2_startLoad
    rw [if_neg (show ¬ nI 3 = nI 0 by decide), if_neg (show ¬ nI 3 = nI 1 by decide), if_neg (show ¬ nI 3 = nI 2 by decide), if_pos rfl]
    rfl
theorem whyV_4 (v : Nat → Int32) (p k : Int32) : whyV v p k = nI 0 ∨ whyV v p k = nI 1 ∨ whyV v p k = nI 2 ∨ whyV v p k = nI 3 := by
  unfold whyV
  by_cases c1 : p < 0
  · rw [if_pos c1]; exact Or.inr (Or.inl rfl)
  · rw [if_neg c1]
    by_cases c2 : v (13 + p.toNatClampNeg) = -5
    · rw [if_pos c2]
      by_cases c3 : nI 10 ≤ f_X2_allPressure v
      · rw [if_pos c3]
        by_cases c4 : wIn (f_X6_ticksOf k).toNatClampNeg (putM v p.toNatClampNeg k) = true
        · rw [if_pos c4]; exact Or.inr (Or.inr (Or.inr rfl))
        · rw [if_neg c4]; exact Or.inl rfl
      · rw [if_neg c3]; exact Or.inr (Or.inr (Or.inl rfl))
    · rw [if_neg c2]; exact Or.inr (Or.inl rfl)
theorem whyV_le (v : Nat → Int32) (p k : Int32) : whyV v p k ≤ 0 ↔ whyV v p k = 0 := by
  rcases whyV_4 v p k with e | e | e | e <;> rw [e] <;> decide
theorem InvL.put {v q : Nat → Int32} {i : Nat} {k : Int32} (h : InvL v q) (hi : i < 4) (hk : k = 0 ∨ k = 1 ∨ k = 2) : InvL (putM v i k) q := by
  obtain ⟨hW, n, h1, h2, h3⟩ := h
  refine ⟨hW.put hi hk, n, h1, ?_, h3⟩
  unfold putM
  rw [pk_un (by omega), pk_un (by omega), pk_un (by omega), pk_un (by omega)]
  exact h2
theorem putM_keep {v : Nat → Int32} {i j : Nat} {k : Int32} (hi : i < 4) (hj : j < 13 ∨ (25 ≤ j ∧ j ≠ 40)) : putM v i k j = v j := by
  unfold putM
  rw [pk_un (by omega), pk_un (by omega), pk_un (by omega), pk_un (by omega)]
theorem RB.put {B i : Nat} {v : Nat → Int32} {k : Int32} (h : RB B v) (hi : i < 4) : RB B (putM v i k) :=
  h.of (putM_keep (j := 0) hi (by decide)) (putM_keep (j := 1) hi (by decide)) (putM_keep (j := 2) hi (by decide)) (putM_keep (j := 3) hi (by decide)) (putM_keep (j := 12) hi (by decide)) (putM_keep (j := 41) hi (by decide)) (putM_keep (j := 38) hi (by decide))
theorem letp_N {p0 z : Int32} : ∀ (n : Nat) (v q ov oq : Nat → Int32) (i : Nat), i ≤ p0.toNatClampNeg → p0.toNatClampNeg - i < n → s_X2_letPass_36 p0 n v q ov oq z i = ((passN (p0.toNatClampNeg - i) v q ov oq).1 41 - z, (passN (p0.toNatClampNeg - i) v q ov oq).1, (passN (p0.toNatClampNeg - i) v q ov oq).2.1, (passN (p0.toNatClampNeg - i) v q ov oq).2.2.1, (passN (p0.toNatClampNeg - i) v q ov oq).2.2.2)
  | 0, _, _, _, _, _, _, h => absurd h (Nat.not_lt_zero _)
  | n + 1, v, q, ov, oq, i, hi, hn => by
    have hb := natBig p0
    rw [s_X2_letPass_36]
    by_cases c : p0 ≤ nI i
    · rw [if_pos c]
      have : p0.toNatClampNeg - i = 0 := by
        rcases Nat.lt_or_ge i p0.toNatClampNeg with h | h
        · exfalso
          have hp : ¬ p0 < 0 := fun z => by
            have := natBig p0
            have e0 : p0.toNatClampNeg = 0 := by
              rw [Int32.lt_iff_toInt_lt] at z
              have h0 : (0 : Int32).toInt = 0 := by decide
              have : p0.toNatClampNeg = p0.toInt.toNat := rfl
              omega
            omega
          rw [natOf hp, nI_leI hb (by omega)] at c
          omega
        · omega
      rw [this]
      rfl
    · rw [if_neg c]
      have hlt := ltNat c (by omega)
      have e : p0.toNatClampNeg - i = (p0.toNatClampNeg - (i + 1)) + 1 := by omega
      rw [e]
      have h := letp_N (p0 := p0) (z := z) n (f_X2_passTick v q ov oq).1 (f_X2_passTick v q ov oq).2.1 (f_X2_passTick v q ov oq).2.2.1 (f_X2_passTick v q ov oq).2.2.2 (i + 1) (by omega) (by omega)
      exact h
