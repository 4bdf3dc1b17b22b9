def RlS (g : Nat → Int32) (sn se : Int32) : Prop := (g 6 < 0 ∧ sn = -5 ∧ se = -5) ∨ (¬ g 6 < 0 ∧ sn = g 6 ∧ se = g 7)
def RlT (g : Nat → Int32) (tl : Int32) : Prop := ∃ n, n ≤ 80 ∧ tl = nI n ∧ g 2 = nI n
theorem nneg {x : Int32} (h : 0 ≤ x) : ¬ x < 0 := Int32.not_lt.mpr h
theorem cf_neg {v : Nat → Int32} {p0 p1 : Int32} (h0 : 0 ≤ v 0) (h1 : 0 ≤ v 1) : (f_X2_changeFire v p0 p1).1 < 0 → (f_X2_changeFire v p0 p1).2 = v := by
  unfold f_X2_changeFire
  repeat' split
  all_goals first | exact fun _ => rfl | exact fun z => absurd z (nneg h0) | exact fun z => absurd z (nneg h1)
theorem upd_id {f : Nat → Int32} {k : Nat} {x : Int32} (h : f k = x) : upd f k x = f := by
  funext j
  by_cases e : j = k
  · subst e; rw [pk_us]; exact h.symm
  · exact pk_un e
theorem al_neg {v q : Nat → Int32} {p0 : Int32} {n : Nat} (h : v 25 = nI n) (hn : n ≤ 12) : (f_X2_addToLine v q p0).1 < 0 → (f_X2_addToLine v q p0).2.1 = v ∧ (f_X2_addToLine v q p0).2.2 = q := by
  unfold f_X2_addToLine
  by_cases c : f_X6_isWithin p0 (nI 0) (nI 2) = 0
  · rw [if_pos c]; exact fun _ => ⟨rfl, rfl⟩
  · rw [if_neg c]
    unfold f_X5_add
    by_cases c1 : v 25 < 0
    · rw [if_pos c1]; exact fun _ => ⟨upd_id rfl, rfl⟩
    · rw [if_neg c1]
      by_cases c2 : v 25 < nI 12
      · rw [if_pos c2]
        intro z
        exfalso
        have z : v 25 + nI 1 - nI 1 < 0 := z
        rw [h, nI_add, pk_sub (by omega)] at z
        exact nI_pos (by omega) z
      · rw [if_neg c2]; exact fun _ => ⟨upd_id rfl, rfl⟩
theorem pass_41 {v q ov oq : Nat → Int32} : ∃ n, n ≤ 4 ∧ (f_X2_passTick v q ov oq).1 41 = v 41 + nI n := by
  rw [pass_keep (j := 41) (by omega), tick_eq]
  by_cases c : f_X2_need (preW v) ≤ f_X2_allPressure (preW v)
  · rw [if_pos c]
    obtain ⟨n, hn, e⟩ := wl_41 (f_X2_takeSteam (preW v) (f_X2_need (preW v)))
    refine ⟨n, hn, ?_⟩
    dsimp only
    rw [coolC_keep (j := 41) _ (by omega), e, takeS_keep (j := 41) _ (by omega) (by omega), preW_keep (j := 41) v (by omega) (by omega) (by omega) (by omega)]
  · rw [if_neg c]
    refine ⟨0, by omega, ?_⟩
    dsimp only
    rw [coolC_keep (j := 41) _ (by omega), hl_keep (j := 41) _ (by omega) (by omega) (by omega), preW_keep (j := 41) v (by omega) (by omega) (by omega) (by omega), add0]
theorem passN_41 : ∀ (k : Nat) (v q ov oq : Nat → Int32), ∃ n, n ≤ 4 * k ∧ (passN k v q ov oq).1 41 = v 41 + nI n
  | 0, v, q, ov, oq => ⟨0, by omega, (add0 _).symm⟩
  | k + 1, v, q, ov, oq => by
    obtain ⟨n, hn, e⟩ := pass_41 (v := v) (q := q) (ov := ov) (oq := oq)
    obtain ⟨m, hm, e2⟩ := passN_41 k (f_X2_passTick v q ov oq).1 (f_X2_passTick v q ov oq).2.1 (f_X2_passTick v q ov oq).2.2.1 (f_X2_passTick v q ov oq).2.2.2
    refine ⟨n + m, by omega, ?_⟩
    have e3 : (passN (k + 1) v q ov oq).1 41 = (f_X2_passTick v q ov oq).1 41 + nI m := e2
    rw [e3, e, Int32.add_assoc, nI_add]
theorem sub_self_add (x y : Int32) : x + y - x = y := by
  rw [Int32.add_comm, Int32.add_sub_cancel]
