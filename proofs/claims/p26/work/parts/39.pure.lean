theorem InvM.mi {v : Nat → Int32} (h : InvM v) {i : Nat} (hi : i < 4) : ML v (13 + i) (17 + i) (21 + i) := by
  have h4 : i = 0 ∨ i = 1 ∨ i = 2 ∨ i = 3 := by omega
  rcases h4 with rfl | rfl | rfl | rfl
  · exact h.1
  · exact h.2.1
  · exact h.2.2.1
  · exact h.2.2.2
/-- the reason, by the numbers -/
def whyV (v : Nat → Int32) (p0 k : Int32) : Int32 := if p0 < 0 then nI 1 else if v (13 + p0.toNatClampNeg) = -5 then (if nI 10 ≤ f_X2_allPressure v then (if wIn (f_X6_ticksOf k).toNatClampNeg (putM v p0.toNatClampNeg k) then nI 3 else nI 0) else nI 2) else nI 1
def lowI (v : Nat → Int32) : Int32 := if v 13 = -5 then nI 0 else if v 14 = -5 then nI 1 else if v 15 = -5 then nI 2 else if v 16 = -5 then nI 3 else (-1)
theorem lowI_lt (v : Nat → Int32) : lowI v < nI 4 := by
  unfold lowI
  by_cases c0 : v 13 = -5 <;> by_cases c1 : v 14 = -5 <;> by_cases c2 : v 15 = -5 <;> by_cases c3 : v 16 = -5 <;> simp only [c0, c1, c2, c3, if_true, if_false] <;> decide
theorem wIn_put {v : Nat → Int32} {a b : Nat} {k : Int32} (n : Nat) (ha : a < 4) (hb : b < 4) (e1 : v (13 + a) = v (13 + b)) (e2 : v (17 + a) = v (17 + b)) : wIn n (putM v a k) = wIn n (putC v b k) := wIn_sw (Pm_swp ha hb) n _ _ (put_sw ha hb e1 e2)
theorem rea_run {v q : Nat → Int32} {k : Int32} {j : Nat} (hj : j < 4) (hk : k = 0 ∨ k = 1 ∨ k = 2) : (s_X2_reasonAgainst_50 k ((f_X6_ticksOf k).toNatClampNeg + 1) (putC v j k) q 0).1 = if wIn (f_X6_ticksOf k).toNatClampNeg (putM v j k) then nI 3 else nI 0 := by
  obtain ⟨n, n1, n9, hn⟩ := ticks_n hk
  rw [rea_loop _ _ 0 (Nat.zero_le _) (by rw [hn]; exact nI_pos (by omega)) (by omega), Nat.sub_zero, wIn_put _ hj hj rfl rfl]
theorem emp5 {x : Int32} (h : x = -5) : ¬ f_X3_isEmpty x = 0 := fun z => emp_ne.mp z h
theorem rea_j {v : Nat → Int32} {k : Int32} {j : Nat} (hj : j < 4) (hl : lowI v = nI j) (he : v (13 + j) = -5) : whyV v (lowI v) k = if nI 10 ≤ f_X2_allPressure v then (if wIn (f_X6_ticksOf k).toNatClampNeg (putM v j k) then nI 3 else nI 0) else nI 2 := by
  rw [hl]
  unfold whyV
  rw [if_neg (nI_pos (by omega)), nI_clamp (by omega), if_pos he]
theorem rea_at {v q ov oq : Nat → Int32} {k : Int32} (hk : k = 0 ∨ k = 1 ∨ k = 2) : (f_X2_reasonAgainst v q ov oq k).1 = whyV v (lowI v) k := by
  unfold f_X2_reasonAgainst f_X2_lowestEmptyMachine
  by_cases c0 : v 13 = -5
  · rw [rea_j (j := 0) (by decide) (by unfold lowI; rw [if_pos c0]) c0, if_neg (emp5 c0), if_neg (show ¬ some ((fun j : Nat => j) 5) = none by simp)]
    by_cases c : nI 10 ≤ f_X2_allPressure v
    · rw [if_pos c, if_pos c, if_pos c0]
      exact rea_run (j := 0) (by decide) hk
    · rw [if_neg c, if_neg c]
  · rw [if_pos (emp_ne.mpr c0)]
    by_cases c1 : v 14 = -5
    · rw [rea_j (j := 1) (by decide) (by unfold lowI; rw [if_neg c0, if_pos c1]) c1, if_neg (emp5 c1), if_neg (show ¬ some ((fun j : Nat => j) 6) = none by simp)]
      by_cases c : nI 10 ≤ f_X2_allPressure v
      · rw [if_pos c, if_pos c, if_neg c0, if_pos c1]
        exact rea_run (j := 1) (by decide) hk
      · rw [if_neg c, if_neg c]
    · rw [if_pos (emp_ne.mpr c1)]
      by_cases c2 : v 15 = -5
      · rw [rea_j (j := 2) (by decide) (by unfold lowI; rw [if_neg c0, if_neg c1, if_pos c2]) c2, if_neg (emp5 c2), if_neg (show ¬ some ((fun j : Nat => j) 7) = none by simp)]
        by_cases c : nI 10 ≤ f_X2_allPressure v
        · rw [if_pos c, if_pos c, if_neg c0, if_neg c1, if_pos c2]
          exact rea_run (j := 2) (by decide) hk
        · rw [if_neg c, if_neg c]
      · rw [if_pos (emp_ne.mpr c2)]
        by_cases c3 : v 16 = -5
        · rw [rea_j (j := 3) (by decide) (by unfold lowI; rw [if_neg c0, if_neg c1, if_neg c2, if_pos c3]) c3, if_neg (emp5 c3), if_neg (show ¬ some ((fun j : Nat => j) 8) = none by simp)]
          by_cases c : nI 10 ≤ f_X2_allPressure v
          · rw [if_pos c, if_pos c, if_neg c0, if_neg c1, if_neg c2, if_pos c3]
            exact rea_run (j := 3) (by decide) hk
          · rw [if_neg c, if_neg c]
        · rw [if_pos (emp_ne.mpr c3)]
          have el : lowI v = -1 := by unfold lowI; rw [if_neg c0, if_neg c1, if_neg c2, if_neg c3]
          rw [el, if_pos rfl]
          unfold whyV
          rw [if_pos (show (-1 : Int32) < 0 by decide)]
/-- in any empty machine it is the same -/
theorem why_any {v : Nat → Int32} {k : Int32} {i : Nat} (hv : InvM v) (hi : i < 4) (he : v (13 + i) = -5) : whyV v (nI i) k = whyV v (lowI v) k := by
  obtain ⟨j, hj, ej, e5⟩ : ∃ j, j < 4 ∧ lowI v = nI j ∧ v (13 + j) = -5 := by
    unfold lowI
    by_cases c0 : v 13 = -5
    · exact ⟨0, by decide, by rw [if_pos c0], c0⟩
    · by_cases c1 : v 14 = -5
      · exact ⟨1, by decide, by rw [if_neg c0, if_pos c1], c1⟩
      · by_cases c2 : v 15 = -5
        · exact ⟨2, by decide, by rw [if_neg c0, if_neg c1, if_pos c2], c2⟩
        · by_cases c3 : v 16 = -5
          · exact ⟨3, by decide, by rw [if_neg c0, if_neg c1, if_neg c2, if_pos c3], c3⟩
          · exfalso
            have h4 : i = 0 ∨ i = 1 ∨ i = 2 ∨ i = 3 := by omega
            rcases h4 with rfl | rfl | rfl | rfl
            · exact c0 he
            · exact c1 he
            · exact c2 he
            · exact c3 he
  have l0 : ∀ m, m < 4 → v (13 + m) = -5 → v (17 + m) = nI 0 := by
    intro m hm hm5
    rcases hv.mi hm with ⟨-, h, -⟩ | ⟨h, -⟩
    · exact h
    · exact absurd hm5 (kd3 h)
  rw [ej]
  unfold whyV
  rw [if_neg (nI_pos (by omega)), if_neg (nI_pos (by omega)), nI_clamp (by omega), nI_clamp (by omega), if_pos he, if_pos e5, wIn_put _ hi hj (he.trans e5.symm) ((l0 i hi he).trans (l0 j hj e5).symm), wIn_put _ hj hj rfl rfl]

