def K3 (x : Int32) : Prop := x = 0 ∨ x = 1 ∨ x = 2
/-- a laundry whose numbers and line are in their ranges -/
def InvL (v q : Nat → Int32) : Prop := InvW v ∧ ∃ n, n ≤ 12 ∧ v 25 = nI n ∧ ∀ j, j < n → K3 (q j)
theorem tick_25 (v : Nat → Int32) : (f_X2_workTick v).2 25 = v 25 := by
  rw [tick_eq]
  by_cases c : f_X2_need (preW v) ≤ f_X2_allPressure (preW v)
  · rw [if_pos c]
    dsimp only
    rw [coolC_keep _ (by decide), wl_keep _ (by decide) (by decide) (by decide), takeS_keep _ (by decide) (by decide), preW_keep _ (by decide) (by decide) (by decide) (by decide)]
  · rw [if_neg c]
    dsimp only
    rw [coolC_keep _ (by decide), hl_keep _ (by decide) (by decide) (by decide), preW_keep _ (by decide) (by decide) (by decide) (by decide)]
theorem InvL.tick {v q : Nat → Int32} (h : InvL v q) : InvL (f_X2_workTick v).2 q := by
  obtain ⟨h1, n, n12, hn, hq⟩ := h
  exact ⟨h1.tick, n, n12, (tick_25 v).trans hn, hq⟩
theorem InvW.of25 {v : Nat → Int32} (h : InvW v) (x : Int32) : InvW (upd v 25 x) := by
  refine ⟨h.1.of ?_ rfl rfl rfl rfl rfl rfl, ?_⟩
  · exact h.1.1
  · exact ⟨h.2.1.of rfl rfl rfl, h.2.2.1.of rfl rfl rfl, h.2.2.2.1.of rfl rfl rfl, h.2.2.2.2.of rfl rfl rfl⟩
theorem nle0 {n : Nat} (h : ¬ nI n ≤ 0) : 0 < n := by
  rcases Nat.eq_zero_or_pos n with rfl | h2
  · exact absurd (Int32.le_refl 0) h
  · exact h2
theorem whyV_nn {v : Nat → Int32} {p0 k : Int32} (h : whyV v p0 k = 0) : ¬ p0 < 0 := by
  intro c
  unfold whyV at h
  rw [if_pos c] at h
  exact absurd h (by decide)
theorem whyV_emp {v : Nat → Int32} {p0 k : Int32} (h : whyV v p0 k = 0) : v (13 + p0.toNatClampNeg) = -5 := by
  have c := whyV_nn h
  unfold whyV at h
  rw [if_neg c] at h
  by_cases c1 : v (13 + p0.toNatClampNeg) = -5
  · exact c1
  · rw [if_neg c1] at h
    exact absurd h (by decide)
