theorem InvM.prew {v : Nat → Int32} (h : InvM v) : InvM (preW v) := ⟨h.1.of (preW_keep (j := 13) v (by decide) (by decide) (by decide) (by decide)) (preW_keep (j := 17) v (by decide) (by decide) (by decide) (by decide)) (preW_keep (j := 21) v (by decide) (by decide) (by decide) (by decide)), h.2.1.of (preW_keep (j := 14) v (by decide) (by decide) (by decide) (by decide)) (preW_keep (j := 18) v (by decide) (by decide) (by decide) (by decide)) (preW_keep (j := 22) v (by decide) (by decide) (by decide) (by decide)), h.2.2.1.of (preW_keep (j := 15) v (by decide) (by decide) (by decide) (by decide)) (preW_keep (j := 19) v (by decide) (by decide) (by decide) (by decide)) (preW_keep (j := 23) v (by decide) (by decide) (by decide) (by decide)), h.2.2.2.of (preW_keep (j := 16) v (by decide) (by decide) (by decide) (by decide)) (preW_keep (j := 20) v (by decide) (by decide) (by decide) (by decide)) (preW_keep (j := 24) v (by decide) (by decide) (by decide) (by decide))⟩

theorem InvM.cool {v : Nat → Int32} (h : InvM v) : InvM (cool1 (cool0 v)) := ⟨h.1.of (coolC_keep (j := 13) v (by decide)) (coolC_keep (j := 17) v (by decide)) (coolC_keep (j := 21) v (by decide)), h.2.1.of (coolC_keep (j := 14) v (by decide)) (coolC_keep (j := 18) v (by decide)) (coolC_keep (j := 22) v (by decide)), h.2.2.1.of (coolC_keep (j := 15) v (by decide)) (coolC_keep (j := 19) v (by decide)) (coolC_keep (j := 23) v (by decide)), h.2.2.2.of (coolC_keep (j := 16) v (by decide)) (coolC_keep (j := 20) v (by decide)) (coolC_keep (j := 24) v (by decide))⟩

theorem InvM.take {v : Nat → Int32} {p0 : Int32} (h : InvM v) : InvM (f_X2_takeSteam v p0) := ⟨h.1.of (takeS_keep (j := 13) v (by decide) (by decide)) (takeS_keep (j := 17) v (by decide) (by decide)) (takeS_keep (j := 21) v (by decide) (by decide)), h.2.1.of (takeS_keep (j := 14) v (by decide) (by decide)) (takeS_keep (j := 18) v (by decide) (by decide)) (takeS_keep (j := 22) v (by decide) (by decide)), h.2.2.1.of (takeS_keep (j := 15) v (by decide) (by decide)) (takeS_keep (j := 19) v (by decide) (by decide)) (takeS_keep (j := 23) v (by decide) (by decide)), h.2.2.2.of (takeS_keep (j := 16) v (by decide) (by decide)) (takeS_keep (j := 20) v (by decide) (by decide)) (takeS_keep (j := 24) v (by decide) (by decide))⟩

theorem InvM.works {v : Nat → Int32} (h : InvM v) : InvM (f_X2_workLoads v) := ⟨h.1.wash (wl_0 v).1 (wl_0 v).2.1 (wl_0 v).2.2, h.2.1.wash (wl_1 v).1 (wl_1 v).2.1 (wl_1 v).2.2, h.2.2.1.wash (wl_2 v).1 (wl_2 v).2.1 (wl_2 v).2.2, h.2.2.2.wash (wl_3 v).1 (wl_3 v).2.1 (wl_3 v).2.2⟩

theorem InvM.holds {v : Nat → Int32} (h : InvM v) : InvM (f_X2_holdLoads v) := ⟨h.1.hold (hl_0 v).1 (hl_0 v).2.1 (hl_0 v).2.2, h.2.1.hold (hl_1 v).1 (hl_1 v).2.1 (hl_1 v).2.2, h.2.2.1.hold (hl_2 v).1 (hl_2 v).2.1 (hl_2 v).2.2, h.2.2.2.hold (hl_3 v).1 (hl_3 v).2.1 (hl_3 v).2.2⟩

theorem InvM.tick {v : Nat → Int32} (h : InvM v) : InvM (f_X2_workTick v).2 := by
  rw [tick_eq]
  by_cases c : f_X2_need (preW v) ≤ f_X2_allPressure (preW v)
  · rw [if_pos c]
    dsimp only
    exact h.prew.take.works.cool
  · rw [if_neg c]
    dsimp only
    exact h.prew.holds.cool
def InvW (v : Nat → Int32) : Prop := InvT v ∧ InvM v
theorem InvT.prew {v : Nat → Int32} (h : InvT v) : InvT (preW v) := h.rat.brn0.brn1

theorem cool0_fire {v : Nat → Int32} (h : 0 ≤ v 0) : 0 ≤ cool0 v 0 := by
  unfold cool0 f_X0_coolDown
  have z : (0 : Int32) ≤ nI 0 := by decide
  by_cases c1 : v 4 ≤ 0
  · rw [if_pos c1]
    by_cases c2 : v 4 ≤ nI 70
    · rw [if_pos c2]; exact h
    · rw [if_neg c2]; exact z
  · rw [if_neg c1]
    by_cases c2 : v 4 - nI 1 ≤ nI 70
    · rw [if_pos c2]; exact h
    · rw [if_neg c2]; exact z

theorem cool1_fire {v : Nat → Int32} (h : 0 ≤ v 1) : 0 ≤ cool1 v 1 := by
  unfold cool1 f_X0_coolDown
  have z : (0 : Int32) ≤ nI 0 := by decide
  by_cases c1 : v 5 ≤ 0
  · rw [if_pos c1]
    by_cases c2 : v 5 ≤ nI 70
    · rw [if_pos c2]; exact h
    · rw [if_neg c2]; exact z
  · rw [if_neg c1]
    by_cases c2 : v 5 - nI 1 ≤ nI 70
    · rw [if_pos c2]; exact h
    · rw [if_neg c2]; exact z

theorem InvT.coolC {v : Nat → Int32} (h : InvT v) : InvT (cool1 (cool0 v)) := by
  obtain ⟨⟨k0, k1, k2, k3⟩, ⟨f0, f1⟩, ⟨w0, w1⟩, hc, hr⟩ := h
  have g0 := cool0_fire f0
  have g1 : 0 ≤ cool0 v 1 := by rw [cool0_keep v (by decide) (by decide) (by decide) (by decide)]; exact f1
  refine ⟨⟨?_, ?_, ?_, ?_⟩, ⟨?_, cool1_fire g1⟩, ⟨?_, ?_⟩, ?_, ?_⟩
  · rw [coolC_keep v (by decide)]; exact k0
  · rw [coolC_keep v (by decide)]; exact k1
  · rw [coolC_keep v (by decide)]; exact k2
  · rw [coolC_keep v (by decide)]; exact k3
  · rw [cool1_keep _ (by decide) (by decide) (by decide) (by decide)]; exact g0
  · rw [cool1_keep _ (by decide) (by decide) (by decide) (by decide), cool0_keep _ (by decide) (by decide) (by decide) (by decide)]; exact w0
  · rw [cool1_keep _ (by decide) (by decide) (by decide) (by decide), cool0_keep _ (by decide) (by decide) (by decide) (by decide)]; exact w1
  · rw [coolC_keep v (by decide)]; exact hc
  · rw [coolC_keep v (by decide)]; exact hr
theorem InvT.of {v v' : Nat → Int32} (h : InvT v) (hk : KS v') (e0 : v' 0 = v 0) (e1 : v' 1 = v 1) (e2 : v' 2 = v 2) (e3 : v' 3 = v 3) (e10 : v' 10 = v 10) (e11 : v' 11 = v 11) : InvT v' := by
  unfold InvT
  rw [e0, e1, e2, e3, e10, e11]
  exact ⟨hk, h.2⟩
theorem InvW.tick {v : Nat → Int32} (h : InvW v) : InvW (f_X2_workTick v).2 := by
  refine ⟨?_, h.2.tick⟩
  have hp := h.1.prew
  have hm := h.2.prew
  rw [tick_eq]
  by_cases c : f_X2_need (preW v) ≤ f_X2_allPressure (preW v)
  · rw [if_pos c]
    have hu := hm.take (p0 := f_X2_need (preW v))
    have ht : InvT (f_X2_takeSteam (preW v) (f_X2_need (preW v))) := hp.of hu.ks (takeS_keep (j := 0) _ (by decide) (by decide)) (takeS_keep (j := 1) _ (by decide) (by decide)) (takeS_keep (j := 2) _ (by decide) (by decide)) (takeS_keep (j := 3) _ (by decide) (by decide)) (takeS_keep (j := 10) _ (by decide) (by decide)) (takeS_keep (j := 11) _ (by decide) (by decide))
    dsimp only
    generalize f_X2_takeSteam (preW v) (f_X2_need (preW v)) = u at ht hu ⊢
    have hz : InvT (f_X2_workLoads u) := ht.of hu.works.ks (wl_keep (j := 0) u (by decide) (by decide) (by decide)) (wl_keep (j := 1) u (by decide) (by decide) (by decide)) (wl_keep (j := 2) u (by decide) (by decide) (by decide)) (wl_keep (j := 3) u (by decide) (by decide) (by decide)) (wl_keep (j := 10) u (by decide) (by decide) (by decide)) (wl_keep (j := 11) u (by decide) (by decide) (by decide))
    exact hz.coolC
  · rw [if_neg c]
    dsimp only
    generalize preW v = u at hp hm ⊢
    have hz : InvT (f_X2_holdLoads u) := hp.of hm.holds.ks (hl_keep (j := 0) u (by decide) (by decide) (by decide)) (hl_keep (j := 1) u (by decide) (by decide) (by decide)) (hl_keep (j := 2) u (by decide) (by decide) (by decide)) (hl_keep (j := 3) u (by decide) (by decide) (by decide)) (hl_keep (j := 10) u (by decide) (by decide) (by decide)) (hl_keep (j := 11) u (by decide) (by decide) (by decide))
    exact hz.coolC
/-- a tick in which loads wait counts it; in another one each load has one tick less -/
theorem tick_wait {v : Nat → Int32} : ((f_X2_workTick v).1 = nI 0 ∧ (f_X2_workTick v).2 45 = v 45) ∨ ((f_X2_workTick v).1 = nI 1 ∧ (f_X2_workTick v).2 45 = v 45 + nI 1) := by
  rw [tick_eq]
  by_cases c : f_X2_need (preW v) ≤ f_X2_allPressure (preW v)
  · rw [if_pos c]
    dsimp only
    refine Or.inl ⟨rfl, ?_⟩
    rw [coolC_keep _ (by decide), wl_keep _ (by decide) (by decide) (by decide), takeS_keep _ (by decide) (by decide), preW_keep _ (by decide) (by decide) (by decide) (by decide)]
  · rw [if_neg c]
    dsimp only
    refine Or.inr ⟨rfl, ?_⟩
    rw [coolC_keep _ (by decide), hl_45, preW_keep _ (by decide) (by decide) (by decide) (by decide)]

theorem tick_m0 {v : Nat → Int32} (h : (f_X2_workTick v).1 = nI 0) : (f_X2_workTick v).2 13 = (if v 13 = -5 then -5 else if v 17 - nI 1 = 0 then -5 else v 13) ∧ (f_X2_workTick v).2 17 = (if v 13 = -5 then v 17 else if v 17 - nI 1 = 0 then nI 0 else v 17 - nI 1) := by
  rw [tick_eq] at h ⊢
  by_cases c : f_X2_need (preW v) ≤ f_X2_allPressure (preW v)
  · rw [if_pos c] at h ⊢
    obtain ⟨a1, a2, -⟩ := wl_0 (f_X2_takeSteam (preW v) (f_X2_need (preW v)))
    rw [takeS_keep (j := 13) _ (by decide) (by decide), takeS_keep (j := 17) _ (by decide) (by decide), preW_keep (j := 13) v (by decide) (by decide) (by decide) (by decide), preW_keep (j := 17) v (by decide) (by decide) (by decide) (by decide)] at a1 a2
    dsimp only
    refine ⟨?_, ?_⟩
    · rw [coolC_keep _ (show 10 ≤ 13 by decide)]
      exact a1
    · rw [coolC_keep _ (show 10 ≤ 17 by decide)]
      exact a2
  · rw [if_neg c] at h
    dsimp only at h
    exact absurd h (by decide)

theorem tick_m1 {v : Nat → Int32} (h : (f_X2_workTick v).1 = nI 0) : (f_X2_workTick v).2 14 = (if v 14 = -5 then -5 else if v 18 - nI 1 = 0 then -5 else v 14) ∧ (f_X2_workTick v).2 18 = (if v 14 = -5 then v 18 else if v 18 - nI 1 = 0 then nI 0 else v 18 - nI 1) := by
  rw [tick_eq] at h ⊢
  by_cases c : f_X2_need (preW v) ≤ f_X2_allPressure (preW v)
  · rw [if_pos c] at h ⊢
    obtain ⟨a1, a2, -⟩ := wl_1 (f_X2_takeSteam (preW v) (f_X2_need (preW v)))
    rw [takeS_keep (j := 14) _ (by decide) (by decide), takeS_keep (j := 18) _ (by decide) (by decide), preW_keep (j := 14) v (by decide) (by decide) (by decide) (by decide), preW_keep (j := 18) v (by decide) (by decide) (by decide) (by decide)] at a1 a2
    dsimp only
    refine ⟨?_, ?_⟩
    · rw [coolC_keep _ (show 10 ≤ 14 by decide)]
      exact a1
    · rw [coolC_keep _ (show 10 ≤ 18 by decide)]
      exact a2
  · rw [if_neg c] at h
    dsimp only at h
    exact absurd h (by decide)

theorem tick_m2 {v : Nat → Int32} (h : (f_X2_workTick v).1 = nI 0) : (f_X2_workTick v).2 15 = (if v 15 = -5 then -5 else if v 19 - nI 1 = 0 then -5 else v 15) ∧ (f_X2_workTick v).2 19 = (if v 15 = -5 then v 19 else if v 19 - nI 1 = 0 then nI 0 else v 19 - nI 1) := by
  rw [tick_eq] at h ⊢
  by_cases c : f_X2_need (preW v) ≤ f_X2_allPressure (preW v)
  · rw [if_pos c] at h ⊢
    obtain ⟨a1, a2, -⟩ := wl_2 (f_X2_takeSteam (preW v) (f_X2_need (preW v)))
    rw [takeS_keep (j := 15) _ (by decide) (by decide), takeS_keep (j := 19) _ (by decide) (by decide), preW_keep (j := 15) v (by decide) (by decide) (by decide) (by decide), preW_keep (j := 19) v (by decide) (by decide) (by decide) (by decide)] at a1 a2
    dsimp only
    refine ⟨?_, ?_⟩
    · rw [coolC_keep _ (show 10 ≤ 15 by decide)]
      exact a1
    · rw [coolC_keep _ (show 10 ≤ 19 by decide)]
      exact a2
  · rw [if_neg c] at h
    dsimp only at h
    exact absurd h (by decide)

theorem tick_m3 {v : Nat → Int32} (h : (f_X2_workTick v).1 = nI 0) : (f_X2_workTick v).2 16 = (if v 16 = -5 then -5 else if v 20 - nI 1 = 0 then -5 else v 16) ∧ (f_X2_workTick v).2 20 = (if v 16 = -5 then v 20 else if v 20 - nI 1 = 0 then nI 0 else v 20 - nI 1) := by
  rw [tick_eq] at h ⊢
  by_cases c : f_X2_need (preW v) ≤ f_X2_allPressure (preW v)
  · rw [if_pos c] at h ⊢
    obtain ⟨a1, a2, -⟩ := wl_3 (f_X2_takeSteam (preW v) (f_X2_need (preW v)))
    rw [takeS_keep (j := 16) _ (by decide) (by decide), takeS_keep (j := 20) _ (by decide) (by decide), preW_keep (j := 16) v (by decide) (by decide) (by decide) (by decide), preW_keep (j := 20) v (by decide) (by decide) (by decide) (by decide)] at a1 a2
    dsimp only
    refine ⟨?_, ?_⟩
    · rw [coolC_keep _ (show 10 ≤ 16 by decide)]
      exact a1
    · rw [coolC_keep _ (show 10 ≤ 20 by decide)]
      exact a2
  · rw [if_neg c] at h
    dsimp only at h
    exact absurd h (by decide)

