def InvT (v : Nat → Int32) : Prop := KS v ∧ (0 ≤ v 0 ∧ 0 ≤ v 1) ∧ (0 ≤ v 2 ∧ 0 ≤ v 3) ∧ (0 ≤ v 10 ∧ v 10 ≤ nI 999) ∧ 0 ≤ v 11
def tick1 (v : Nat → Int32) : Nat → Int32 := upd v 12 ((v 12) + (nI 1))
def rat (v : Nat → Int32) : Nat → Int32 := if ((v 12) + (nI 1)) - ((v 12) + (nI 1)) / (nI 60) * (nI 60) = 0 then f_X2_receiveRation (tick1 v) else tick1 v
theorem tick_rat (v : Nat → Int32) : f_X2_workTick v = s_X2_workTick_34_0 (rat v) := by
  unfold f_X2_workTick rat tick1
  by_cases c : ((v 12) + (nI 1)) - ((v 12) + (nI 1)) / (nI 60) * (nI 60) = 0
  · rw [if_pos c, if_pos c]
  · rw [if_neg c, if_neg c]
theorem brn0_keep (v : Nat → Int32) {j : Nat} (h0 : j ≠ 0) (h2 : j ≠ 2) (h4 : j ≠ 4) (h6 : j ≠ 6) (h10 : j ≠ 10) (h38 : j ≠ 38) : brn0 v j = v j := by
  unfold brn0
  generalize f_X0_burn (v 0) (v 2) (v 4) (v 6) (v 10) = r
  obtain ⟨r, bf, bw, bp, bl⟩ := r
  show upd (upd (upd (upd (upd (upd v 0 bf) 2 bw) 4 bp) 6 bl) 10 ((v 10) - r)) 38 ((v 38) + r) j = v j
  rw [pk_un h38, pk_un h10, pk_un h6, pk_un h4, pk_un h2, pk_un h0]

theorem brn1_keep (v : Nat → Int32) {j : Nat} (h0 : j ≠ 1) (h2 : j ≠ 3) (h4 : j ≠ 5) (h6 : j ≠ 7) (h10 : j ≠ 10) (h38 : j ≠ 38) : brn1 v j = v j := by
  unfold brn1
  generalize f_X0_burn (v 1) (v 3) (v 5) (v 7) (v 10) = r
  obtain ⟨r, bf, bw, bp, bl⟩ := r
  show upd (upd (upd (upd (upd (upd v 1 bf) 3 bw) 5 bp) 7 bl) 10 ((v 10) - r)) 38 ((v 38) + r) j = v j
  rw [pk_un h38, pk_un h10, pk_un h6, pk_un h4, pk_un h2, pk_un h0]

theorem sub_rng {a c : Int32} (ha : 0 ≤ c) (hc : ¬ a < c) : 0 ≤ a - c ∧ a - c ≤ a := by
  rw [Int32.le_iff_toInt_le] at ha
  rw [Int32.lt_iff_toInt_lt] at hc
  have h0 : (0 : Int32).toInt = 0 := by decide
  have r := a.toInt_lt
  have r2 := a.le_toInt
  have r3 := c.toInt_lt
  have e : (a - c).toInt = a.toInt - c.toInt := by
    rw [Int32.toInt_sub]
    apply Int.bmod_eq_of_le <;> omega
  rw [Int32.le_iff_toInt_le, Int32.le_iff_toInt_le, e]
  omega
theorem add_rng {a c m : Int32} (ha : 0 ≤ a) (hc : 0 ≤ c) (h : ¬ m - a < c) (hm : a ≤ m) : 0 ≤ a + c ∧ a + c ≤ m := by
  rw [Int32.le_iff_toInt_le] at ha hc hm
  rw [Int32.lt_iff_toInt_lt] at h
  have h0 : (0 : Int32).toInt = 0 := by decide
  have r := m.toInt_lt
  have r2 := a.le_toInt
  have e : (m - a).toInt = m.toInt - a.toInt := by
    rw [Int32.toInt_sub]
    apply Int.bmod_eq_of_le <;> omega
  rw [e] at h
  have e2 : (a + c).toInt = a.toInt + c.toInt := by
    rw [Int32.toInt_add]
    apply Int.bmod_eq_of_le <;> omega
  rw [Int32.le_iff_toInt_le, Int32.le_iff_toInt_le, e2]
  omega

theorem brn0_inv {v : Nat → Int32} (hf : 0 ≤ v 0) (hw : 0 ≤ v 2) (hc : 0 ≤ v 10) : (0 ≤ brn0 v 10 ∧ brn0 v 10 ≤ v 10) ∧ (0 ≤ brn0 v 2 ∧ brn0 v 2 ≤ v 2) ∧ (0 ≤ brn0 v 0 ∧ (brn0 v 0 = 0 ∨ brn0 v 0 = v 0)) := by
  unfold brn0 f_X0_burn
  have z : (0 : Int32) ≤ 0 := Int32.le_refl 0
  have rf : ∀ x : Int32, x ≤ x := fun x => Int32.le_refl x
  by_cases c1 : v 6 ≤ 0
  · rw [if_pos c1]
    by_cases c2 : v 10 < v 0
    · rw [if_pos c2]
      simp [upd, nI0, hc, hw, rf]
    · rw [if_neg c2]
      by_cases c3 : v 0 ≤ v 2
      · rw [if_pos c3]
        have h1 := sub_rng hf c2
        have h2 := sub_rng hf (Int32.not_lt.mpr c3)
        simp [upd, h1, h2, hf]
      · rw [if_neg c3]
        simp [upd, nI0, hc, hw, rf]
  · rw [if_neg c1]
    simp [upd, nI0, hc, hw, hf, rf]

theorem brn1_inv {v : Nat → Int32} (hf : 0 ≤ v 1) (hw : 0 ≤ v 3) (hc : 0 ≤ v 10) : (0 ≤ brn1 v 10 ∧ brn1 v 10 ≤ v 10) ∧ (0 ≤ brn1 v 3 ∧ brn1 v 3 ≤ v 3) ∧ (0 ≤ brn1 v 1 ∧ (brn1 v 1 = 0 ∨ brn1 v 1 = v 1)) := by
  unfold brn1 f_X0_burn
  have z : (0 : Int32) ≤ 0 := Int32.le_refl 0
  have rf : ∀ x : Int32, x ≤ x := fun x => Int32.le_refl x
  by_cases c1 : v 7 ≤ 0
  · rw [if_pos c1]
    by_cases c2 : v 10 < v 1
    · rw [if_pos c2]
      simp [upd, nI0, hc, hw, rf]
    · rw [if_neg c2]
      by_cases c3 : v 1 ≤ v 3
      · rw [if_pos c3]
        have h1 := sub_rng hf c2
        have h2 := sub_rng hf (Int32.not_lt.mpr c3)
        simp [upd, h1, h2, hf]
      · rw [if_neg c3]
        simp [upd, nI0, hc, hw, rf]
  · rw [if_neg c1]
    simp [upd, nI0, hc, hw, hf, rf]

theorem rat_keep (v : Nat → Int32) {j : Nat} (h12 : j ≠ 12) (h10 : j ≠ 10) (h39 : j ≠ 39) : rat v j = v j := by
  unfold rat tick1 f_X2_receiveRation
  by_cases c : ((v 12) + (nI 1)) - ((v 12) + (nI 1)) / (nI 60) * (nI 60) = 0
  · rw [if_pos c, pk_un h39, pk_un h10, pk_un h12]
  · rw [if_neg c, pk_un h12]
theorem rat_coal {v : Nat → Int32} (hc : 0 ≤ v 10 ∧ v 10 ≤ nI 999) (hr : 0 ≤ v 11) : 0 ≤ rat v 10 ∧ rat v 10 ≤ nI 999 := by
  unfold rat tick1 f_X2_receiveRation
  by_cases c : ((v 12) + (nI 1)) - ((v 12) + (nI 1)) / (nI 60) * (nI 60) = 0
  · rw [if_pos c]
    show 0 ≤ v 10 + (if (nI 999 - v 10) < v 11 then (nI 999 - v 10) else v 11) ∧ v 10 + (if (nI 999 - v 10) < v 11 then (nI 999 - v 10) else v 11) ≤ nI 999
    by_cases c2 : (nI 999 - v 10) < v 11
    · rw [if_pos c2]
      exact add_rng hc.1 (sub_rng hc.1 (Int32.not_lt.mpr hc.2)).1 Int32.lt_irrefl hc.2
    · rw [if_neg c2]
      exact add_rng hc.1 hr c2 hc.2
  · rw [if_neg c]
    exact hc
theorem InvT.rat {v : Nat → Int32} (h : InvT v) : InvT (rat v) := by
  obtain ⟨⟨k0, k1, k2, k3⟩, ⟨f0, f1⟩, ⟨w0, w1⟩, hc, hr⟩ := h
  refine ⟨⟨?_, ?_, ?_, ?_⟩, ⟨?_, ?_⟩, ⟨?_, ?_⟩, rat_coal hc hr, ?_⟩ <;> rw [rat_keep v (by decide) (by decide) (by decide)] <;> assumption
theorem InvT.brn0 {v : Nat → Int32} (h : InvT v) : InvT (brn0 v) := by
  obtain ⟨⟨k0, k1, k2, k3⟩, ⟨f0, f1⟩, ⟨w0, w1⟩, hc, hr⟩ := h
  obtain ⟨a, b, c⟩ := brn0_inv f0 w0 hc.1
  refine ⟨⟨?_, ?_, ?_, ?_⟩, ⟨c.1, ?_⟩, ⟨b.1, ?_⟩, ⟨a.1, Int32.le_trans a.2 hc.2⟩, ?_⟩ <;> rw [brn0_keep v (by decide) (by decide) (by decide) (by decide) (by decide) (by decide)] <;> assumption
theorem InvT.brn1 {v : Nat → Int32} (h : InvT v) : InvT (brn1 v) := by
  obtain ⟨⟨k0, k1, k2, k3⟩, ⟨f0, f1⟩, ⟨w0, w1⟩, hc, hr⟩ := h
  obtain ⟨a, b, c⟩ := brn1_inv f1 w1 hc.1
  refine ⟨⟨?_, ?_, ?_, ?_⟩, ⟨?_, c.1⟩, ⟨?_, b.1⟩, ⟨a.1, Int32.le_trans a.2 hc.2⟩, ?_⟩ <;> rw [brn1_keep v (by decide) (by decide) (by decide) (by decide) (by decide) (by decide)] <;> assumption
