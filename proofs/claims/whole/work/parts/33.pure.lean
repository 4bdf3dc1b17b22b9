def InvT (v : Nat → Int32) : Prop := KS v ∧ (0 ≤ v 0 ∧ 0 ≤ v 1) ∧ (0 ≤ v 2 ∧ 0 ≤ v 3) ∧ (0 ≤ v 10 ∧ v 10 ≤ nI 999) ∧ 0 ≤ v 11
def tick1 (v : Nat → Int32) : Nat → Int32 := upd v 12 ((v 12) + (nI 1))
def rat (v : Nat → Int32) : Nat → Int32 := if ((v 12) + (nI 1)) - ((v 12) + (nI 1)) / (nI 60) * (nI 60) = 0 then f_X2_receiveRation (tick1 v) else tick1 v
theorem tick_rat (v : Nat → Int32) : f_X2_workTick v = s_X2_workTick_34_0 (rat v) := by
  unfold f_X2_workTick rat tick1
  by_cases c : ((v 12) + (nI 1)) - ((v 12) + (nI 1)) / (nI 60) * (nI 60) = 0
  · rw [if_pos c, if_pos c]
  · rw [if_neg c, if_neg c]
set_option maxHeartbeats 4000000 in
theorem ration_at {M0 M : Nat → Int32} {b : Nat} {v q : Nat → Int32} (h : AtF M0 M b v q) : ∃ M1, f_X7_passes M b = s_X7_passes_95 b M1 ∧ AtF M0 M1 b (rat v) q := by
  obtain ⟨hA, hF⟩ := h
  have e12 : M (b + 12) = v 12 := hA.p12
  have r10 : upd M (b + 12) ((v 12) + (nI 1)) (b + 10) = v 10 := (pk_un (by omega)).trans hA.p10
  have r11 : upd M (b + 12) ((v 12) + (nI 1)) (b + 11) = v 11 := (pk_un (by omega)).trans hA.p11
  unfold f_X7_passes
  rw [pk_us, e12, r10, r11]
  by_cases c : ((v 12) + (nI 1)) - ((v 12) + (nI 1)) / (nI 60) * (nI 60) = 0
  · rw [if_pos c]
    by_cases c2 : nI 999 - v 10 ≤ v 11
    · rw [if_pos c2]
      have er : rat v = upd (upd (upd v 12 ((v 12) + (nI 1))) 10 (v 10 + (nI 999 - v 10))) 39 (v 39 + (nI 999 - v 10)) := by
        unfold rat f_X2_receiveRation tick1
        rw [if_pos c]
        show upd (upd (upd v 12 ((v 12) + (nI 1))) 10 (v 10 + (if (nI 999 - v 10) < v 11 then (nI 999 - v 10) else v 11))) 39 (v 39 + (if (nI 999 - v 10) < v 11 then (nI 999 - v 10) else v 11)) = _
        rw [minle, if_pos c2]
      refine ⟨_, rfl, ?_, Fr_upd (Fr_upd (Fr_upd hF (by omega)) (by omega)) (by omega)⟩
      rw [er]
      apply At46 <;> simp [upd, Nat.add_assoc, nI0, ek5, Int32.sub_zero, hA.pb, hA.p1, hA.p2, hA.p3, hA.p4, hA.p5, hA.p6, hA.p7, hA.p8, hA.p9, hA.p10, hA.p11, hA.p12, hA.p13, hA.p14, hA.p15, hA.p16, hA.p17, hA.p18, hA.p19, hA.p20, hA.p21, hA.p22, hA.p23, hA.p24, hA.p25, hA.p26, hA.p27, hA.p28, hA.p29, hA.p30, hA.p31, hA.p32, hA.p33, hA.p34, hA.p35, hA.p36, hA.p37, hA.p38, hA.p39, hA.p40, hA.p41, hA.p42, hA.p43, hA.p44, hA.p45]
    · rw [if_neg c2]
      have er : rat v = upd (upd (upd v 12 ((v 12) + (nI 1))) 10 (v 10 + v 11)) 39 (v 39 + v 11) := by
        unfold rat f_X2_receiveRation tick1
        rw [if_pos c]
        show upd (upd (upd v 12 ((v 12) + (nI 1))) 10 (v 10 + (if (nI 999 - v 10) < v 11 then (nI 999 - v 10) else v 11))) 39 (v 39 + (if (nI 999 - v 10) < v 11 then (nI 999 - v 10) else v 11)) = _
        rw [minle, if_neg c2]
      refine ⟨_, rfl, ?_, Fr_upd (Fr_upd (Fr_upd hF (by omega)) (by omega)) (by omega)⟩
      rw [er]
      apply At46 <;> simp [upd, Nat.add_assoc, nI0, ek5, Int32.sub_zero, hA.pb, hA.p1, hA.p2, hA.p3, hA.p4, hA.p5, hA.p6, hA.p7, hA.p8, hA.p9, hA.p10, hA.p11, hA.p12, hA.p13, hA.p14, hA.p15, hA.p16, hA.p17, hA.p18, hA.p19, hA.p20, hA.p21, hA.p22, hA.p23, hA.p24, hA.p25, hA.p26, hA.p27, hA.p28, hA.p29, hA.p30, hA.p31, hA.p32, hA.p33, hA.p34, hA.p35, hA.p36, hA.p37, hA.p38, hA.p39, hA.p40, hA.p41, hA.p42, hA.p43, hA.p44, hA.p45]
  · rw [if_neg c]
    have er : rat v = upd v 12 ((v 12) + (nI 1)) := by
      unfold rat tick1
      rw [if_neg c]
    refine ⟨_, rfl, ?_, Fr_upd hF (by omega)⟩
    rw [er]
    apply At46 <;> simp [upd, Nat.add_assoc, nI0, ek5, Int32.sub_zero, hA.pb, hA.p1, hA.p2, hA.p3, hA.p4, hA.p5, hA.p6, hA.p7, hA.p8, hA.p9, hA.p10, hA.p11, hA.p12, hA.p13, hA.p14, hA.p15, hA.p16, hA.p17, hA.p18, hA.p19, hA.p20, hA.p21, hA.p22, hA.p23, hA.p24, hA.p25, hA.p26, hA.p27, hA.p28, hA.p29, hA.p30, hA.p31, hA.p32, hA.p33, hA.p34, hA.p35, hA.p36, hA.p37, hA.p38, hA.p39, hA.p40, hA.p41, hA.p42, hA.p43, hA.p44, hA.p45]

theorem brn0_keep (v : Nat → Int32) {j : Nat} (h0 : j ≠ 0) (h2 : j ≠ 2) (h4 : j ≠ 4) (h6 : j ≠ 6) (h10 : j ≠ 10) (h38 : j ≠ 38) : brn0 v j = v j := by
  unfold brn0
  generalize f_X0_burn (v 0) (v 2) (v 4) (v 6) (v 10) = r
  obtain ⟨r, bf, bw, bp, bl⟩ := r
  show upd (upd (upd (upd (upd (upd v 0 bf) 2 bw) 4 bp) 6 bl) 10 ((v 10) - r)) 38 ((v 38) + r) j = v j
  rw [pk_un h38, pk_un h10, pk_un h6, pk_un h4, pk_un h2, pk_un h0]

theorem brn1_keep (v : Nat → Int32) {j : Nat} (h0 : j ≠ 1) (h2 : j ≠ 3) (h4 : j ≠ 5) (h6 : j ≠ 7) (h10 : j ≠ 10) (h38 : j ≠ 38) : brn1 v j = v j := by
  unfold brn1
  generalize f_X0_burn (v 1) (v 3) (v 5) (v 7) (v 10) = r
  obtain ⟨r, bf, bw, bp, bl⟩ := r
  show upd (upd (upd (upd (upd (upd v 1 bf) 3 bw) 5 bp) 7 bl) 10 ((v 10) - r)) 38 ((v 38) + r) j = v j
  rw [pk_un h38, pk_un h10, pk_un h6, pk_un h4, pk_un h2, pk_un h0]

theorem sub_rng {a c : Int32} (ha : 0 ≤ c) (hc : ¬ a < c) : 0 ≤ a - c ∧ a - c ≤ a := by
  rw [Int32.le_iff_toInt_le] at ha
  rw [Int32.lt_iff_toInt_lt] at hc
  have h0 : (0 : Int32).toInt = 0 := by decide
  have r := a.toInt_lt
  have r2 := a.le_toInt
  have r3 := c.toInt_lt
  have e : (a - c).toInt = a.toInt - c.toInt := by
    rw [Int32.toInt_sub]
    apply Int.bmod_eq_of_le <;> omega
  rw [Int32.le_iff_toInt_le, Int32.le_iff_toInt_le, e]
  omega
theorem add_rng {a c m : Int32} (ha : 0 ≤ a) (hc : 0 ≤ c) (h : ¬ m - a < c) (hm : a ≤ m) : 0 ≤ a + c ∧ a + c ≤ m := by
  rw [Int32.le_iff_toInt_le] at ha hc hm
  rw [Int32.lt_iff_toInt_lt] at h
  have h0 : (0 : Int32).toInt = 0 := by decide
  have r := m.toInt_lt
  have r2 := a.le_toInt
  have e : (m - a).toInt = m.toInt - a.toInt := by
    rw [Int32.toInt_sub]
    apply Int.bmod_eq_of_le <;> omega
  rw [e] at h
  have e2 : (a + c).toInt = a.toInt + c.toInt := by
    rw [Int32.toInt_add]
    apply Int.bmod_eq_of_le <;> omega
  rw [Int32.le_iff_toInt_le, Int32.le_iff_toInt_le, e2]
  omega

theorem brn0_inv {v : Nat → Int32} (hf : 0 ≤ v 0) (hw : 0 ≤ v 2) (hc : 0 ≤ v 10) : (0 ≤ brn0 v 10 ∧ brn0 v 10 ≤ v 10) ∧ (0 ≤ brn0 v 2 ∧ brn0 v 2 ≤ v 2) ∧ (0 ≤ brn0 v 0 ∧ (brn0 v 0 = 0 ∨ brn0 v 0 = v 0)) := by
  unfold brn0 f_X0_burn
  have z : (0 : Int32) ≤ 0 := Int32.le_refl 0
  have rf : ∀ x : Int32, x ≤ x := fun x => Int32.le_refl x
  by_cases c1 : v 6 ≤ 0
  · rw [if_pos c1]
    by_cases c2 : v 10 < v 0
    · rw [if_pos c2]
      simp [upd, nI0, hc, hw, rf]
    · rw [if_neg c2]
      by_cases c3 : v 0 ≤ v 2
      · rw [if_pos c3]
        have h1 := sub_rng hf c2
        have h2 := sub_rng hf (Int32.not_lt.mpr c3)
        simp [upd, h1, h2, hf]
      · rw [if_neg c3]
        simp [upd, nI0, hc, hw, rf]
  · rw [if_neg c1]
    simp [upd, nI0, hc, hw, hf, rf]

theorem brn1_inv {v : Nat → Int32} (hf : 0 ≤ v 1) (hw : 0 ≤ v 3) (hc : 0 ≤ v 10) : (0 ≤ brn1 v 10 ∧ brn1 v 10 ≤ v 10) ∧ (0 ≤ brn1 v 3 ∧ brn1 v 3 ≤ v 3) ∧ (0 ≤ brn1 v 1 ∧ (brn1 v 1 = 0 ∨ brn1 v 1 = v 1)) := by
  unfold brn1 f_X0_burn
  have z : (0 : Int32) ≤ 0 := Int32.le_refl 0
  have rf : ∀ x : Int32, x ≤ x := fun x => Int32.le_refl x
  by_cases c1 : v 7 ≤ 0
  · rw [if_pos c1]
    by_cases c2 : v 10 < v 1
    · rw [if_pos c2]
      simp [upd, nI0, hc, hw, rf]
    · rw [if_neg c2]
      by_cases c3 : v 1 ≤ v 3
      · rw [if_pos c3]
        have h1 := sub_rng hf c2
        have h2 := sub_rng hf (Int32.not_lt.mpr c3)
        simp [upd, h1, h2, hf]
      · rw [if_neg c3]
        simp [upd, nI0, hc, hw, rf]
  · rw [if_neg c1]
    simp [upd, nI0, hc, hw, hf, rf]

theorem rat_keep (v : Nat → Int32) {j : Nat} (h12 : j ≠ 12) (h10 : j ≠ 10) (h39 : j ≠ 39) : rat v j = v j := by
  unfold rat tick1 f_X2_receiveRation
  by_cases c : ((v 12) + (nI 1)) - ((v 12) + (nI 1)) / (nI 60) * (nI 60) = 0
  · rw [if_pos c, pk_un h39, pk_un h10, pk_un h12]
  · rw [if_neg c, pk_un h12]
theorem rat_coal {v : Nat → Int32} (hc : 0 ≤ v 10 ∧ v 10 ≤ nI 999) (hr : 0 ≤ v 11) : 0 ≤ rat v 10 ∧ rat v 10 ≤ nI 999 := by
  unfold rat tick1 f_X2_receiveRation
  by_cases c : ((v 12) + (nI 1)) - ((v 12) + (nI 1)) / (nI 60) * (nI 60) = 0
  · rw [if_pos c]
    show 0 ≤ v 10 + (if (nI 999 - v 10) < v 11 then (nI 999 - v 10) else v 11) ∧ v 10 + (if (nI 999 - v 10) < v 11 then (nI 999 - v 10) else v 11) ≤ nI 999
    by_cases c2 : (nI 999 - v 10) < v 11
    · rw [if_pos c2]
      exact add_rng hc.1 (sub_rng hc.1 (Int32.not_lt.mpr hc.2)).1 Int32.lt_irrefl hc.2
    · rw [if_neg c2]
      exact add_rng hc.1 hr c2 hc.2
  · rw [if_neg c]
    exact hc
theorem InvT.rat {v : Nat → Int32} (h : InvT v) : InvT (rat v) := by
  obtain ⟨⟨k0, k1, k2, k3⟩, ⟨f0, f1⟩, ⟨w0, w1⟩, hc, hr⟩ := h
  refine ⟨⟨?_, ?_, ?_, ?_⟩, ⟨?_, ?_⟩, ⟨?_, ?_⟩, rat_coal hc hr, ?_⟩ <;> rw [rat_keep v (by decide) (by decide) (by decide)] <;> assumption
theorem InvT.brn0 {v : Nat → Int32} (h : InvT v) : InvT (brn0 v) := by
  obtain ⟨⟨k0, k1, k2, k3⟩, ⟨f0, f1⟩, ⟨w0, w1⟩, hc, hr⟩ := h
  obtain ⟨a, b, c⟩ := brn0_inv f0 w0 hc.1
  refine ⟨⟨?_, ?_, ?_, ?_⟩, ⟨c.1, ?_⟩, ⟨b.1, ?_⟩, ⟨a.1, Int32.le_trans a.2 hc.2⟩, ?_⟩ <;> rw [brn0_keep v (by decide) (by decide) (by decide) (by decide) (by decide) (by decide)] <;> assumption
theorem InvT.brn1 {v : Nat → Int32} (h : InvT v) : InvT (brn1 v) := by
  obtain ⟨⟨k0, k1, k2, k3⟩, ⟨f0, f1⟩, ⟨w0, w1⟩, hc, hr⟩ := h
  obtain ⟨a, b, c⟩ := brn1_inv f1 w1 hc.1
  refine ⟨⟨?_, ?_, ?_, ?_⟩, ⟨?_, c.1⟩, ⟨?_, b.1⟩, ⟨a.1, Int32.le_trans a.2 hc.2⟩, ?_⟩ <;> rw [brn1_keep v (by decide) (by decide) (by decide) (by decide) (by decide) (by decide)] <;> assumption
theorem core_at {M0 M : Nat → Int32} {b : Nat} {v q : Nat → Int32} (h : AtF M0 M b v q) (hv : InvT v) : AtF M0 (s_X7_passes_95 b M) b (s_X2_workTick_34_0 v).2 q := by
  have v0 := hv.brn0
  have v1 := v0.brn1
  have h1 := fires0 h hv.2.1.1 hv.2.2.2.1.1 hv.2.2.1.1
  have h2 := fires1 h1 v0.2.1.2 v0.2.2.2.1.1 v0.2.2.1.2
  rw [brn0_eq, brn1_eq]
  show AtF M0 (s_X7_passes_114_0 b (f_X7_works (f_X7_fires (f_X7_fires M b 0) b 1) b)) b (s_X2_workTick_83 (brn1 (brn0 v))).2 q
  generalize brn1 (brn0 v) = u at h2 v1 ⊢
  generalize f_X7_fires (f_X7_fires M b 0) b 1 = M2 at h2 ⊢
  unfold f_X7_works s_X2_workTick_83
  rw [need_eq h2.1 v1.1, pressure_eq h2.1]
  by_cases c : f_X2_need u ≤ f_X2_allPressure u
  · rw [if_pos c, if_pos c]
    show AtF M0 _ b (s_X2_workTick_122_0 (f_X2_workLoads (f_X2_takeSteam u (f_X2_need u)))).2 q
    rw [cool_eq0]
    exact coolm0 (take_at _ _ _ 0 h2 v1.1 (Nat.zero_le _) (by omega))
  · rw [if_neg c, if_neg c]
    show AtF M0 _ b (s_X2_workTick_122_1 (f_X2_holdLoads u)).2 q
    rw [cool_eq1]
    exact coolm0 (waits_at h2 v1.1)
/-- a tick of the model is a tick of the class -/
theorem passes_at {M0 M : Nat → Int32} {b : Nat} {v q : Nat → Int32} (h : AtF M0 M b v q) (hv : InvT v) : AtF M0 (f_X7_passes M b) b (f_X2_workTick v).2 q := by
  obtain ⟨M1, e, h1⟩ := ration_at h
  rw [e, tick_rat]
  exact core_at h1 hv.rat
