theorem ek5 : ek (-5) = -1 := by decide
theorem minle (r a : Int32) : (if r < a then r else a) = (if r ≤ a then r else a) := by
  by_cases c : r < a
  · rw [if_pos c, if_pos (Int32.le_of_lt c)]
  · rw [if_neg c]
    by_cases c2 : r ≤ a
    · rw [if_pos c2]
      exact Int32.le_antisymm (Int32.not_lt.mp c) c2
    · rw [if_neg c2]

theorem wash_m4 {M0 M : Nat → Int32} {b : Nat} {v q : Nat → Int32} (h : AtF M0 M b v q) (_ : KS v) : AtF M0 (s_X7_washes_2_4 M) b (s_X2_workLoads_10_4 v) q := h

set_option maxHeartbeats 4000000 in
theorem wash_m3 {M0 M : Nat → Int32} {b : Nat} {v q : Nat → Int32} (h : AtF M0 M b v q) (hk : KS v) : AtF M0 (s_X7_washes_2_3 b M) b (s_X2_workLoads_10_3 v) q := by
  obtain ⟨hA, hF⟩ := h
  have e13 : M (b + 13 + 3) = ek (v 16) := hA.p16
  have e17 : M (b + 17 + 3) = v 20 := hA.p20
  unfold s_X7_washes_2_3 s_X2_workLoads_10_3
  by_cases c : v 16 = -5
  · rw [if_pos (by rw [e13]; exact (ek_lt hk.2.2.2).mpr c), if_neg (fun z => emp_ne.mp z c)]
    exact wash_m4 ⟨hA, hF⟩ hk
  · rw [if_neg (by rw [e13]; exact fun z => c ((ek_lt hk.2.2.2).mp z)), if_pos (emp_ne.mpr c), pk_us, e17]
    by_cases c2 : v 20 - nI 1 = 0
    · rw [if_pos c2, if_pos c2]
      refine wash_m4 ⟨?_, ?_⟩ ⟨by first | exact hk.1 | exact Or.inl rfl, by first | exact hk.2.1 | exact Or.inl rfl, by first | exact hk.2.2.1 | exact Or.inl rfl, by first | exact hk.2.2.2 | exact Or.inl rfl⟩
      · apply At46 <;> simp [f_X7_empties, upd, worth_ek hk.2.2.2 c, Nat.add_assoc, nI0, ek5, Int32.sub_zero, hA.pb, hA.p1, hA.p2, hA.p3, hA.p4, hA.p5, hA.p6, hA.p7, hA.p8, hA.p9, hA.p10, hA.p11, hA.p12, hA.p13, hA.p14, hA.p15, hA.p16, hA.p17, hA.p18, hA.p19, hA.p20, hA.p21, hA.p22, hA.p23, hA.p24, hA.p25, hA.p26, hA.p27, hA.p28, hA.p29, hA.p30, hA.p31, hA.p32, hA.p33, hA.p34, hA.p35, hA.p36, hA.p37, hA.p38, hA.p39, hA.p40, hA.p41, hA.p42, hA.p43, hA.p44, hA.p45]
      · exact Fr_upd (Fr_upd (Fr_upd (Fr_upd (Fr_upd (Fr_upd (hF) (by omega)) (by omega)) (by omega)) (by omega)) (by omega)) (by omega)
    · rw [if_neg c2, if_neg c2]
      refine wash_m4 ⟨?_, Fr_upd hF (by omega)⟩ ⟨by first | exact hk.1 | exact Or.inl rfl, by first | exact hk.2.1 | exact Or.inl rfl, by first | exact hk.2.2.1 | exact Or.inl rfl, by first | exact hk.2.2.2 | exact Or.inl rfl⟩
      apply At46 <;> simp [upd, Nat.add_assoc, nI0, ek5, Int32.sub_zero, hA.pb, hA.p1, hA.p2, hA.p3, hA.p4, hA.p5, hA.p6, hA.p7, hA.p8, hA.p9, hA.p10, hA.p11, hA.p12, hA.p13, hA.p14, hA.p15, hA.p16, hA.p17, hA.p18, hA.p19, hA.p20, hA.p21, hA.p22, hA.p23, hA.p24, hA.p25, hA.p26, hA.p27, hA.p28, hA.p29, hA.p30, hA.p31, hA.p32, hA.p33, hA.p34, hA.p35, hA.p36, hA.p37, hA.p38, hA.p39, hA.p40, hA.p41, hA.p42, hA.p43, hA.p44, hA.p45]

set_option maxHeartbeats 4000000 in
theorem wash_m2 {M0 M : Nat → Int32} {b : Nat} {v q : Nat → Int32} (h : AtF M0 M b v q) (hk : KS v) : AtF M0 (s_X7_washes_2_2 b M) b (s_X2_workLoads_10_2 v) q := by
  obtain ⟨hA, hF⟩ := h
  have e13 : M (b + 13 + 2) = ek (v 15) := hA.p15
  have e17 : M (b + 17 + 2) = v 19 := hA.p19
  unfold s_X7_washes_2_2 s_X2_workLoads_10_2
  by_cases c : v 15 = -5
  · rw [if_pos (by rw [e13]; exact (ek_lt hk.2.2.1).mpr c), if_neg (fun z => emp_ne.mp z c)]
    exact wash_m3 ⟨hA, hF⟩ hk
  · rw [if_neg (by rw [e13]; exact fun z => c ((ek_lt hk.2.2.1).mp z)), if_pos (emp_ne.mpr c), pk_us, e17]
    by_cases c2 : v 19 - nI 1 = 0
    · rw [if_pos c2, if_pos c2]
      refine wash_m3 ⟨?_, ?_⟩ ⟨by first | exact hk.1 | exact Or.inl rfl, by first | exact hk.2.1 | exact Or.inl rfl, by first | exact hk.2.2.1 | exact Or.inl rfl, by first | exact hk.2.2.2 | exact Or.inl rfl⟩
      · apply At46 <;> simp [f_X7_empties, upd, worth_ek hk.2.2.1 c, Nat.add_assoc, nI0, ek5, Int32.sub_zero, hA.pb, hA.p1, hA.p2, hA.p3, hA.p4, hA.p5, hA.p6, hA.p7, hA.p8, hA.p9, hA.p10, hA.p11, hA.p12, hA.p13, hA.p14, hA.p15, hA.p16, hA.p17, hA.p18, hA.p19, hA.p20, hA.p21, hA.p22, hA.p23, hA.p24, hA.p25, hA.p26, hA.p27, hA.p28, hA.p29, hA.p30, hA.p31, hA.p32, hA.p33, hA.p34, hA.p35, hA.p36, hA.p37, hA.p38, hA.p39, hA.p40, hA.p41, hA.p42, hA.p43, hA.p44, hA.p45]
      · exact Fr_upd (Fr_upd (Fr_upd (Fr_upd (Fr_upd (Fr_upd (hF) (by omega)) (by omega)) (by omega)) (by omega)) (by omega)) (by omega)
    · rw [if_neg c2, if_neg c2]
      refine wash_m3 ⟨?_, Fr_upd hF (by omega)⟩ ⟨by first | exact hk.1 | exact Or.inl rfl, by first | exact hk.2.1 | exact Or.inl rfl, by first | exact hk.2.2.1 | exact Or.inl rfl, by first | exact hk.2.2.2 | exact Or.inl rfl⟩
      apply At46 <;> simp [upd, Nat.add_assoc, nI0, ek5, Int32.sub_zero, hA.pb, hA.p1, hA.p2, hA.p3, hA.p4, hA.p5, hA.p6, hA.p7, hA.p8, hA.p9, hA.p10, hA.p11, hA.p12, hA.p13, hA.p14, hA.p15, hA.p16, hA.p17, hA.p18, hA.p19, hA.p20, hA.p21, hA.p22, hA.p23, hA.p24, hA.p25, hA.p26, hA.p27, hA.p28, hA.p29, hA.p30, hA.p31, hA.p32, hA.p33, hA.p34, hA.p35, hA.p36, hA.p37, hA.p38, hA.p39, hA.p40, hA.p41, hA.p42, hA.p43, hA.p44, hA.p45]

set_option maxHeartbeats 4000000 in
theorem wash_m1 {M0 M : Nat → Int32} {b : Nat} {v q : Nat → Int32} (h : AtF M0 M b v q) (hk : KS v) : AtF M0 (s_X7_washes_2_1 b M) b (s_X2_workLoads_10_1 v) q := by
  obtain ⟨hA, hF⟩ := h
  have e13 : M (b + 13 + 1) = ek (v 14) := hA.p14
  have e17 : M (b + 17 + 1) = v 18 := hA.p18
  unfold s_X7_washes_2_1 s_X2_workLoads_10_1
  by_cases c : v 14 = -5
  · rw [if_pos (by rw [e13]; exact (ek_lt hk.2.1).mpr c), if_neg (fun z => emp_ne.mp z c)]
    exact wash_m2 ⟨hA, hF⟩ hk
  · rw [if_neg (by rw [e13]; exact fun z => c ((ek_lt hk.2.1).mp z)), if_pos (emp_ne.mpr c), pk_us, e17]
    by_cases c2 : v 18 - nI 1 = 0
    · rw [if_pos c2, if_pos c2]
      refine wash_m2 ⟨?_, ?_⟩ ⟨by first | exact hk.1 | exact Or.inl rfl, by first | exact hk.2.1 | exact Or.inl rfl, by first | exact hk.2.2.1 | exact Or.inl rfl, by first | exact hk.2.2.2 | exact Or.inl rfl⟩
      · apply At46 <;> simp [f_X7_empties, upd, worth_ek hk.2.1 c, Nat.add_assoc, nI0, ek5, Int32.sub_zero, hA.pb, hA.p1, hA.p2, hA.p3, hA.p4, hA.p5, hA.p6, hA.p7, hA.p8, hA.p9, hA.p10, hA.p11, hA.p12, hA.p13, hA.p14, hA.p15, hA.p16, hA.p17, hA.p18, hA.p19, hA.p20, hA.p21, hA.p22, hA.p23, hA.p24, hA.p25, hA.p26, hA.p27, hA.p28, hA.p29, hA.p30, hA.p31, hA.p32, hA.p33, hA.p34, hA.p35, hA.p36, hA.p37, hA.p38, hA.p39, hA.p40, hA.p41, hA.p42, hA.p43, hA.p44, hA.p45]
      · exact Fr_upd (Fr_upd (Fr_upd (Fr_upd (Fr_upd (Fr_upd (hF) (by omega)) (by omega)) (by omega)) (by omega)) (by omega)) (by omega)
    · rw [if_neg c2, if_neg c2]
      refine wash_m2 ⟨?_, Fr_upd hF (by omega)⟩ ⟨by first | exact hk.1 | exact Or.inl rfl, by first | exact hk.2.1 | exact Or.inl rfl, by first | exact hk.2.2.1 | exact Or.inl rfl, by first | exact hk.2.2.2 | exact Or.inl rfl⟩
      apply At46 <;> simp [upd, Nat.add_assoc, nI0, ek5, Int32.sub_zero, hA.pb, hA.p1, hA.p2, hA.p3, hA.p4, hA.p5, hA.p6, hA.p7, hA.p8, hA.p9, hA.p10, hA.p11, hA.p12, hA.p13, hA.p14, hA.p15, hA.p16, hA.p17, hA.p18, hA.p19, hA.p20, hA.p21, hA.p22, hA.p23, hA.p24, hA.p25, hA.p26, hA.p27, hA.p28, hA.p29, hA.p30, hA.p31, hA.p32, hA.p33, hA.p34, hA.p35, hA.p36, hA.p37, hA.p38, hA.p39, hA.p40, hA.p41, hA.p42, hA.p43, hA.p44, hA.p45]

set_option maxHeartbeats 4000000 in
theorem wash_m0 {M0 M : Nat → Int32} {b : Nat} {v q : Nat → Int32} (h : AtF M0 M b v q) (hk : KS v) : AtF M0 (s_X7_washes_2_0 b M) b (s_X2_workLoads_10_0 v) q := by
  obtain ⟨hA, hF⟩ := h
  have e13 : M (b + 13 + 0) = ek (v 13) := hA.p13
  have e17 : M (b + 17 + 0) = v 17 := hA.p17
  unfold s_X7_washes_2_0 s_X2_workLoads_10_0
  by_cases c : v 13 = -5
  · rw [if_pos (by rw [e13]; exact (ek_lt hk.1).mpr c), if_neg (fun z => emp_ne.mp z c)]
    exact wash_m1 ⟨hA, hF⟩ hk
  · rw [if_neg (by rw [e13]; exact fun z => c ((ek_lt hk.1).mp z)), if_pos (emp_ne.mpr c), pk_us, e17]
    by_cases c2 : v 17 - nI 1 = 0
    · rw [if_pos c2, if_pos c2]
      refine wash_m1 ⟨?_, ?_⟩ ⟨by first | exact hk.1 | exact Or.inl rfl, by first | exact hk.2.1 | exact Or.inl rfl, by first | exact hk.2.2.1 | exact Or.inl rfl, by first | exact hk.2.2.2 | exact Or.inl rfl⟩
      · apply At46 <;> simp [f_X7_empties, upd, worth_ek hk.1 c, Nat.add_assoc, nI0, ek5, Int32.sub_zero, hA.pb, hA.p1, hA.p2, hA.p3, hA.p4, hA.p5, hA.p6, hA.p7, hA.p8, hA.p9, hA.p10, hA.p11, hA.p12, hA.p13, hA.p14, hA.p15, hA.p16, hA.p17, hA.p18, hA.p19, hA.p20, hA.p21, hA.p22, hA.p23, hA.p24, hA.p25, hA.p26, hA.p27, hA.p28, hA.p29, hA.p30, hA.p31, hA.p32, hA.p33, hA.p34, hA.p35, hA.p36, hA.p37, hA.p38, hA.p39, hA.p40, hA.p41, hA.p42, hA.p43, hA.p44, hA.p45]
      · exact Fr_upd (Fr_upd (Fr_upd (Fr_upd (Fr_upd (Fr_upd (hF) (by omega)) (by omega)) (by omega)) (by omega)) (by omega)) (by omega)
    · rw [if_neg c2, if_neg c2]
      refine wash_m1 ⟨?_, Fr_upd hF (by omega)⟩ ⟨by first | exact hk.1 | exact Or.inl rfl, by first | exact hk.2.1 | exact Or.inl rfl, by first | exact hk.2.2.1 | exact Or.inl rfl, by first | exact hk.2.2.2 | exact Or.inl rfl⟩
      apply At46 <;> simp [upd, Nat.add_assoc, nI0, ek5, Int32.sub_zero, hA.pb, hA.p1, hA.p2, hA.p3, hA.p4, hA.p5, hA.p6, hA.p7, hA.p8, hA.p9, hA.p10, hA.p11, hA.p12, hA.p13, hA.p14, hA.p15, hA.p16, hA.p17, hA.p18, hA.p19, hA.p20, hA.p21, hA.p22, hA.p23, hA.p24, hA.p25, hA.p26, hA.p27, hA.p28, hA.p29, hA.p30, hA.p31, hA.p32, hA.p33, hA.p34, hA.p35, hA.p36, hA.p37, hA.p38, hA.p39, hA.p40, hA.p41, hA.p42, hA.p43, hA.p44, hA.p45]

theorem wait_m4 {M0 M : Nat → Int32} {b : Nat} {v q : Nat → Int32} (h : AtF M0 M b v q) (_ : KS v) : AtF M0 (s_X7_waits_15_4 M) b (s_X2_holdLoads_20_4 v) q := h

set_option maxHeartbeats 4000000 in
theorem wait_m3 {M0 M : Nat → Int32} {b : Nat} {v q : Nat → Int32} (h : AtF M0 M b v q) (hk : KS v) : AtF M0 (s_X7_waits_15_3 b M) b (s_X2_holdLoads_20_3 v) q := by
  obtain ⟨hA, hF⟩ := h
  have e13 : M (b + 13 + 3) = ek (v 16) := hA.p16
  have e17 : M (b + 21 + 3) = v 24 := hA.p24
  unfold s_X7_waits_15_3 s_X2_holdLoads_20_3
  by_cases c : v 16 = -5
  · rw [if_pos (by rw [e13]; exact (ek_lt hk.2.2.2).mpr c), if_neg (fun z => emp_ne.mp z c)]
    exact wait_m4 ⟨hA, hF⟩ hk
  · rw [if_neg (by rw [e13]; exact fun z => c ((ek_lt hk.2.2.2).mp z)), if_pos (emp_ne.mpr c), pk_us, e17]
    by_cases c2 : v 24 + nI 1 = nI 3
    · rw [if_pos c2, if_pos c2]
      refine wait_m4 ⟨?_, ?_⟩ ⟨by first | exact hk.1 | exact Or.inl rfl, by first | exact hk.2.1 | exact Or.inl rfl, by first | exact hk.2.2.1 | exact Or.inl rfl, by first | exact hk.2.2.2 | exact Or.inl rfl⟩
      · apply At46 <;> simp [f_X7_empties, upd, Nat.add_assoc, nI0, ek5, Int32.sub_zero, hA.pb, hA.p1, hA.p2, hA.p3, hA.p4, hA.p5, hA.p6, hA.p7, hA.p8, hA.p9, hA.p10, hA.p11, hA.p12, hA.p13, hA.p14, hA.p15, hA.p16, hA.p17, hA.p18, hA.p19, hA.p20, hA.p21, hA.p22, hA.p23, hA.p24, hA.p25, hA.p26, hA.p27, hA.p28, hA.p29, hA.p30, hA.p31, hA.p32, hA.p33, hA.p34, hA.p35, hA.p36, hA.p37, hA.p38, hA.p39, hA.p40, hA.p41, hA.p42, hA.p43, hA.p44, hA.p45]
      · exact Fr_upd (Fr_upd (Fr_upd (Fr_upd (Fr_upd (hF) (by omega)) (by omega)) (by omega)) (by omega)) (by omega)
    · rw [if_neg c2, if_neg c2]
      refine wait_m4 ⟨?_, Fr_upd hF (by omega)⟩ ⟨by first | exact hk.1 | exact Or.inl rfl, by first | exact hk.2.1 | exact Or.inl rfl, by first | exact hk.2.2.1 | exact Or.inl rfl, by first | exact hk.2.2.2 | exact Or.inl rfl⟩
      apply At46 <;> simp [upd, Nat.add_assoc, nI0, ek5, Int32.sub_zero, hA.pb, hA.p1, hA.p2, hA.p3, hA.p4, hA.p5, hA.p6, hA.p7, hA.p8, hA.p9, hA.p10, hA.p11, hA.p12, hA.p13, hA.p14, hA.p15, hA.p16, hA.p17, hA.p18, hA.p19, hA.p20, hA.p21, hA.p22, hA.p23, hA.p24, hA.p25, hA.p26, hA.p27, hA.p28, hA.p29, hA.p30, hA.p31, hA.p32, hA.p33, hA.p34, hA.p35, hA.p36, hA.p37, hA.p38, hA.p39, hA.p40, hA.p41, hA.p42, hA.p43, hA.p44, hA.p45]

set_option maxHeartbeats 4000000 in
theorem wait_m2 {M0 M : Nat → Int32} {b : Nat} {v q : Nat → Int32} (h : AtF M0 M b v q) (hk : KS v) : AtF M0 (s_X7_waits_15_2 b M) b (s_X2_holdLoads_20_2 v) q := by
  obtain ⟨hA, hF⟩ := h
  have e13 : M (b + 13 + 2) = ek (v 15) := hA.p15
  have e17 : M (b + 21 + 2) = v 23 := hA.p23
  unfold s_X7_waits_15_2 s_X2_holdLoads_20_2
  by_cases c : v 15 = -5
  · rw [if_pos (by rw [e13]; exact (ek_lt hk.2.2.1).mpr c), if_neg (fun z => emp_ne.mp z c)]
    exact wait_m3 ⟨hA, hF⟩ hk
  · rw [if_neg (by rw [e13]; exact fun z => c ((ek_lt hk.2.2.1).mp z)), if_pos (emp_ne.mpr c), pk_us, e17]
    by_cases c2 : v 23 + nI 1 = nI 3
    · rw [if_pos c2, if_pos c2]
      refine wait_m3 ⟨?_, ?_⟩ ⟨by first | exact hk.1 | exact Or.inl rfl, by first | exact hk.2.1 | exact Or.inl rfl, by first | exact hk.2.2.1 | exact Or.inl rfl, by first | exact hk.2.2.2 | exact Or.inl rfl⟩
      · apply At46 <;> simp [f_X7_empties, upd, Nat.add_assoc, nI0, ek5, Int32.sub_zero, hA.pb, hA.p1, hA.p2, hA.p3, hA.p4, hA.p5, hA.p6, hA.p7, hA.p8, hA.p9, hA.p10, hA.p11, hA.p12, hA.p13, hA.p14, hA.p15, hA.p16, hA.p17, hA.p18, hA.p19, hA.p20, hA.p21, hA.p22, hA.p23, hA.p24, hA.p25, hA.p26, hA.p27, hA.p28, hA.p29, hA.p30, hA.p31, hA.p32, hA.p33, hA.p34, hA.p35, hA.p36, hA.p37, hA.p38, hA.p39, hA.p40, hA.p41, hA.p42, hA.p43, hA.p44, hA.p45]
      · exact Fr_upd (Fr_upd (Fr_upd (Fr_upd (Fr_upd (hF) (by omega)) (by omega)) (by omega)) (by omega)) (by omega)
    · rw [if_neg c2, if_neg c2]
      refine wait_m3 ⟨?_, Fr_upd hF (by omega)⟩ ⟨by first | exact hk.1 | exact Or.inl rfl, by first | exact hk.2.1 | exact Or.inl rfl, by first | exact hk.2.2.1 | exact Or.inl rfl, by first | exact hk.2.2.2 | exact Or.inl rfl⟩
      apply At46 <;> simp [upd, Nat.add_assoc, nI0, ek5, Int32.sub_zero, hA.pb, hA.p1, hA.p2, hA.p3, hA.p4, hA.p5, hA.p6, hA.p7, hA.p8, hA.p9, hA.p10, hA.p11, hA.p12, hA.p13, hA.p14, hA.p15, hA.p16, hA.p17, hA.p18, hA.p19, hA.p20, hA.p21, hA.p22, hA.p23, hA.p24, hA.p25, hA.p26, hA.p27, hA.p28, hA.p29, hA.p30, hA.p31, hA.p32, hA.p33, hA.p34, hA.p35, hA.p36, hA.p37, hA.p38, hA.p39, hA.p40, hA.p41, hA.p42, hA.p43, hA.p44, hA.p45]

set_option maxHeartbeats 4000000 in
theorem wait_m1 {M0 M : Nat → Int32} {b : Nat} {v q : Nat → Int32} (h : AtF M0 M b v q) (hk : KS v) : AtF M0 (s_X7_waits_15_1 b M) b (s_X2_holdLoads_20_1 v) q := by
  obtain ⟨hA, hF⟩ := h
  have e13 : M (b + 13 + 1) = ek (v 14) := hA.p14
  have e17 : M (b + 21 + 1) = v 22 := hA.p22
  unfold s_X7_waits_15_1 s_X2_holdLoads_20_1
  by_cases c : v 14 = -5
  · rw [if_pos (by rw [e13]; exact (ek_lt hk.2.1).mpr c), if_neg (fun z => emp_ne.mp z c)]
    exact wait_m2 ⟨hA, hF⟩ hk
  · rw [if_neg (by rw [e13]; exact fun z => c ((ek_lt hk.2.1).mp z)), if_pos (emp_ne.mpr c), pk_us, e17]
    by_cases c2 : v 22 + nI 1 = nI 3
    · rw [if_pos c2, if_pos c2]
      refine wait_m2 ⟨?_, ?_⟩ ⟨by first | exact hk.1 | exact Or.inl rfl, by first | exact hk.2.1 | exact Or.inl rfl, by first | exact hk.2.2.1 | exact Or.inl rfl, by first | exact hk.2.2.2 | exact Or.inl rfl⟩
      · apply At46 <;> simp [f_X7_empties, upd, Nat.add_assoc, nI0, ek5, Int32.sub_zero, hA.pb, hA.p1, hA.p2, hA.p3, hA.p4, hA.p5, hA.p6, hA.p7, hA.p8, hA.p9, hA.p10, hA.p11, hA.p12, hA.p13, hA.p14, hA.p15, hA.p16, hA.p17, hA.p18, hA.p19, hA.p20, hA.p21, hA.p22, hA.p23, hA.p24, hA.p25, hA.p26, hA.p27, hA.p28, hA.p29, hA.p30, hA.p31, hA.p32, hA.p33, hA.p34, hA.p35, hA.p36, hA.p37, hA.p38, hA.p39, hA.p40, hA.p41, hA.p42, hA.p43, hA.p44, hA.p45]
      · exact Fr_upd (Fr_upd (Fr_upd (Fr_upd (Fr_upd (hF) (by omega)) (by omega)) (by omega)) (by omega)) (by omega)
    · rw [if_neg c2, if_neg c2]
      refine wait_m2 ⟨?_, Fr_upd hF (by omega)⟩ ⟨by first | exact hk.1 | exact Or.inl rfl, by first | exact hk.2.1 | exact Or.inl rfl, by first | exact hk.2.2.1 | exact Or.inl rfl, by first | exact hk.2.2.2 | exact Or.inl rfl⟩
      apply At46 <;> simp [upd, Nat.add_assoc, nI0, ek5, Int32.sub_zero, hA.pb, hA.p1, hA.p2, hA.p3, hA.p4, hA.p5, hA.p6, hA.p7, hA.p8, hA.p9, hA.p10, hA.p11, hA.p12, hA.p13, hA.p14, hA.p15, hA.p16, hA.p17, hA.p18, hA.p19, hA.p20, hA.p21, hA.p22, hA.p23, hA.p24, hA.p25, hA.p26, hA.p27, hA.p28, hA.p29, hA.p30, hA.p31, hA.p32, hA.p33, hA.p34, hA.p35, hA.p36, hA.p37, hA.p38, hA.p39, hA.p40, hA.p41, hA.p42, hA.p43, hA.p44, hA.p45]

set_option maxHeartbeats 4000000 in
theorem wait_m0 {M0 M : Nat → Int32} {b : Nat} {v q : Nat → Int32} (h : AtF M0 M b v q) (hk : KS v) : AtF M0 (s_X7_waits_15_0 b M) b (s_X2_holdLoads_20_0 v) q := by
  obtain ⟨hA, hF⟩ := h
  have e13 : M (b + 13 + 0) = ek (v 13) := hA.p13
  have e17 : M (b + 21 + 0) = v 21 := hA.p21
  unfold s_X7_waits_15_0 s_X2_holdLoads_20_0
  by_cases c : v 13 = -5
  · rw [if_pos (by rw [e13]; exact (ek_lt hk.1).mpr c), if_neg (fun z => emp_ne.mp z c)]
    exact wait_m1 ⟨hA, hF⟩ hk
  · rw [if_neg (by rw [e13]; exact fun z => c ((ek_lt hk.1).mp z)), if_pos (emp_ne.mpr c), pk_us, e17]
    by_cases c2 : v 21 + nI 1 = nI 3
    · rw [if_pos c2, if_pos c2]
      refine wait_m1 ⟨?_, ?_⟩ ⟨by first | exact hk.1 | exact Or.inl rfl, by first | exact hk.2.1 | exact Or.inl rfl, by first | exact hk.2.2.1 | exact Or.inl rfl, by first | exact hk.2.2.2 | exact Or.inl rfl⟩
      · apply At46 <;> simp [f_X7_empties, upd, Nat.add_assoc, nI0, ek5, Int32.sub_zero, hA.pb, hA.p1, hA.p2, hA.p3, hA.p4, hA.p5, hA.p6, hA.p7, hA.p8, hA.p9, hA.p10, hA.p11, hA.p12, hA.p13, hA.p14, hA.p15, hA.p16, hA.p17, hA.p18, hA.p19, hA.p20, hA.p21, hA.p22, hA.p23, hA.p24, hA.p25, hA.p26, hA.p27, hA.p28, hA.p29, hA.p30, hA.p31, hA.p32, hA.p33, hA.p34, hA.p35, hA.p36, hA.p37, hA.p38, hA.p39, hA.p40, hA.p41, hA.p42, hA.p43, hA.p44, hA.p45]
      · exact Fr_upd (Fr_upd (Fr_upd (Fr_upd (Fr_upd (hF) (by omega)) (by omega)) (by omega)) (by omega)) (by omega)
    · rw [if_neg c2, if_neg c2]
      refine wait_m1 ⟨?_, Fr_upd hF (by omega)⟩ ⟨by first | exact hk.1 | exact Or.inl rfl, by first | exact hk.2.1 | exact Or.inl rfl, by first | exact hk.2.2.1 | exact Or.inl rfl, by first | exact hk.2.2.2 | exact Or.inl rfl⟩
      apply At46 <;> simp [upd, Nat.add_assoc, nI0, ek5, Int32.sub_zero, hA.pb, hA.p1, hA.p2, hA.p3, hA.p4, hA.p5, hA.p6, hA.p7, hA.p8, hA.p9, hA.p10, hA.p11, hA.p12, hA.p13, hA.p14, hA.p15, hA.p16, hA.p17, hA.p18, hA.p19, hA.p20, hA.p21, hA.p22, hA.p23, hA.p24, hA.p25, hA.p26, hA.p27, hA.p28, hA.p29, hA.p30, hA.p31, hA.p32, hA.p33, hA.p34, hA.p35, hA.p36, hA.p37, hA.p38, hA.p39, hA.p40, hA.p41, hA.p42, hA.p43, hA.p44, hA.p45]

theorem washes_at {M0 M : Nat → Int32} {b : Nat} {v q : Nat → Int32} (h : AtF M0 M b v q) (hk : KS v) : AtF M0 (f_X7_washes M b) b (f_X2_workLoads v) q := by
  unfold f_X7_washes f_X2_workLoads
  exact wash_m0 h hk
set_option maxHeartbeats 4000000 in
theorem waits_at {M0 M : Nat → Int32} {b : Nat} {v q : Nat → Int32} (h : AtF M0 M b v q) (hk : KS v) : AtF M0 (f_X7_waits M b) b (f_X2_holdLoads v) q := by
  unfold f_X7_waits f_X2_holdLoads
  obtain ⟨hA, hF⟩ := h
  refine wait_m0 ⟨?_, Fr_upd hF (by omega)⟩ ⟨hk.1, hk.2.1, hk.2.2.1, hk.2.2.2⟩
  apply At46 <;> simp [upd, Nat.add_assoc, nI0, ek5, Int32.sub_zero, hA.pb, hA.p1, hA.p2, hA.p3, hA.p4, hA.p5, hA.p6, hA.p7, hA.p8, hA.p9, hA.p10, hA.p11, hA.p12, hA.p13, hA.p14, hA.p15, hA.p16, hA.p17, hA.p18, hA.p19, hA.p20, hA.p21, hA.p22, hA.p23, hA.p24, hA.p25, hA.p26, hA.p27, hA.p28, hA.p29, hA.p30, hA.p31, hA.p32, hA.p33, hA.p34, hA.p35, hA.p36, hA.p37, hA.p38, hA.p39, hA.p40, hA.p41, hA.p42, hA.p43, hA.p44, hA.p45]
set_option maxHeartbeats 4000000 in
theorem take_at {M0 : Nat → Int32} {b : Nat} {q : Nat → Int32} {z : Int32} : ∀ (n : Nat) (M v : Nat → Int32) (i : Nat), AtF M0 M b v q → KS v → i ≤ z.toNatClampNeg → z.toNatClampNeg - i < n → AtF M0 (s_X7_works_23 b n M z i) b (f_X2_workLoads (s_X2_takeSteam_2 z n v i)) q
  | 0, M, v, i, _, _, _, hn => absurd hn (Nat.not_lt_zero _)
  | n + 1, M, v, i, h, hk, hi, hn => by
    obtain ⟨hA, hF⟩ := h
    have e4 : M (b + 4) = v 4 := hA.p4
    have e5 : M (b + 4 + 1) = v 5 := hA.p5
    have hz := natBig z
    rw [s_X7_works_23, s_X2_takeSteam_2]
    by_cases c : z ≤ nI i
    · rw [if_pos c, if_pos c]
      exact washes_at ⟨hA, hF⟩ hk
    · have hg := ltNat c (by omega)
      rw [if_neg c, if_neg c, e4, e5]
      by_cases c2 : v 4 < v 5
      · rw [if_pos c2, if_neg (Int32.not_le.mpr c2)]
        refine take_at n _ _ (i + 1) ⟨?_, Fr_upd hF (by omega)⟩ ⟨hk.1, hk.2.1, hk.2.2.1, hk.2.2.2⟩ hg (by omega)
        apply At46 <;> simp [upd, Nat.add_assoc, nI0, ek5, Int32.sub_zero, hA.pb, hA.p1, hA.p2, hA.p3, hA.p4, hA.p5, hA.p6, hA.p7, hA.p8, hA.p9, hA.p10, hA.p11, hA.p12, hA.p13, hA.p14, hA.p15, hA.p16, hA.p17, hA.p18, hA.p19, hA.p20, hA.p21, hA.p22, hA.p23, hA.p24, hA.p25, hA.p26, hA.p27, hA.p28, hA.p29, hA.p30, hA.p31, hA.p32, hA.p33, hA.p34, hA.p35, hA.p36, hA.p37, hA.p38, hA.p39, hA.p40, hA.p41, hA.p42, hA.p43, hA.p44, hA.p45]
      · rw [if_neg c2, if_pos (Int32.not_lt.mp c2)]
        refine take_at n _ _ (i + 1) ⟨?_, Fr_upd hF (by omega)⟩ ⟨hk.1, hk.2.1, hk.2.2.1, hk.2.2.2⟩ hg (by omega)
        apply At46 <;> simp [upd, e4, Nat.add_assoc, nI0, ek5, Int32.sub_zero, hA.pb, hA.p1, hA.p2, hA.p3, hA.p4, hA.p5, hA.p6, hA.p7, hA.p8, hA.p9, hA.p10, hA.p11, hA.p12, hA.p13, hA.p14, hA.p15, hA.p16, hA.p17, hA.p18, hA.p19, hA.p20, hA.p21, hA.p22, hA.p23, hA.p24, hA.p25, hA.p26, hA.p27, hA.p28, hA.p29, hA.p30, hA.p31, hA.p32, hA.p33, hA.p34, hA.p35, hA.p36, hA.p37, hA.p38, hA.p39, hA.p40, hA.p41, hA.p42, hA.p43, hA.p44, hA.p45]

def cool0 (v : Nat → Int32) : Nat → Int32 :=
  match f_X0_coolDown (v 0) (v 4) (v 6) (v 8) with
  | (bf, bp, bl, bs) => upd (upd (upd (upd v 0 bf) 4 bp) 6 bl) 8 bs

def cool1 (v : Nat → Int32) : Nat → Int32 :=
  match f_X0_coolDown (v 1) (v 5) (v 7) (v 9) with
  | (bf, bp, bl, bs) => upd (upd (upd (upd v 1 bf) 5 bp) 7 bl) 9 bs

theorem cool_eq0 (v : Nat → Int32) : s_X2_workTick_122_0 v = (nI 0, cool1 (cool0 v)) := by
  unfold s_X2_workTick_122_0 cool0
  generalize f_X0_coolDown (v 0) (v 4) (v 6) (v 8) = r
  obtain ⟨bf, bp, bl, bs⟩ := r
  have e : cool1 (upd (upd (upd (upd v 0 bf) 4 bp) 6 bl) 8 bs) = (match f_X0_coolDown (v 1) (v 5) (v 7) (v 9) with | (x1, x2, x3, x4) => upd (upd (upd (upd (upd (upd (upd (upd v 0 bf) 4 bp) 6 bl) 8 bs) 1 x1) 5 x2) 7 x3) 9 x4) := rfl
  dsimp only
  rw [e]

theorem cool_eq1 (v : Nat → Int32) : s_X2_workTick_122_1 v = (nI 1, cool1 (cool0 v)) := by
  unfold s_X2_workTick_122_1 cool0
  generalize f_X0_coolDown (v 0) (v 4) (v 6) (v 8) = r
  obtain ⟨bf, bp, bl, bs⟩ := r
  have e : cool1 (upd (upd (upd (upd v 0 bf) 4 bp) 6 bl) 8 bs) = (match f_X0_coolDown (v 1) (v 5) (v 7) (v 9) with | (x1, x2, x3, x4) => upd (upd (upd (upd (upd (upd (upd (upd v 0 bf) 4 bp) 6 bl) 8 bs) 1 x1) 5 x2) 7 x3) 9 x4) := rfl
  dsimp only
  rw [e]

set_option maxHeartbeats 4000000 in
theorem coolm1 {M0 M : Nat → Int32} {b : Nat} {v q : Nat → Int32} (h : AtF M0 M b v q) : AtF M0 (s_X7_passes_114_1 b M) b (cool1 v) q := by
  obtain ⟨hA, hF⟩ := h
  have e4 : M (b + 4 + 1) = v 5 := hA.p5
  unfold s_X7_passes_114_1
  simp only [pk_us]
  rw [e4]
  by_cases c1 : v 5 ≤ 0
  · rw [if_pos c1, nI0, Int32.sub_zero, ← nI0]
    by_cases c2 : v 5 ≤ nI 70
    · rw [if_pos c2]
      have ec : cool1 v = upd (upd (upd (upd v 1 (v 1)) 5 (v 5)) 7 (v 7)) 9 (v 9) := by
        unfold cool1 f_X0_coolDown
        simp only [if_pos c1, if_pos c2]
      rw [ec]
      unfold s_X7_passes_114_2
      refine ⟨?_, Fr_upd (hF) (by omega)⟩
      apply At46 <;> simp [upd, Nat.add_assoc, nI0, ek5, Int32.sub_zero, hA.pb, hA.p1, hA.p2, hA.p3, hA.p4, hA.p5, hA.p6, hA.p7, hA.p8, hA.p9, hA.p10, hA.p11, hA.p12, hA.p13, hA.p14, hA.p15, hA.p16, hA.p17, hA.p18, hA.p19, hA.p20, hA.p21, hA.p22, hA.p23, hA.p24, hA.p25, hA.p26, hA.p27, hA.p28, hA.p29, hA.p30, hA.p31, hA.p32, hA.p33, hA.p34, hA.p35, hA.p36, hA.p37, hA.p38, hA.p39, hA.p40, hA.p41, hA.p42, hA.p43, hA.p44, hA.p45]
    · rw [if_neg c2]
      have ec : cool1 v = upd (upd (upd (upd v 1 (nI 0)) 5 (nI 30)) 7 (nI 10)) 9 ((v 9) + (nI 1)) := by
        unfold cool1 f_X0_coolDown
        simp only [if_pos c1, if_neg c2]
      rw [ec]
      unfold s_X7_passes_114_2
      refine ⟨?_, Fr_upd (Fr_upd (Fr_upd (Fr_upd (Fr_upd (hF) (by omega)) (by omega)) (by omega)) (by omega)) (by omega)⟩
      apply At46 <;> simp [upd, Nat.add_assoc, nI0, ek5, Int32.sub_zero, hA.pb, hA.p1, hA.p2, hA.p3, hA.p4, hA.p5, hA.p6, hA.p7, hA.p8, hA.p9, hA.p10, hA.p11, hA.p12, hA.p13, hA.p14, hA.p15, hA.p16, hA.p17, hA.p18, hA.p19, hA.p20, hA.p21, hA.p22, hA.p23, hA.p24, hA.p25, hA.p26, hA.p27, hA.p28, hA.p29, hA.p30, hA.p31, hA.p32, hA.p33, hA.p34, hA.p35, hA.p36, hA.p37, hA.p38, hA.p39, hA.p40, hA.p41, hA.p42, hA.p43, hA.p44, hA.p45]
  · rw [if_neg c1]
    by_cases c2 : v 5 - nI 1 ≤ nI 70
    · rw [if_pos c2]
      have ec : cool1 v = upd (upd (upd (upd v 1 (v 1)) 5 ((v 5) - (nI 1))) 7 (v 7)) 9 (v 9) := by
        unfold cool1 f_X0_coolDown
        simp only [if_neg c1, if_pos c2]
      rw [ec]
      unfold s_X7_passes_114_2
      refine ⟨?_, Fr_upd (hF) (by omega)⟩
      apply At46 <;> simp [upd, Nat.add_assoc, nI0, ek5, Int32.sub_zero, hA.pb, hA.p1, hA.p2, hA.p3, hA.p4, hA.p5, hA.p6, hA.p7, hA.p8, hA.p9, hA.p10, hA.p11, hA.p12, hA.p13, hA.p14, hA.p15, hA.p16, hA.p17, hA.p18, hA.p19, hA.p20, hA.p21, hA.p22, hA.p23, hA.p24, hA.p25, hA.p26, hA.p27, hA.p28, hA.p29, hA.p30, hA.p31, hA.p32, hA.p33, hA.p34, hA.p35, hA.p36, hA.p37, hA.p38, hA.p39, hA.p40, hA.p41, hA.p42, hA.p43, hA.p44, hA.p45]
    · rw [if_neg c2]
      have ec : cool1 v = upd (upd (upd (upd v 1 (nI 0)) 5 (nI 30)) 7 (nI 10)) 9 ((v 9) + (nI 1)) := by
        unfold cool1 f_X0_coolDown
        simp only [if_neg c1, if_neg c2]
      rw [ec]
      unfold s_X7_passes_114_2
      refine ⟨?_, Fr_upd (Fr_upd (Fr_upd (Fr_upd (Fr_upd (hF) (by omega)) (by omega)) (by omega)) (by omega)) (by omega)⟩
      apply At46 <;> simp [upd, Nat.add_assoc, nI0, ek5, Int32.sub_zero, hA.pb, hA.p1, hA.p2, hA.p3, hA.p4, hA.p5, hA.p6, hA.p7, hA.p8, hA.p9, hA.p10, hA.p11, hA.p12, hA.p13, hA.p14, hA.p15, hA.p16, hA.p17, hA.p18, hA.p19, hA.p20, hA.p21, hA.p22, hA.p23, hA.p24, hA.p25, hA.p26, hA.p27, hA.p28, hA.p29, hA.p30, hA.p31, hA.p32, hA.p33, hA.p34, hA.p35, hA.p36, hA.p37, hA.p38, hA.p39, hA.p40, hA.p41, hA.p42, hA.p43, hA.p44, hA.p45]

set_option maxHeartbeats 4000000 in
theorem coolm0 {M0 M : Nat → Int32} {b : Nat} {v q : Nat → Int32} (h : AtF M0 M b v q) : AtF M0 (s_X7_passes_114_0 b M) b (cool1 (cool0 v)) q := by
  obtain ⟨hA, hF⟩ := h
  have e4 : M (b + 4 + 0) = v 4 := hA.p4
  unfold s_X7_passes_114_0
  simp only [pk_us]
  rw [e4]
  by_cases c1 : v 4 ≤ 0
  · rw [if_pos c1, nI0, Int32.sub_zero, ← nI0]
    by_cases c2 : v 4 ≤ nI 70
    · rw [if_pos c2]
      have ec : cool0 v = upd (upd (upd (upd v 0 (v 0)) 4 (v 4)) 6 (v 6)) 8 (v 8) := by
        unfold cool0 f_X0_coolDown
        simp only [if_pos c1, if_pos c2]
      rw [ec]
      apply coolm1
      refine ⟨?_, Fr_upd (hF) (by omega)⟩
      apply At46 <;> simp [upd, Nat.add_assoc, nI0, ek5, Int32.sub_zero, hA.pb, hA.p1, hA.p2, hA.p3, hA.p4, hA.p5, hA.p6, hA.p7, hA.p8, hA.p9, hA.p10, hA.p11, hA.p12, hA.p13, hA.p14, hA.p15, hA.p16, hA.p17, hA.p18, hA.p19, hA.p20, hA.p21, hA.p22, hA.p23, hA.p24, hA.p25, hA.p26, hA.p27, hA.p28, hA.p29, hA.p30, hA.p31, hA.p32, hA.p33, hA.p34, hA.p35, hA.p36, hA.p37, hA.p38, hA.p39, hA.p40, hA.p41, hA.p42, hA.p43, hA.p44, hA.p45]
    · rw [if_neg c2]
      have ec : cool0 v = upd (upd (upd (upd v 0 (nI 0)) 4 (nI 30)) 6 (nI 10)) 8 ((v 8) + (nI 1)) := by
        unfold cool0 f_X0_coolDown
        simp only [if_pos c1, if_neg c2]
      rw [ec]
      apply coolm1
      refine ⟨?_, Fr_upd (Fr_upd (Fr_upd (Fr_upd (Fr_upd (hF) (by omega)) (by omega)) (by omega)) (by omega)) (by omega)⟩
      apply At46 <;> simp [upd, Nat.add_assoc, nI0, ek5, Int32.sub_zero, hA.pb, hA.p1, hA.p2, hA.p3, hA.p4, hA.p5, hA.p6, hA.p7, hA.p8, hA.p9, hA.p10, hA.p11, hA.p12, hA.p13, hA.p14, hA.p15, hA.p16, hA.p17, hA.p18, hA.p19, hA.p20, hA.p21, hA.p22, hA.p23, hA.p24, hA.p25, hA.p26, hA.p27, hA.p28, hA.p29, hA.p30, hA.p31, hA.p32, hA.p33, hA.p34, hA.p35, hA.p36, hA.p37, hA.p38, hA.p39, hA.p40, hA.p41, hA.p42, hA.p43, hA.p44, hA.p45]
  · rw [if_neg c1]
    by_cases c2 : v 4 - nI 1 ≤ nI 70
    · rw [if_pos c2]
      have ec : cool0 v = upd (upd (upd (upd v 0 (v 0)) 4 ((v 4) - (nI 1))) 6 (v 6)) 8 (v 8) := by
        unfold cool0 f_X0_coolDown
        simp only [if_neg c1, if_pos c2]
      rw [ec]
      apply coolm1
      refine ⟨?_, Fr_upd (hF) (by omega)⟩
      apply At46 <;> simp [upd, Nat.add_assoc, nI0, ek5, Int32.sub_zero, hA.pb, hA.p1, hA.p2, hA.p3, hA.p4, hA.p5, hA.p6, hA.p7, hA.p8, hA.p9, hA.p10, hA.p11, hA.p12, hA.p13, hA.p14, hA.p15, hA.p16, hA.p17, hA.p18, hA.p19, hA.p20, hA.p21, hA.p22, hA.p23, hA.p24, hA.p25, hA.p26, hA.p27, hA.p28, hA.p29, hA.p30, hA.p31, hA.p32, hA.p33, hA.p34, hA.p35, hA.p36, hA.p37, hA.p38, hA.p39, hA.p40, hA.p41, hA.p42, hA.p43, hA.p44, hA.p45]
    · rw [if_neg c2]
      have ec : cool0 v = upd (upd (upd (upd v 0 (nI 0)) 4 (nI 30)) 6 (nI 10)) 8 ((v 8) + (nI 1)) := by
        unfold cool0 f_X0_coolDown
        simp only [if_neg c1, if_neg c2]
      rw [ec]
      apply coolm1
      refine ⟨?_, Fr_upd (Fr_upd (Fr_upd (Fr_upd (Fr_upd (hF) (by omega)) (by omega)) (by omega)) (by omega)) (by omega)⟩
      apply At46 <;> simp [upd, Nat.add_assoc, nI0, ek5, Int32.sub_zero, hA.pb, hA.p1, hA.p2, hA.p3, hA.p4, hA.p5, hA.p6, hA.p7, hA.p8, hA.p9, hA.p10, hA.p11, hA.p12, hA.p13, hA.p14, hA.p15, hA.p16, hA.p17, hA.p18, hA.p19, hA.p20, hA.p21, hA.p22, hA.p23, hA.p24, hA.p25, hA.p26, hA.p27, hA.p28, hA.p29, hA.p30, hA.p31, hA.p32, hA.p33, hA.p34, hA.p35, hA.p36, hA.p37, hA.p38, hA.p39, hA.p40, hA.p41, hA.p42, hA.p43, hA.p44, hA.p45]
