/-! why a load is not started: how long the model looks -/
def LoopOK (M : Nat → Int32) : Prop := ∃ v q, At M 322 v q ∧ InvW v
def muW (M : Nat → Int32) (z : Int32) (i : Nat) : Nat := if M 367 = z ∧ 0 ≤ M (335 + i) then (M (339 + i)).toNatClampNeg else 0
theorem LoopOK.step {M : Nat → Int32} (h : LoopOK M) : LoopOK (f_X7_passes M 322) := by
  obtain ⟨v, q, hA, hv⟩ := h
  exact ⟨_, q, (passes_at (M0 := M) ⟨hA, Fr_rf⟩ hv.1).1, hv.tick⟩
theorem mu_one {M : Nat → Int32} {z : Int32} {i : Nat} {v : Nat → Int32} {k l w : Nat} (e1 : M (335 + i) = ek (v k)) (e2 : M (339 + i) = v l) (hm : ML v k l w) : muW M z i ≤ 9 ∧ (M 367 = z → 0 ≤ M (335 + i) → ∃ n, 1 ≤ n ∧ n ≤ 9 ∧ v l = nI n ∧ muW M z i = n ∧ ¬ v k = -5) := by
  unfold muW
  by_cases c : M 367 = z ∧ 0 ≤ M (335 + i)
  · rw [if_pos c]
    have hk : ¬ v k = -5 := (ek_ge hm.kd).mp (by rw [← e1]; exact c.2)
    rcases hm with ⟨h1, -⟩ | ⟨h1, ⟨n, n1, n9, hn⟩, -⟩
    · exact absurd h1 hk
    · have e3 : (M (339 + i)).toNatClampNeg = n := by rw [e2, hn]; exact nI_clamp (by omega)
      rw [e3]
      exact ⟨n9, fun _ _ => ⟨n, n1, n9, hn, rfl, hk⟩⟩
  · rw [if_neg c]
    exact ⟨Nat.zero_le _, fun h1 h2 => absurd ⟨h1, h2⟩ c⟩
theorem add1_ne (x : Int32) : ¬ x + nI 1 = x := by
  intro h
  have h2 : x + nI 1 - x = x - x := by rw [h]
  rw [Int32.sub_self, Int32.add_comm, Int32.add_sub_cancel] at h2
  exact absurd h2 (by decide)
theorem mu_dec {M M' : Nat → Int32} {z : Int32} {i : Nat} {v v' : Nat → Int32} {r : Int32} {k l w : Nat} (e1 : M (335 + i) = ek (v k)) (e2 : M (339 + i) = v l) (e3 : M 367 = v 45) (f1 : M' (335 + i) = ek (v' k)) (f2 : M' (339 + i) = v' l) (f3 : M' 367 = v' 45) (hm : ML v k l w) (hw : (r = nI 0 ∧ v' 45 = v 45) ∨ (r = nI 1 ∧ v' 45 = v 45 + nI 1)) (ht : r = nI 0 → v' k = (if v k = -5 then -5 else if v l - nI 1 = 0 then -5 else v k) ∧ v' l = (if v k = -5 then v l else if v l - nI 1 = 0 then nI 0 else v l - nI 1)) (h1 : M 367 = z) (h2 : 0 ≤ M (335 + i)) : muW M' z i < muW M z i := by
  obtain ⟨n, n1, n9, hn, hmu, hk⟩ := (mu_one (z := z) e1 e2 hm).2 h1 h2
  rw [hmu]
  unfold muW
  rcases hw with ⟨hr, -⟩ | ⟨-, hw⟩
  · obtain ⟨a1, a2⟩ := ht hr
    rw [if_neg hk] at a1 a2
    by_cases c2 : v l - nI 1 = 0
    · rw [if_pos c2] at a1
      rw [if_neg (by rw [f1, a1]; exact fun hh => absurd hh.2 (by decide))]
      omega
    · rw [if_neg c2] at a1 a2
      by_cases c3 : M' 367 = z ∧ 0 ≤ M' (335 + i)
      · rw [if_pos c3, f2, a2, hn, pk_sub n1, nI_clamp (by omega)]
        omega
      · rw [if_neg c3]
        omega
  · rw [if_neg (by rw [f3, hw, ← e3, h1]; exact fun hh => add1_ne z hh.1)]
    omega
theorem LoopOK.mu {M : Nat → Int32} (h : LoopOK M) (z : Int32) {i : Nat} (hi : i < 4) : muW M z i ≤ 9 := by
  obtain ⟨v, q, hA, -, hv⟩ := h
  have h4 : i = 0 ∨ i = 1 ∨ i = 2 ∨ i = 3 := by omega
  rcases h4 with rfl | rfl | rfl | rfl
  · exact (mu_one (show M (322 + 13) = _ from hA.p13) (show M (322 + 17) = _ from hA.p17) hv.1).1
  · exact (mu_one (show M (322 + 14) = _ from hA.p14) (show M (322 + 18) = _ from hA.p18) hv.2.1).1
  · exact (mu_one (show M (322 + 15) = _ from hA.p15) (show M (322 + 19) = _ from hA.p19) hv.2.2.1).1
  · exact (mu_one (show M (322 + 16) = _ from hA.p16) (show M (322 + 20) = _ from hA.p20) hv.2.2.2).1

theorem LoopOK.dec {M : Nat → Int32} (h : LoopOK M) {z : Int32} {i : Nat} (hi : i < 4) (h2 : 0 ≤ M (335 + i)) (h1 : M 367 = z) : muW (f_X7_passes M 322) z i < muW M z i := by
  obtain ⟨v, q, hA, hv⟩ := h
  have hB := (passes_at (M0 := M) ⟨hA, Fr_rf⟩ hv.1).1
  have h4 : i = 0 ∨ i = 1 ∨ i = 2 ∨ i = 3 := by omega
  rcases h4 with rfl | rfl | rfl | rfl
  · exact mu_dec (show M (322 + 13) = _ from hA.p13) (show M (322 + 17) = _ from hA.p17) (show M (322 + 45) = _ from hA.p45) (show f_X7_passes M 322 (322 + 13) = _ from hB.p13) (show f_X7_passes M 322 (322 + 17) = _ from hB.p17) (show f_X7_passes M 322 (322 + 45) = _ from hB.p45) hv.2.1 tick_wait tick_m0 h1 h2
  · exact mu_dec (show M (322 + 14) = _ from hA.p14) (show M (322 + 18) = _ from hA.p18) (show M (322 + 45) = _ from hA.p45) (show f_X7_passes M 322 (322 + 14) = _ from hB.p14) (show f_X7_passes M 322 (322 + 18) = _ from hB.p18) (show f_X7_passes M 322 (322 + 45) = _ from hB.p45) hv.2.2.1 tick_wait tick_m1 h1 h2
  · exact mu_dec (show M (322 + 15) = _ from hA.p15) (show M (322 + 19) = _ from hA.p19) (show M (322 + 45) = _ from hA.p45) (show f_X7_passes M 322 (322 + 15) = _ from hB.p15) (show f_X7_passes M 322 (322 + 19) = _ from hB.p19) (show f_X7_passes M 322 (322 + 45) = _ from hB.p45) hv.2.2.2.1 tick_wait tick_m2 h1 h2
  · exact mu_dec (show M (322 + 16) = _ from hA.p16) (show M (322 + 20) = _ from hA.p20) (show M (322 + 45) = _ from hA.p45) (show f_X7_passes M 322 (322 + 16) = _ from hB.p16) (show f_X7_passes M 322 (322 + 20) = _ from hB.p20) (show f_X7_passes M 322 (322 + 45) = _ from hB.p45) hv.2.2.2.2 tick_wait tick_m3 h1 h2

/-- the slot that is looked at, with the load put in -/
def putM (v : Nat → Int32) (i : Nat) (k : Int32) : Nat → Int32 := upd (upd (upd (upd v (13 + i) k) (17 + i) (f_X6_ticksOf k)) (21 + i) (nI 0)) 40 (v 40 + nI 1)
theorem cpy_at {M : Nat → Int32} {x y : Nat} {v q : Nat → Int32} (h : At M (46 * x) v q) : At (cpyM M x y 46) (46 * y) v q := by
  intro j hj
  unfold cpyM
  rw [if_pos (by omega), ← h j hj]
  congr 1
  omega
theorem cpy_fr {M : Nat → Int32} {x y j : Nat} (h : j < 46 * y ∨ 46 * y + 46 ≤ j) : cpyM M x y 46 j = M j := by
  unfold cpyM
  rw [if_neg (by omega)]
theorem ek_k {k : Int32} (h : k = 0 ∨ k = 1 ∨ k = 2) : ek k = k := by
  rcases h with rfl | rfl | rfl <;> decide
theorem tk_k {k : Int32} (h : k = 0 ∨ k = 1 ∨ k = 2) : f_X7_ticksOf k = f_X6_ticksOf k := by
  rcases h with rfl | rfl | rfl <;> decide

set_option maxHeartbeats 4000000 in
theorem puts_at {M0 M : Nat → Int32} {b : Nat} {v q : Nat → Int32} {i : Nat} {k : Int32} (h : AtF M0 M b v q) (hi : i < 4) (hk : k = 0 ∨ k = 1 ∨ k = 2) : AtF M0 (f_X7_puts M b i k) b (putM v i k) q := by
  obtain ⟨hA, hF⟩ := h
  have h4 : i = 0 ∨ i = 1 ∨ i = 2 ∨ i = 3 := by omega
  unfold f_X7_puts putM
  rcases h4 with rfl | rfl | rfl | rfl
  · refine ⟨?_, Fr_upd (Fr_upd (Fr_upd (Fr_upd hF (by omega)) (by omega)) (by omega)) (by omega)⟩
    apply At46 <;> simp [upd, Nat.add_assoc, nI0, ek_k hk, tk_k hk, hA.pb, hA.p1, hA.p2, hA.p3, hA.p4, hA.p5, hA.p6, hA.p7, hA.p8, hA.p9, hA.p10, hA.p11, hA.p12, hA.p13, hA.p14, hA.p15, hA.p16, hA.p17, hA.p18, hA.p19, hA.p20, hA.p21, hA.p22, hA.p23, hA.p24, hA.p25, hA.p26, hA.p27, hA.p28, hA.p29, hA.p30, hA.p31, hA.p32, hA.p33, hA.p34, hA.p35, hA.p36, hA.p37, hA.p38, hA.p39, hA.p40, hA.p41, hA.p42, hA.p43, hA.p44, hA.p45]
  · refine ⟨?_, Fr_upd (Fr_upd (Fr_upd (Fr_upd hF (by omega)) (by omega)) (by omega)) (by omega)⟩
    apply At46 <;> simp [upd, Nat.add_assoc, nI0, ek_k hk, tk_k hk, hA.pb, hA.p1, hA.p2, hA.p3, hA.p4, hA.p5, hA.p6, hA.p7, hA.p8, hA.p9, hA.p10, hA.p11, hA.p12, hA.p13, hA.p14, hA.p15, hA.p16, hA.p17, hA.p18, hA.p19, hA.p20, hA.p21, hA.p22, hA.p23, hA.p24, hA.p25, hA.p26, hA.p27, hA.p28, hA.p29, hA.p30, hA.p31, hA.p32, hA.p33, hA.p34, hA.p35, hA.p36, hA.p37, hA.p38, hA.p39, hA.p40, hA.p41, hA.p42, hA.p43, hA.p44, hA.p45]
  · refine ⟨?_, Fr_upd (Fr_upd (Fr_upd (Fr_upd hF (by omega)) (by omega)) (by omega)) (by omega)⟩
    apply At46 <;> simp [upd, Nat.add_assoc, nI0, ek_k hk, tk_k hk, hA.pb, hA.p1, hA.p2, hA.p3, hA.p4, hA.p5, hA.p6, hA.p7, hA.p8, hA.p9, hA.p10, hA.p11, hA.p12, hA.p13, hA.p14, hA.p15, hA.p16, hA.p17, hA.p18, hA.p19, hA.p20, hA.p21, hA.p22, hA.p23, hA.p24, hA.p25, hA.p26, hA.p27, hA.p28, hA.p29, hA.p30, hA.p31, hA.p32, hA.p33, hA.p34, hA.p35, hA.p36, hA.p37, hA.p38, hA.p39, hA.p40, hA.p41, hA.p42, hA.p43, hA.p44, hA.p45]
  · refine ⟨?_, Fr_upd (Fr_upd (Fr_upd (Fr_upd hF (by omega)) (by omega)) (by omega)) (by omega)⟩
    apply At46 <;> simp [upd, Nat.add_assoc, nI0, ek_k hk, tk_k hk, hA.pb, hA.p1, hA.p2, hA.p3, hA.p4, hA.p5, hA.p6, hA.p7, hA.p8, hA.p9, hA.p10, hA.p11, hA.p12, hA.p13, hA.p14, hA.p15, hA.p16, hA.p17, hA.p18, hA.p19, hA.p20, hA.p21, hA.p22, hA.p23, hA.p24, hA.p25, hA.p26, hA.p27, hA.p28, hA.p29, hA.p30, hA.p31, hA.p32, hA.p33, hA.p34, hA.p35, hA.p36, hA.p37, hA.p38, hA.p39, hA.p40, hA.p41, hA.p42, hA.p43, hA.p44, hA.p45]

theorem ticks_n {k : Int32} (h : k = 0 ∨ k = 1 ∨ k = 2) : ∃ n, 1 ≤ n ∧ n ≤ 9 ∧ f_X6_ticksOf k = nI n := by
  rcases h with rfl | rfl | rfl
  · exact ⟨4, by omega, by omega, by decide⟩
  · exact ⟨6, by omega, by omega, by decide⟩
  · exact ⟨9, by omega, by omega, by decide⟩
theorem InvW.put {v : Nat → Int32} {i : Nat} {k : Int32} (h : InvW v) (hi : i < 4) (hk : k = 0 ∨ k = 1 ∨ k = 2) : InvW (putM v i k) := by
  obtain ⟨n, n1, n9, hn⟩ := ticks_n hk
  have hM : InvM (putM v i k) := by
    have h4 : i = 0 ∨ i = 1 ∨ i = 2 ∨ i = 3 := by omega
    rcases h4 with rfl | rfl | rfl | rfl
    · exact ⟨Or.inr ⟨hk, ⟨n, n1, n9, hn⟩, ⟨0, by omega, rfl⟩⟩, h.2.2.1.of rfl rfl rfl, h.2.2.2.1.of rfl rfl rfl, h.2.2.2.2.of rfl rfl rfl⟩
    · exact ⟨h.2.1.of rfl rfl rfl, Or.inr ⟨hk, ⟨n, n1, n9, hn⟩, ⟨0, by omega, rfl⟩⟩, h.2.2.2.1.of rfl rfl rfl, h.2.2.2.2.of rfl rfl rfl⟩
    · exact ⟨h.2.1.of rfl rfl rfl, h.2.2.1.of rfl rfl rfl, Or.inr ⟨hk, ⟨n, n1, n9, hn⟩, ⟨0, by omega, rfl⟩⟩, h.2.2.2.2.of rfl rfl rfl⟩
    · exact ⟨h.2.1.of rfl rfl rfl, h.2.2.1.of rfl rfl rfl, h.2.2.2.1.of rfl rfl rfl, Or.inr ⟨hk, ⟨n, n1, n9, hn⟩, ⟨0, by omega, rfl⟩⟩⟩
  refine ⟨h.1.of hM.ks ?_ ?_ ?_ ?_ ?_ ?_, hM⟩ <;> (unfold putM; rw [pk_un (by omega), pk_un (by omega), pk_un (by omega), pk_un (by omega)])
theorem LoopOK.start {M : Nat → Int32} {x i : Nat} {k : Int32} {v q : Nat → Int32} (h : At M (46 * x) v q) (hv : InvW v) (hi : i < 4) (hk : k = 0 ∨ k = 1 ∨ k = 2) : LoopOK (f_X7_puts (cpyM M x 7 46) 322 i k) :=
  ⟨_, q, (puts_at (M0 := cpyM M x 7 46) ⟨cpy_at (y := 7) h, Fr_rf⟩ hi hk).1, hv.put hi hk⟩
