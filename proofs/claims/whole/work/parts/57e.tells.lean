/-! what is told: the class beside the model -/
theorem out_of {p0 : Int32} {n : Nat} (c : f_X7_in p0 (nI 0) (nI n) = 0) (hn : n < 2 ^ 31) : ∀ i, i < n + 1 → ¬ p0 = nI i := fun i hi z => in_of (i := i) (n := n) (by omega) hn (by rw [← z]; exact c)
theorem eq_boiler {hs sn se tl : Int32} {nv nq zv zq g M : Nat → Int32} {hn : Nat} {vs qs : Nat → Nat → Int32} {p0 p1 : Int32} (hR : Rl hs sn se nv nq zv zq hn vs qs tl g M) : f_X6_boiler nv p0 p1 = f_X7_boiler M p0 p1 := by
  have hA := hR.at
  unfold f_X6_boiler f_X7_boiler
  rcases two_cases p0 with rfl | rfl | ⟨c, n0, n1⟩
  · rw [if_pos rfl, if_neg (show ¬ f_X7_in (nI 0) (nI 0) (nI 1) = 0 by decide)]
    by_cases c1 : f_X7_in p1 (nI 0) (nI 4) = 0
    · have hne := out_of c1 (by decide)
      rw [if_pos c1, if_neg (hne 0 (by omega)), if_neg (hne 1 (by omega)), if_neg (hne 2 (by omega)), if_neg (hne 3 (by omega)), if_neg (hne 4 (by omega))]
    · rw [if_neg c1]
      obtain ⟨i, hi, rfl⟩ := in_nat c1 (by decide)
      rw [nI_clamp (by omega)]
      have h5 : i = 0 ∨ i = 1 ∨ i = 2 ∨ i = 3 ∨ i = 4 := by omega
      rcases h5 with rfl | rfl | rfl | rfl | rfl
      · rw [if_pos rfl]
        exact (hA.plain (j := 0) (by omega) rfl).symm
      · rw [if_neg (show ¬ nI 1 = nI 0 by decide), if_pos rfl]
        exact (hA.plain (j := 2) (by omega) rfl).symm
      · rw [if_neg (show ¬ nI 2 = nI 0 by decide), if_neg (show ¬ nI 2 = nI 1 by decide), if_pos rfl]
        exact (hA.plain (j := 4) (by omega) rfl).symm
      · rw [if_neg (show ¬ nI 3 = nI 0 by decide), if_neg (show ¬ nI 3 = nI 1 by decide), if_neg (show ¬ nI 3 = nI 2 by decide), if_pos rfl]
        exact (hA.plain (j := 6) (by omega) rfl).symm
      · rw [if_neg (show ¬ nI 4 = nI 0 by decide), if_neg (show ¬ nI 4 = nI 1 by decide), if_neg (show ¬ nI 4 = nI 2 by decide), if_neg (show ¬ nI 4 = nI 3 by decide), if_pos rfl]
        exact (hA.plain (j := 8) (by omega) rfl).symm
  · rw [if_neg (show ¬ nI 1 = nI 0 by decide), if_pos rfl, if_neg (show ¬ f_X7_in (nI 1) (nI 0) (nI 1) = 0 by decide)]
    by_cases c1 : f_X7_in p1 (nI 0) (nI 4) = 0
    · have hne := out_of c1 (by decide)
      rw [if_pos c1, if_neg (hne 0 (by omega)), if_neg (hne 1 (by omega)), if_neg (hne 2 (by omega)), if_neg (hne 3 (by omega)), if_neg (hne 4 (by omega))]
    · rw [if_neg c1]
      obtain ⟨i, hi, rfl⟩ := in_nat c1 (by decide)
      rw [nI_clamp (by omega)]
      have h5 : i = 0 ∨ i = 1 ∨ i = 2 ∨ i = 3 ∨ i = 4 := by omega
      rcases h5 with rfl | rfl | rfl | rfl | rfl
      · rw [if_pos rfl]
        exact (hA.plain (j := 1) (by omega) rfl).symm
      · rw [if_neg (show ¬ nI 1 = nI 0 by decide), if_pos rfl]
        exact (hA.plain (j := 3) (by omega) rfl).symm
      · rw [if_neg (show ¬ nI 2 = nI 0 by decide), if_neg (show ¬ nI 2 = nI 1 by decide), if_pos rfl]
        exact (hA.plain (j := 5) (by omega) rfl).symm
      · rw [if_neg (show ¬ nI 3 = nI 0 by decide), if_neg (show ¬ nI 3 = nI 1 by decide), if_neg (show ¬ nI 3 = nI 2 by decide), if_pos rfl]
        exact (hA.plain (j := 7) (by omega) rfl).symm
      · rw [if_neg (show ¬ nI 4 = nI 0 by decide), if_neg (show ¬ nI 4 = nI 1 by decide), if_neg (show ¬ nI 4 = nI 2 by decide), if_neg (show ¬ nI 4 = nI 3 by decide), if_pos rfl]
        exact (hA.plain (j := 9) (by omega) rfl).symm
  · rw [if_neg n0, if_neg n1, if_pos c]
theorem told_k {x : Int32} (h : Kd x) : (if 0 ≤ ek x then ek x else -5) = x := by
  rcases h with rfl | rfl | rfl | rfl <;> decide
theorem wait_nn {v : Nat → Int32} (h : InvM v) {i : Nat} (hi : i < 4) : ¬ v (21 + i) < 0 := by
  rcases h.mi hi with ⟨-, -, e⟩ | ⟨-, -, ⟨n, h2, e⟩⟩
  · rw [e]; decide
  · rw [e]; exact nI_pos (by omega)
theorem eq_machine {hs sn se tl : Int32} {nv nq zv zq g M : Nat → Int32} {hn : Nat} {vs qs : Nat → Nat → Int32} {p0 p1 : Int32} (hR : Rl hs sn se nv nq zv zq hn vs qs tl g M) : f_X6_machine nv p0 p1 = f_X7_machine M p0 p1 := by
  have hA := hR.at
  have hM := hR.is.1.1.2
  unfold f_X6_machine f_X7_machine
  by_cases c0 : f_X7_in p0 (nI 0) (nI 3) = 0
  · have hne := out_of c0 (by decide)
    rw [if_pos c0, if_neg (hne 0 (by omega)), if_neg (hne 1 (by omega)), if_neg (hne 2 (by omega)), if_neg (hne 3 (by omega))]
  · rw [if_neg c0]
    obtain ⟨b, hb, rfl⟩ := in_nat c0 (by decide)
    rw [nI_clamp (by omega)]
    have hb4 : b < 4 := by omega
    have ek0 : M (13 + 4 * 0 + b) = ek (nv (13 + b)) := hA.kind hb4 (by omega)
    have e1 : M (13 + 4 * 1 + b) = nv (17 + b) := hA.plain (j := 17 + b) (by omega) (by omega)
    have e2 : M (13 + 4 * 2 + b) = nv (21 + b) := hA.plain (j := 21 + b) (by omega) (by omega)
    have hk := told_k (hM.mi hb4).kd
    have h1 := Int32.not_lt.mp (left_nn hM hb4)
    have h2 := Int32.not_lt.mp (wait_nn hM hb4)
    by_cases c1 : f_X7_in p1 (nI 0) (nI 2) = 0
    · have hne := out_of c1 (by decide)
      rw [if_pos c1]
      rcases at4 hb4 with rfl | rfl | rfl | rfl
      · rw [if_pos rfl, if_neg (hne 0 (by omega)), if_neg (hne 1 (by omega)), if_neg (hne 2 (by omega))]
      · rw [if_neg (show ¬ nI 1 = nI 0 by decide), if_pos rfl, if_neg (hne 0 (by omega)), if_neg (hne 1 (by omega)), if_neg (hne 2 (by omega))]
      · rw [if_neg (show ¬ nI 2 = nI 0 by decide), if_neg (show ¬ nI 2 = nI 1 by decide), if_pos rfl, if_neg (hne 0 (by omega)), if_neg (hne 1 (by omega)), if_neg (hne 2 (by omega))]
      · rw [if_neg (show ¬ nI 3 = nI 0 by decide), if_neg (show ¬ nI 3 = nI 1 by decide), if_neg (show ¬ nI 3 = nI 2 by decide), if_pos rfl, if_neg (hne 0 (by omega)), if_neg (hne 1 (by omega)), if_neg (hne 2 (by omega))]
    · rw [if_neg c1]
      obtain ⟨i, hi, rfl⟩ := in_nat c1 (by decide)
      rw [nI_clamp (by omega)]
      have h3 : i = 0 ∨ i = 1 ∨ i = 2 := by omega
      rcases h3 with rfl | rfl | rfl
      · rw [ek0, hk]
        rcases at4 hb4 with rfl | rfl | rfl | rfl
        · rw [if_pos rfl, if_pos rfl]
          try rfl
        · rw [if_neg (show ¬ nI 1 = nI 0 by decide), if_pos rfl, if_pos rfl]
          try rfl
        · rw [if_neg (show ¬ nI 2 = nI 0 by decide), if_neg (show ¬ nI 2 = nI 1 by decide), if_pos rfl, if_pos rfl]
          try rfl
        · rw [if_neg (show ¬ nI 3 = nI 0 by decide), if_neg (show ¬ nI 3 = nI 1 by decide), if_neg (show ¬ nI 3 = nI 2 by decide), if_pos rfl, if_pos rfl]
          try rfl
      · rw [e1, if_pos h1]
        rcases at4 hb4 with rfl | rfl | rfl | rfl
        · rw [if_pos rfl, if_neg (show ¬ nI 1 = nI 0 by decide), if_pos rfl]
          try rfl
        · rw [if_neg (show ¬ nI 1 = nI 0 by decide), if_pos rfl, if_neg (show ¬ nI 1 = nI 0 by decide), if_pos rfl]
          try rfl
        · rw [if_neg (show ¬ nI 2 = nI 0 by decide), if_neg (show ¬ nI 2 = nI 1 by decide), if_pos rfl, if_neg (show ¬ nI 1 = nI 0 by decide), if_pos rfl]
          try rfl
        · rw [if_neg (show ¬ nI 3 = nI 0 by decide), if_neg (show ¬ nI 3 = nI 1 by decide), if_neg (show ¬ nI 3 = nI 2 by decide), if_pos rfl, if_neg (show ¬ nI 1 = nI 0 by decide), if_pos rfl]
          try rfl
      · rw [e2, if_pos h2]
        rcases at4 hb4 with rfl | rfl | rfl | rfl
        · rw [if_pos rfl, if_neg (show ¬ nI 2 = nI 0 by decide), if_neg (show ¬ nI 2 = nI 1 by decide), if_pos rfl]
          try rfl
        · rw [if_neg (show ¬ nI 1 = nI 0 by decide), if_pos rfl, if_neg (show ¬ nI 2 = nI 0 by decide), if_neg (show ¬ nI 2 = nI 1 by decide), if_pos rfl]
          try rfl
        · rw [if_neg (show ¬ nI 2 = nI 0 by decide), if_neg (show ¬ nI 2 = nI 1 by decide), if_pos rfl, if_neg (show ¬ nI 2 = nI 0 by decide), if_neg (show ¬ nI 2 = nI 1 by decide), if_pos rfl]
          try rfl
        · rw [if_neg (show ¬ nI 3 = nI 0 by decide), if_neg (show ¬ nI 3 = nI 1 by decide), if_neg (show ¬ nI 3 = nI 2 by decide), if_pos rfl, if_neg (show ¬ nI 2 = nI 0 by decide), if_neg (show ¬ nI 2 = nI 1 by decide), if_pos rfl]
          try rfl
theorem eq_line {hs sn se tl : Int32} {nv nq zv zq g M : Nat → Int32} {hn : Nat} {vs qs : Nat → Nat → Int32} {p0 : Int32} (hR : Rl hs sn se nv nq zv zq hn vs qs tl g M) : f_X6_line nv nq p0 = f_X7_line M p0 := by
  obtain ⟨n, hn1, hn2, hn3⟩ := hR.is.1.2
  have e25 : M 25 = nI n := hR.at.p25.trans hn2
  unfold f_X6_line f_X7_line
  rw [e25, hn2]
  by_cases c : 0 ≤ p0
  · rw [if_pos c, if_pos c]
    have h0 : ¬ p0 < 0 := nneg c
    have e := natOf h0
    have hb := natBig p0
    generalize p0.toNatClampNeg = j at e hb
    subst e
    unfold f_X5_kindAt
    rw [if_neg h0, nI_clamp hb]
    by_cases c2 : nI n ≤ nI j
    · rw [if_pos c2, if_pos c2]
    · have hj : j < n := by
        rcases Nat.lt_or_ge j n with z | z
        · exact z
        · exact absurd ((nI_leI (by omega) hb).mpr z) c2
      rw [if_neg c2, if_neg c2, if_neg (fun z => by have := (nI_leI (by decide) hb).mp z; omega)]
      exact (hR.at.lineP (j := j) (by omega) (by omega)).symm
  · rw [if_neg c, if_neg c]
theorem eq_reason {hs sn se tl : Int32} {nv nq zv zq g M : Nat → Int32} {hn : Nat} {vs qs : Nat → Nat → Int32} {yv yq : Nat → Int32} {p0 : Int32} (hR : Rl hs sn se nv nq zv zq hn vs qs tl g M) : (f_X6_reason nv nq yv yq p0).1 = (f_X7_reason M p0).1 ∧ Rl hs sn se nv nq zv zq hn vs qs tl g (f_X7_reason M p0).2 := by
  unfold f_X6_reason f_X7_reason
  rw [in_eq p0]
  by_cases c : f_X6_isWithin p0 (nI 0) (nI 2) = 0
  · rw [if_pos c, if_pos c]
    exact ⟨rfl, hR⟩
  · rw [if_neg c, if_neg c]
    have hk := inK3 (x := p0) c
    have hlow : f_X7_lowestEmpty M 0 = lowI nv := low_at hR.at hR.is.1.1.2.ks
    rw [hlow]
    obtain ⟨g1, g2⟩ := why_at (x := 0) (by omega) hR.at hR.is.1.1 (lowI_lt nv) hk
    have h := rea_at (v := nv) (q := nq) (ov := yv) (oq := yq) hk
    exact ⟨h.trans g1.symm, hR.move (fun _ _ => rfl) (fun j hj => g2 j (by omega))⟩
theorem steam_s {x : Int32} (h : Kd x) : ∃ s, s ≤ 6 ∧ f_X6_steamOf x = nI s ∧ (s = 0 ↔ x = -5) := by
  rcases h with rfl | rfl | rfl | rfl
  · exact ⟨0, by omega, by decide, by decide⟩
  · exact ⟨2, by omega, by decide, by decide⟩
  · exact ⟨4, by omega, by decide, by decide⟩
  · exact ⟨6, by omega, by decide, by decide⟩
theorem need_0 {v : Nat → Int32} (hk : KS v) : f_X2_need v = 0 ↔ (v 13 = -5 ∧ v 14 = -5 ∧ v 15 = -5 ∧ v 16 = -5) := by
  obtain ⟨s0, a0, b0, c0⟩ := steam_s hk.1
  obtain ⟨s1, a1, b1, c1⟩ := steam_s hk.2.1
  obtain ⟨s2, a2, b2, c2⟩ := steam_s hk.2.2.1
  obtain ⟨s3, a3, b3, c3⟩ := steam_s hk.2.2.2
  rw [need_sum, b0, b1, b2, b3, nI_add, nI_add, nI_add, ← c0, ← c1, ← c2, ← c3]
  constructor
  · intro h
    have := (nI_eq (a := s0 + s1 + s2 + s3) (b := 0) (by omega) (by decide)).mp h
    omega
  · rintro ⟨h0, h1, h2, h3⟩
    rw [h0, h1, h2, h3]
    decide
def ld (x : Int32) : Nat := if x = -5 then 0 else 1
theorem ld_step {x : Int32} (y : Int32) (F : Int32 → Int32) : (if f_X3_isEmpty x = 0 then F (y + Int32.ofInt 1) else F y) = F (y + nI (ld x)) := by
  unfold ld
  by_cases c : x = -5
  · rw [if_neg (emp5 c), if_pos c, add0]
  · rw [if_pos (emp_ne.mpr c), if_neg c]
    rfl
theorem loads_sum (v : Nat → Int32) : f_X2_loadsInMachines v = nI (ld (v 13) + ld (v 14) + ld (v 15) + ld (v 16)) := by
  unfold f_X2_loadsInMachines s_X2_loadsInMachines_13_0
  rw [ld_step]
  unfold s_X2_loadsInMachines_13_1
  rw [ld_step]
  unfold s_X2_loadsInMachines_13_2
  rw [ld_step]
  unfold s_X2_loadsInMachines_13_3
  rw [ld_step]
  unfold s_X2_loadsInMachines_13_4
  rw [nI_add, nI_add, nI_add, nI_add, Nat.zero_add]
theorem ld_le (x : Int32) : ld x ≤ 1 := by
  unfold ld
  by_cases c : x = -5
  · rw [if_pos c]; omega
  · rw [if_neg c]; omega
theorem ld_0 {x : Int32} : ld x = 0 ↔ x = -5 := by
  unfold ld
  by_cases c : x = -5
  · rw [if_pos c]; exact ⟨fun _ => c, fun _ => rfl⟩
  · rw [if_neg c]; exact ⟨fun z => absurd z (by omega), fun z => absurd z c⟩
theorem loads_0 (v : Nat → Int32) : f_X2_loadsInMachines v = 0 ↔ (v 13 = -5 ∧ v 14 = -5 ∧ v 15 = -5 ∧ v 16 = -5) := by
  have a0 := ld_le (v 13)
  have a1 := ld_le (v 14)
  have a2 := ld_le (v 15)
  have a3 := ld_le (v 16)
  rw [loads_sum, ← ld_0, ← ld_0, ← ld_0, ← ld_0]
  constructor
  · intro h
    have := (nI_eq (a := ld (v 13) + ld (v 14) + ld (v 15) + ld (v 16)) (b := 0) (by omega) (by decide)).mp h
    omega
  · rintro ⟨h0, h1, h2, h3⟩
    rw [h0, h1, h2, h3]
    decide
theorem done_idle {M : Nat → Int32} {b : Nat} {v q : Nat → Int32} (h : At M b v q) (hk : KS v) : f_X7_isDone M b = f_X2_isIdle v := by
  unfold f_X7_isDone f_X2_isIdle
  rw [show M (b + 25) = v 25 from h.p25, need_eq h hk]
  by_cases c : v 25 = 0
  · rw [if_pos c, if_pos c]
    by_cases c2 : f_X2_need v = 0
    · rw [if_pos c2, if_pos ((loads_0 v).mpr ((need_0 hk).mp c2))]
    · rw [if_neg c2, if_neg (fun z => c2 ((need_0 hk).mpr ((loads_0 v).mp z)))]
  · rw [if_neg c, if_neg c]
theorem tick1M {M : Nat → Int32} : f_X7_ticks M 6 (nI 1) = stepM 6 M := by
  rw [ticks_eqN, show (nI 1).toNatClampNeg = 1 from rfl, stepN, stepN]
theorem done_loop {M0 : Nat → Int32} : ∀ (F F2 i : Nat) (M v q yv yq : Nat → Int32), i ≤ 400 → 402 - i ≤ F → 401 - i ≤ F2 → At M (46 * 6) v q → InvL v q → Fx M0 M 6 → (s_X6_doneIn_13 F v q yv yq i).1 = (s_X7_doneIn_9 F2 M i).1 ∧ Fx M0 (s_X7_doneIn_9 F2 M i).2 6
  | 0, _, i, _, _, _, _, _, hi, hF, _, _, _, _ => by omega
  | F + 1, 0, i, _, _, _, _, _, hi, _, hF2, _, _, _ => by omega
  | F + 1, F2 + 1, i, M, v, q, yv, yq, hi, hF, hF2, hA, hL, hFx => by
    rw [s_X6_doneIn_13, s_X7_doneIn_9, if_neg (fun z => by have := (nI_ltI (by decide) (by omega)).mp z; omega)]
    have e : f_X7_isDone M 276 = f_X2_isIdle v := done_idle (b := 276) hA hL.1.2.ks
    rw [e]
    by_cases c : f_X2_isIdle v = 0
    · rw [if_pos c, if_pos c]
      by_cases c4 : i = 400
      · subst c4
        rw [if_pos (Int32.le_refl _)]
        obtain ⟨F1, rfl⟩ : ∃ k, F = k + 1 := ⟨F - 1, by omega⟩
        generalize f_X2_passTick v q yv yq = P
        obtain ⟨p1, p2, p3, p4⟩ := P
        dsimp only
        rw [s_X6_doneIn_13, if_pos (by decide)]
        exact ⟨rfl, hFx⟩
      · rw [if_neg (fun z => by have := (nI_leI (by decide) (by omega)).mp z; omega)]
        rw [tick1M]
        have hp := pass_at (M0 := M) (M := M) (x := 6) yv yq (by omega) hA hL
        generalize f_X2_passTick v q yv yq = P at hp ⊢
        obtain ⟨p1, p2, p3, p4⟩ := P
        dsimp only at hp ⊢
        exact done_loop F F2 (i + 1) (stepM 6 M) p1 p2 p3 p4 (by omega) (by omega) (by omega) hp.1 hp.2.1 (hFx.tr hp.2.2)
    · rw [if_neg c, if_neg c]
      exact ⟨rfl, hFx⟩
theorem eq_doneIn {hs sn se tl : Int32} {nv nq zv zq g M : Nat → Int32} {hn : Nat} {vs qs : Nat → Nat → Int32} {yv yq : Nat → Int32} (hR : Rl hs sn se nv nq zv zq hn vs qs tl g M) : (f_X6_doneIn nv nq yv yq).1 = (f_X7_doneIn M).1 ∧ Rl hs sn se nv nq zv zq hn vs qs tl g (f_X7_doneIn M).2 := by
  obtain ⟨g1, g2⟩ := done_loop (M0 := cpyM M 0 6 46) 402 401 0 (cpyM M 0 6 46) nv nq yv yq (by omega) (by omega) (by omega) hR.m06 hR.is.1 Fx.rf
  exact ⟨g1, hR.move (fun _ _ => rfl) (fun j hj => (g2 j (by omega) (by omega)).trans (cpy_fr (by omega)))⟩
theorem look_N {p0 : Int32} : ∀ (n : Nat) (v q ov oq : Nat → Int32) (i : Nat), i ≤ p0.toNatClampNeg → p0.toNatClampNeg - i < n → s_X6_lookAhead_23 p0 n v q ov oq i = passN (p0.toNatClampNeg - i) v q ov oq
  | 0, _, _, _, _, _, _, h => absurd h (Nat.not_lt_zero _)
  | n + 1, v, q, ov, oq, i, hi, hn => by
    have hb := natBig p0
    rw [s_X6_lookAhead_23]
    by_cases c : p0 ≤ nI i
    · rw [if_pos c]
      have : p0.toNatClampNeg - i = 0 := by
        rcases Nat.lt_or_ge i p0.toNatClampNeg with h | h
        · exfalso
          have hp : ¬ p0 < 0 := fun z => by
            have := natBig p0
            have e0 : p0.toNatClampNeg = 0 := by
              rw [Int32.lt_iff_toInt_lt] at z
              have h0 : (0 : Int32).toInt = 0 := by decide
              have : p0.toNatClampNeg = p0.toInt.toNat := rfl
              omega
            omega
          rw [natOf hp, nI_leI hb (by omega)] at c
          omega
        · omega
      rw [this]
      rfl
    · rw [if_neg c]
      have hlt := ltNat c (by omega)
      have e : p0.toNatClampNeg - i = (p0.toNatClampNeg - (i + 1)) + 1 := by omega
      rw [e]
      exact look_N n (f_X2_passTick v q ov oq).1 (f_X2_passTick v q ov oq).2.1 (f_X2_passTick v q ov oq).2.2.1 (f_X2_passTick v q ov oq).2.2.2 (i + 1) (by omega) (by omega)
theorem look_eq {nv nq yv yq : Nat → Int32} {p0 p1 p2 : Int32} : f_X6_lookAhead nv nq yv yq p0 p1 p2 = passN p2.toNatClampNeg (fir nv p0 p1) nq yv yq := by
  unfold f_X6_lookAhead
  have h := look_N (p0 := p2) (p2.toNatClampNeg + 1) (fir nv p0 p1) nq yv yq 0 (Nat.zero_le _) (by omega)
  rw [Nat.sub_zero] at h
  exact h
theorem tries_at {M nv nq : Nat → Int32} {p0 p1 p2 : Int32} (yv yq : Nat → Int32) (hA : At M 0 nv nq) (hL : InvL nv nq) (h0 : 0 ≤ p0) (h1 : 0 ≤ p1) : At (f_X7_tries M p0 p1 p2) (46 * 6) (f_X6_lookAhead nv nq yv yq p0 p1 p2).1 (f_X6_lookAhead nv nq yv yq p0 p1 p2).2.1 ∧ ∀ j, j < 276 → f_X7_tries M p0 p1 p2 j = M j := by
  unfold f_X7_tries
  rw [look_eq, ticks_eqN]
  obtain ⟨g1, -, g3⟩ := passN_at (x := 6) (by omega) p2.toNatClampNeg _ (fir nv p0 p1) nq yv yq (hA.cpy06.firm p0 p1) (hL.fir h0 h1)
  refine ⟨g1, fun j hj => (g3 j (by omega) (by omega)).trans ?_⟩
  rw [pk_un (by omega), pk_un (by omega)]
  exact cpy_fr (by omega)
theorem dif2 (a b c d : Int32) : a + b - (c + d) = (a - c) + (b - d) := by
  rw [Int32.sub_eq_add_neg (a + b) (c + d), Int32.neg_add, Int32.sub_eq_add_neg (-c) d, Int32.sub_eq_add_neg a c, Int32.sub_eq_add_neg b d, Int32.add_assoc a b, ← Int32.add_assoc b (-c) (-d), Int32.add_comm b (-c), Int32.add_assoc (-c) b (-d), ← Int32.add_assoc a (-c)]
theorem more_at {Mt M v n q nq : Nat → Int32} {j : Nat} (hA : At Mt (46 * 6) v q) (h0 : At M 0 n nq) (hlow : ∀ j, j < 276 → Mt j = M j) (hj : j < 13 ∨ (17 ≤ j ∧ j < 26) ∨ (38 ≤ j ∧ j < 46)) : f_X7_more Mt j = v j - n j := by
  unfold f_X7_more
  rw [hlow j (by omega), hA.plain (m := 276 + j) hj (by omega), h0.plain (m := j) hj (by omega)]
theorem eq_ifFires {hs sn se tl : Int32} {nv nq zv zq g M : Nat → Int32} {hn : Nat} {vs qs : Nat → Nat → Int32} {av aq yv yq : Nat → Int32} {p0 p1 p2 p3 : Int32} (hR : Rl hs sn se nv nq zv zq hn vs qs tl g M) : (f_X6_ifFires nv nq av aq yv yq p0 p1 p2 p3).1 = (f_X7_ifFires M p0 p1 p2 p3).1 ∧ Rl hs sn se nv nq zv zq hn vs qs tl g (f_X7_ifFires M p0 p1 p2 p3).2 := by
  unfold f_X6_ifFires f_X7_ifFires
  rw [in_eq p0, in_eq p1, in_eq p2, in_eq p3]
  by_cases c0 : f_X6_isWithin p0 (nI 0) (nI 5) = 0
  · rw [if_pos c0, if_pos c0]
    exact ⟨rfl, hR⟩
  · rw [if_neg c0, if_neg c0]
    by_cases c1 : f_X6_isWithin p1 (nI 0) (nI 5) = 0
    · rw [if_pos c1, if_pos c1]
      exact ⟨rfl, hR⟩
    · rw [if_neg c1, if_neg c1]
      by_cases c2 : f_X6_isWithin p2 (nI 1) (nI 200) = 0
      · rw [if_pos c2, if_pos c2]
        exact ⟨rfl, hR⟩
      · rw [if_neg c2, if_neg c2]
        by_cases c3 : f_X6_isWithin p3 (nI 0) (nI 3) = 0
        · rw [if_pos c3, if_pos c3]
          exact ⟨rfl, hR⟩
        · rw [if_neg c3, if_neg c3]
          obtain ⟨hA, hlow⟩ := tries_at (p2 := p2) yv yq hR.at hR.is.1 (inGe (x := p0) c0) (inGe (x := p1) c1)
          generalize f_X6_lookAhead nv nq yv yq p0 p1 p2 = A at hA ⊢
          generalize f_X7_tries M p0 p1 p2 = B at hA hlow ⊢
          obtain ⟨a1, a2, a3, a4⟩ := A
          dsimp only at hA ⊢
          have hR2 := hR.move (g' := g) (M' := B) (fun _ _ => rfl) hlow
          have e := fun j hj => more_at (j := j) hA hR.at hlow hj
          by_cases d0 : p3 = nI 0
          · rw [if_pos d0, if_pos (show p3 = 0 from d0)]
            exact ⟨(e 41 (by omega)).symm, hR2⟩
          · rw [if_neg d0, if_neg (show ¬ p3 = 0 from d0)]
            by_cases d1 : p3 = nI 1
            · rw [if_pos d1, if_pos d1]
              exact ⟨(e 42 (by omega)).symm, hR2⟩
            · rw [if_neg d1, if_neg d1]
              by_cases d2 : p3 = nI 2
              · rw [if_pos d2, if_pos d2]
                exact ⟨(e 38 (by omega)).symm, hR2⟩
              · rw [if_neg d2, if_neg d2]
                refine ⟨?_, hR2⟩
                show f_X2_safetyStops a1 - f_X2_safetyStops nv = f_X7_more B 8 + f_X7_more B 9
                rw [e 8 (by omega), e 9 (by omega)]
                unfold f_X2_safetyStops
                rw [nI0, Int32.zero_add, Int32.zero_add, dif2]
theorem ldm_step {x : Int32} (h : Kd x) (y : Int32) (F : Int32 → Int32) : (if 0 ≤ ek x then F (y + nI 1) else F (y + nI 0)) = F (y + nI (ld x)) := by
  unfold ld
  by_cases c : x = -5
  · rw [if_neg (fun z => (ek_ge h).mp z c), if_pos c]
  · rw [if_pos ((ek_ge h).mpr c), if_neg c]
theorem loaded_at {M v q : Nat → Int32} (h : At M 0 v q) (hk : KS v) : f_X7_loaded M = f_X2_loadsInMachines v := by
  have e0 : M 13 = ek (v 13) := h.p13
  have e1 : M 14 = ek (v 14) := h.p14
  have e2 : M 15 = ek (v 15) := h.p15
  have e3 : M 16 = ek (v 16) := h.p16
  rw [loads_sum]
  unfold f_X7_loaded s_X7_loaded_4_0
  rw [e0, ldm_step hk.1]
  unfold s_X7_loaded_4_1
  rw [e1, ldm_step hk.2.1]
  unfold s_X7_loaded_4_2
  rw [e2, ldm_step hk.2.2.1]
  unfold s_X7_loaded_4_3
  rw [e3, ldm_step hk.2.2.2]
  unfold s_X7_loaded_4_4
  rw [nI_add, nI_add, nI_add, nI_add, Nat.zero_add]
theorem eq_count {hs sn se tl : Int32} {nv nq zv zq g M : Nat → Int32} {hn : Nat} {vs qs : Nat → Nat → Int32} {p0 : Int32} (hR : Rl hs sn se nv nq zv zq hn vs qs tl g M) : f_X6_count nv hn tl p0 = f_X7_count g M p0 := by
  have hA := hR.at
  obtain ⟨n, hn8, t1, t2⟩ := hR.2.2.2.2.2.2.2
  unfold f_X6_count f_X7_count f_X2_account
  by_cases c : p0 = nI 0
  · rw [if_neg (show ¬ p0 = nI 14 by rw [c]; decide), if_neg (show ¬ p0 = nI 15 by rw [c]; decide), if_pos c, if_pos c]
    exact (hA.plain (m := 12) (j := 12) (by omega) rfl).symm
  have c0 := c
  rw [if_neg (c := p0 = nI 0) c0, if_neg (c := p0 = nI 0) c0]
  by_cases c : p0 = nI 1
  · rw [if_neg (show ¬ p0 = nI 14 by rw [c]; decide), if_neg (show ¬ p0 = nI 15 by rw [c]; decide), if_pos c, if_pos c]
    exact (hA.plain (m := 10) (j := 10) (by omega) rfl).symm
  have c1 := c
  rw [if_neg (c := p0 = nI 1) c1, if_neg (c := p0 = nI 1) c1]
  by_cases c : p0 = nI 2
  · rw [if_neg (show ¬ p0 = nI 14 by rw [c]; decide), if_neg (show ¬ p0 = nI 15 by rw [c]; decide), if_pos c, if_pos c]
    exact (hA.plain (m := 38) (j := 38) (by omega) rfl).symm
  have c2 := c
  rw [if_neg (c := p0 = nI 2) c2, if_neg (c := p0 = nI 2) c2]
  by_cases c : p0 = nI 3
  · rw [if_neg (show ¬ p0 = nI 14 by rw [c]; decide), if_neg (show ¬ p0 = nI 15 by rw [c]; decide), if_pos c, if_pos c]
    exact (hA.plain (m := 39) (j := 39) (by omega) rfl).symm
  have c3 := c
  rw [if_neg (c := p0 = nI 3) c3, if_neg (c := p0 = nI 3) c3]
  by_cases c : p0 = nI 4
  · rw [if_neg (show ¬ p0 = nI 14 by rw [c]; decide), if_neg (show ¬ p0 = nI 15 by rw [c]; decide), if_pos c, if_pos c]
    exact (hA.plain (m := 11) (j := 11) (by omega) rfl).symm
  have c4 := c
  rw [if_neg (c := p0 = nI 4) c4, if_neg (c := p0 = nI 4) c4]
  by_cases c : p0 = nI 5
  · rw [if_neg (show ¬ p0 = nI 14 by rw [c]; decide), if_neg (show ¬ p0 = nI 15 by rw [c]; decide), if_pos c, if_pos c]
    exact (loaded_at hA hR.is.1.1.2.ks).symm
  have c5 := c
  rw [if_neg (c := p0 = nI 5) c5, if_neg (c := p0 = nI 5) c5]
  by_cases c : p0 = nI 6
  · rw [if_neg (show ¬ p0 = nI 14 by rw [c]; decide), if_neg (show ¬ p0 = nI 15 by rw [c]; decide), if_pos c, if_pos c]
    exact (hA.plain (m := 25) (j := 25) (by omega) rfl).symm
  have c6 := c
  rw [if_neg (c := p0 = nI 6) c6, if_neg (c := p0 = nI 6) c6]
  by_cases c : p0 = nI 7
  · rw [if_neg (show ¬ p0 = nI 14 by rw [c]; decide), if_neg (show ¬ p0 = nI 15 by rw [c]; decide), if_pos c, if_pos c]
    exact (hA.plain (m := 40) (j := 40) (by omega) rfl).symm
  have c7 := c
  rw [if_neg (c := p0 = nI 7) c7, if_neg (c := p0 = nI 7) c7]
  by_cases c : p0 = nI 8
  · rw [if_neg (show ¬ p0 = nI 14 by rw [c]; decide), if_neg (show ¬ p0 = nI 15 by rw [c]; decide), if_pos c, if_pos c]
    exact (hA.plain (m := 41) (j := 41) (by omega) rfl).symm
  have c8 := c
  rw [if_neg (c := p0 = nI 8) c8, if_neg (c := p0 = nI 8) c8]
  by_cases c : p0 = nI 9
  · rw [if_neg (show ¬ p0 = nI 14 by rw [c]; decide), if_neg (show ¬ p0 = nI 15 by rw [c]; decide), if_pos c, if_pos c]
    exact (hA.plain (m := 42) (j := 42) (by omega) rfl).symm
  have c9 := c
  rw [if_neg (c := p0 = nI 9) c9, if_neg (c := p0 = nI 9) c9]
  by_cases c : p0 = nI 10
  · rw [if_neg (show ¬ p0 = nI 14 by rw [c]; decide), if_neg (show ¬ p0 = nI 15 by rw [c]; decide), if_pos c, if_pos c]
    exact (hA.plain (m := 43) (j := 43) (by omega) rfl).symm
  have c10 := c
  rw [if_neg (c := p0 = nI 10) c10, if_neg (c := p0 = nI 10) c10]
  by_cases c : p0 = nI 11
  · rw [if_neg (show ¬ p0 = nI 14 by rw [c]; decide), if_neg (show ¬ p0 = nI 15 by rw [c]; decide), if_pos c, if_pos c]
    exact (hA.plain (m := 44) (j := 44) (by omega) rfl).symm
  have c11 := c
  rw [if_neg (c := p0 = nI 11) c11, if_neg (c := p0 = nI 11) c11]
  by_cases c : p0 = nI 12
  · rw [if_neg (show ¬ p0 = nI 14 by rw [c]; decide), if_neg (show ¬ p0 = nI 15 by rw [c]; decide), if_pos c, if_pos c]
    exact (pressure_eq (b := 0) hA).symm
  have c12 := c
  rw [if_neg (c := p0 = nI 12) c12, if_neg (c := p0 = nI 12) c12]
  by_cases c : p0 = nI 13
  · rw [if_neg (show ¬ p0 = nI 14 by rw [c]; decide), if_neg (show ¬ p0 = nI 15 by rw [c]; decide), if_pos c, if_pos c]
    exact (hA.plain (m := 45) (j := 45) (by omega) rfl).symm
  have c13 := c
  rw [if_neg (c := p0 = nI 13) c13, if_neg (c := p0 = nI 13) c13]
  by_cases c : p0 = nI 14
  · rw [if_pos c, if_pos c]
    exact hR.2.1.symm
  have c14 := c
  rw [if_neg (c := p0 = nI 14) c14, if_neg (c := p0 = nI 14) c14]
  by_cases c : p0 = nI 15
  · rw [if_pos c, if_pos c]
    exact t1.trans t2.symm
  have c15 := c
  rw [if_neg c15, if_neg c15]
