def RB (B : Nat) (v : Nat → Int32) : Prop := (v 0 ≤ nI 5 ∧ v 1 ≤ nI 5) ∧ (v 2 ≤ nI 200 ∧ v 3 ≤ nI 200) ∧ ∃ t w c, t ≤ B ∧ w ≤ 4 * t ∧ c ≤ 10 * t ∧ v 12 = nI t ∧ v 41 = nI w ∧ v 38 = nI c
theorem RB.of {B : Nat} {v v' : Nat → Int32} (h : RB B v) (e0 : v' 0 = v 0) (e1 : v' 1 = v 1) (e2 : v' 2 = v 2) (e3 : v' 3 = v 3) (e12 : v' 12 = v 12) (e41 : v' 41 = v 41) (e38 : v' 38 = v 38) : RB B v' := by
  unfold RB
  rw [e0, e1, e2, e3, e12, e41, e38]
  exact h
theorem le5 {x : Int32} (h0 : 0 ≤ x) (h : x ≤ nI 5) : ∃ n, n ≤ 5 ∧ x = nI n := by
  obtain ⟨j, hj, e⟩ := nI_of (x := x) (Int32.not_lt.mpr h0)
  rw [e, nI_leI hj (by decide)] at h
  exact ⟨j, h, e⟩
theorem add0 (x : Int32) : x + nI 0 = x := by rw [nI0, Int32.add_zero]

theorem brn0_38 {v : Nat → Int32} (h0 : 0 ≤ v 0) (h : v 0 ≤ nI 5) : ∃ n, n ≤ 5 ∧ brn0 v 38 = v 38 + nI n := by
  obtain ⟨n, h5, e⟩ := le5 h0 h
  unfold brn0 f_X0_burn
  by_cases c1 : v 6 ≤ 0
  · rw [if_pos c1]
    by_cases c2 : v 10 < v 0
    · rw [if_pos c2]
      exact ⟨0, by omega, rfl⟩
    · rw [if_neg c2]
      by_cases c3 : v 0 ≤ v 2
      · rw [if_pos c3]
        exact ⟨n, h5, by rw [← e]; rfl⟩
      · rw [if_neg c3]
        exact ⟨0, by omega, rfl⟩
  · rw [if_neg c1]
    exact ⟨0, by omega, rfl⟩
theorem cool0_5 {v : Nat → Int32} (h : v 0 ≤ nI 5) : cool0 v 0 ≤ nI 5 := by
  unfold cool0 f_X0_coolDown
  have z : nI 0 ≤ nI 5 := by decide
  by_cases c1 : v 4 ≤ 0
  · rw [if_pos c1]
    by_cases c2 : v 4 ≤ nI 70
    · rw [if_pos c2]; exact h
    · rw [if_neg c2]; exact z
  · rw [if_neg c1]
    by_cases c2 : v 4 - nI 1 ≤ nI 70
    · rw [if_pos c2]; exact h
    · rw [if_neg c2]; exact z

theorem brn1_38 {v : Nat → Int32} (h0 : 0 ≤ v 1) (h : v 1 ≤ nI 5) : ∃ n, n ≤ 5 ∧ brn1 v 38 = v 38 + nI n := by
  obtain ⟨n, h5, e⟩ := le5 h0 h
  unfold brn1 f_X0_burn
  by_cases c1 : v 7 ≤ 0
  · rw [if_pos c1]
    by_cases c2 : v 10 < v 1
    · rw [if_pos c2]
      exact ⟨0, by omega, rfl⟩
    · rw [if_neg c2]
      by_cases c3 : v 1 ≤ v 3
      · rw [if_pos c3]
        exact ⟨n, h5, by rw [← e]; rfl⟩
      · rw [if_neg c3]
        exact ⟨0, by omega, rfl⟩
  · rw [if_neg c1]
    exact ⟨0, by omega, rfl⟩
theorem cool1_5 {v : Nat → Int32} (h : v 1 ≤ nI 5) : cool1 v 1 ≤ nI 5 := by
  unfold cool1 f_X0_coolDown
  have z : nI 0 ≤ nI 5 := by decide
  by_cases c1 : v 5 ≤ 0
  · rw [if_pos c1]
    by_cases c2 : v 5 ≤ nI 70
    · rw [if_pos c2]; exact h
    · rw [if_neg c2]; exact z
  · rw [if_neg c1]
    by_cases c2 : v 5 - nI 1 ≤ nI 70
    · rw [if_pos c2]; exact h
    · rw [if_neg c2]; exact z

theorem wm0_41 (v : Nat → Int32) : ∃ n, n ≤ 1 ∧ wm0 v 41 = v 41 + nI n := by
  unfold wm0
  by_cases c : v 13 = -5
  · rw [if_pos c]; exact ⟨0, by omega, (add0 _).symm⟩
  · rw [if_neg c]
    by_cases c2 : v 17 - nI 1 = 0
    · rw [if_pos c2]; exact ⟨1, by omega, rfl⟩
    · rw [if_neg c2]; exact ⟨0, by omega, (add0 _).symm⟩

theorem wm1_41 (v : Nat → Int32) : ∃ n, n ≤ 1 ∧ wm1 v 41 = v 41 + nI n := by
  unfold wm1
  by_cases c : v 14 = -5
  · rw [if_pos c]; exact ⟨0, by omega, (add0 _).symm⟩
  · rw [if_neg c]
    by_cases c2 : v 18 - nI 1 = 0
    · rw [if_pos c2]; exact ⟨1, by omega, rfl⟩
    · rw [if_neg c2]; exact ⟨0, by omega, (add0 _).symm⟩

theorem wm2_41 (v : Nat → Int32) : ∃ n, n ≤ 1 ∧ wm2 v 41 = v 41 + nI n := by
  unfold wm2
  by_cases c : v 15 = -5
  · rw [if_pos c]; exact ⟨0, by omega, (add0 _).symm⟩
  · rw [if_neg c]
    by_cases c2 : v 19 - nI 1 = 0
    · rw [if_pos c2]; exact ⟨1, by omega, rfl⟩
    · rw [if_neg c2]; exact ⟨0, by omega, (add0 _).symm⟩

theorem wm3_41 (v : Nat → Int32) : ∃ n, n ≤ 1 ∧ wm3 v 41 = v 41 + nI n := by
  unfold wm3
  by_cases c : v 16 = -5
  · rw [if_pos c]; exact ⟨0, by omega, (add0 _).symm⟩
  · rw [if_neg c]
    by_cases c2 : v 20 - nI 1 = 0
    · rw [if_pos c2]; exact ⟨1, by omega, rfl⟩
    · rw [if_neg c2]; exact ⟨0, by omega, (add0 _).symm⟩

theorem wl_41 (v : Nat → Int32) : ∃ n, n ≤ 4 ∧ f_X2_workLoads v 41 = v 41 + nI n := by
  obtain ⟨a, ha, ea⟩ := wm0_41 v
  obtain ⟨b, hb, eb⟩ := wm1_41 (wm0 v)
  obtain ⟨c, hc, ec⟩ := wm2_41 (wm1 (wm0 v))
  obtain ⟨d, hd, ed⟩ := wm3_41 (wm2 (wm1 (wm0 v)))
  refine ⟨a + b + c + d, by omega, ?_⟩
  rw [wl_eq, ed, ec, eb, ea, Int32.add_assoc, Int32.add_assoc, Int32.add_assoc, nI_add, nI_add, nI_add]
  congr 2
  omega
theorem rat_12 (v : Nat → Int32) : rat v 12 = v 12 + nI 1 := by
  unfold rat
  by_cases c : ((v 12) + (nI 1)) - ((v 12) + (nI 1)) / (nI 60) * (nI 60) = 0
  · rw [if_pos c]; rfl
  · rw [if_neg c]; rfl
theorem preW_b {v : Nat → Int32} (h : InvT v) (hf : v 0 ≤ nI 5 ∧ v 1 ≤ nI 5) : (preW v 0 ≤ nI 5 ∧ preW v 1 ≤ nI 5) ∧ (preW v 2 ≤ v 2 ∧ preW v 3 ≤ v 3) ∧ preW v 12 = v 12 + nI 1 ∧ ∃ n, n ≤ 10 ∧ preW v 38 = v 38 + nI n := by
  have hr := h.rat
  have hb := hr.brn0
  have z : (0 : Int32) ≤ nI 5 := by decide
  have r0 : rat v 0 = v 0 := rat_keep v (by decide) (by decide) (by decide)
  have r1 : rat v 1 = v 1 := rat_keep v (by decide) (by decide) (by decide)
  have r2 : rat v 2 = v 2 := rat_keep v (by decide) (by decide) (by decide)
  have r3 : rat v 3 = v 3 := rat_keep v (by decide) (by decide) (by decide)
  have r38 : rat v 38 = v 38 := rat_keep v (by decide) (by decide) (by decide)
  obtain ⟨-, ⟨-, w0⟩, -, f0⟩ := brn0_inv hr.2.1.1 hr.2.2.1.1 hr.2.2.2.1.1
  obtain ⟨-, ⟨-, w1⟩, -, f1⟩ := brn1_inv hb.2.1.2 hb.2.2.1.2 hb.2.2.2.1.1
  have b1 : brn0 (rat v) 1 = v 1 := (brn0_keep _ (by decide) (by decide) (by decide) (by decide) (by decide) (by decide)).trans r1
  have b3 : brn0 (rat v) 3 = v 3 := (brn0_keep _ (by decide) (by decide) (by decide) (by decide) (by decide) (by decide)).trans r3
  have p0 : preW v 0 = brn0 (rat v) 0 := brn1_keep _ (by decide) (by decide) (by decide) (by decide) (by decide) (by decide)
  have p2 : preW v 2 = brn0 (rat v) 2 := brn1_keep _ (by decide) (by decide) (by decide) (by decide) (by decide) (by decide)
  have p12 : preW v 12 = rat v 12 := (brn1_keep _ (by decide) (by decide) (by decide) (by decide) (by decide) (by decide)).trans (brn0_keep _ (by decide) (by decide) (by decide) (by decide) (by decide) (by decide))
  refine ⟨⟨?_, ?_⟩, ⟨?_, ?_⟩, p12.trans (rat_12 v), ?_⟩
  · rw [p0]
    rcases f0 with e | e
    · rw [e]; exact z
    · rw [e, r0]; exact hf.1
  · show brn1 (brn0 (rat v)) 1 ≤ _
    rcases f1 with e | e
    · rw [e]; exact z
    · rw [e, b1]; exact hf.2
  · rw [p2]; rw [r2] at w0; exact w0
  · rw [b3] at w1; exact w1
  · obtain ⟨a, ha, ea⟩ := brn0_38 (v := rat v) hr.2.1.1 (by rw [r0]; exact hf.1)
    obtain ⟨b, hb2, eb⟩ := brn1_38 (v := brn0 (rat v)) hb.2.1.2 (by rw [b1]; exact hf.2)
    refine ⟨a + b, by omega, ?_⟩
    show brn1 (brn0 (rat v)) 38 = _
    rw [eb, ea, r38, Int32.add_assoc, nI_add]
theorem le_tr {a b c : Int32} (h : a ≤ b) (k : b ≤ c) : a ≤ c := Int32.le_trans h k
theorem RB.tick {B : Nat} {v : Nat → Int32} (hT : InvT v) (h : RB B v) : RB (B + 1) (f_X2_workTick v).2 := by
  obtain ⟨hf, hw, t, w, c, h1, h2, h3, e12, e41, e38⟩ := h
  obtain ⟨pf, pw, p12, n, hn, p38⟩ := preW_b hT hf
  have p41 : preW v 41 = v 41 := preW_keep v (by decide) (by decide) (by decide) (by decide)
  have fin : ∀ (u : Nat → Int32) (d : Nat), d ≤ 4 → (∀ j, j < 4 → u j = preW v j) → u 12 = preW v 12 → u 38 = preW v 38 → u 41 = preW v 41 + nI d → RB (B + 1) (cool1 (cool0 u)) := by
    intro u d hd hu u12 u38 u41
    have c0 : cool0 u 1 = u 1 := cool0_keep _ (by decide) (by decide) (by decide) (by decide)
    refine ⟨⟨?_, ?_⟩, ⟨?_, ?_⟩, t + 1, w + d, c + n, by omega, by omega, by omega, ?_, ?_, ?_⟩
    · rw [cool1_keep _ (by decide) (by decide) (by decide) (by decide)]
      exact cool0_5 (by rw [hu 0 (by omega)]; exact pf.1)
    · exact cool1_5 (by rw [c0, hu 1 (by omega)]; exact pf.2)
    · rw [cool1_keep _ (by decide) (by decide) (by decide) (by decide), cool0_keep _ (by decide) (by decide) (by decide) (by decide), hu 2 (by omega)]
      exact le_tr pw.1 hw.1
    · rw [cool1_keep _ (by decide) (by decide) (by decide) (by decide), cool0_keep _ (by decide) (by decide) (by decide) (by decide), hu 3 (by omega)]
      exact le_tr pw.2 hw.2
    · rw [coolC_keep _ (by decide), u12, p12, e12, nI_add]
    · rw [coolC_keep _ (by decide), u41, p41, e41, nI_add]
    · rw [coolC_keep _ (by decide), u38, p38, e38, nI_add]
  rw [tick_eq]
  by_cases c1 : f_X2_need (preW v) ≤ f_X2_allPressure (preW v)
  · rw [if_pos c1]
    dsimp only
    obtain ⟨d, hd, e⟩ := wl_41 (f_X2_takeSteam (preW v) (f_X2_need (preW v)))
    refine fin _ d hd (fun j hj => ?_) ?_ ?_ ?_
    · rw [wl_keep _ (by omega) (by omega) (by omega), takeS_keep _ (by omega) (by omega)]
    · rw [wl_keep _ (by decide) (by decide) (by decide), takeS_keep _ (by decide) (by decide)]
    · rw [wl_keep _ (by decide) (by decide) (by decide), takeS_keep _ (by decide) (by decide)]
    · rw [e, takeS_keep _ (by decide) (by decide)]
  · rw [if_neg c1]
    dsimp only
    refine fin _ 0 (by omega) (fun j hj => ?_) ?_ ?_ ?_
    · rw [hl_keep _ (by omega) (by omega) (by omega)]
    · rw [hl_keep _ (by decide) (by decide) (by decide)]
    · rw [hl_keep _ (by decide) (by decide) (by decide)]
    · rw [hl_keep _ (by decide) (by decide) (by decide), add0]
theorem pass_keep {v q ov oq : Nat → Int32} {j : Nat} (hj : j < 13 ∨ (38 ≤ j ∧ j ≠ 40)) : (f_X2_passTick v q ov oq).1 j = (f_X2_workTick v).2 j := by
  unfold f_X2_passTick
  generalize f_X2_workTick v = R
  obtain ⟨r, v1⟩ := R
  dsimp only
  by_cases c1 : f_X5_kindAt (v1 25) q (nI 0) = -5
  · rw [if_pos c1]
  · rw [if_neg c1]
    generalize f_X2_reasonAgainst v1 q ov oq (f_X5_kindAt (v1 25) q (nI 0)) = S
    obtain ⟨r4, o4, o5⟩ := S
    dsimp only
    generalize f_X5_remove (v1 25) q (nI 0) = U
    obtain ⟨r8, l8, q8⟩ := U
    dsimp only
    by_cases c2 : r4 = 0
    · rw [if_pos c2]
      by_cases d0 : v1 13 = -5
      · rw [if_pos d0]
        dsimp only
        rw [pk_un (by omega), pk_un (by omega), pk_un (by omega), pk_un (by omega), pk_un (by omega)]
      · rw [if_neg d0]
        by_cases d1 : v1 14 = -5
        · rw [if_pos d1]
          dsimp only
          rw [pk_un (by omega), pk_un (by omega), pk_un (by omega), pk_un (by omega), pk_un (by omega)]
        · rw [if_neg d1]
          by_cases d2 : v1 15 = -5
          · rw [if_pos d2]
            dsimp only
            rw [pk_un (by omega), pk_un (by omega), pk_un (by omega), pk_un (by omega), pk_un (by omega)]
          · rw [if_neg d2]
            by_cases d3 : v1 16 = -5
            · rw [if_pos d3]
              dsimp only
              rw [pk_un (by omega), pk_un (by omega), pk_un (by omega), pk_un (by omega), pk_un (by omega)]
            · rw [if_neg d3]
    · rw [if_neg c2]
theorem RB.pass {B : Nat} {v q ov oq : Nat → Int32} (hT : InvT v) (h : RB B v) : RB (B + 1) (f_X2_passTick v q ov oq).1 :=
  (h.tick hT).of (pass_keep (by decide)) (pass_keep (by decide)) (pass_keep (by decide)) (pass_keep (by decide)) (pass_keep (by decide)) (pass_keep (by decide)) (pass_keep (by decide))
theorem RB.up {B C : Nat} {v : Nat → Int32} (h : RB B v) (hC : B ≤ C) : RB C v := by
  obtain ⟨h1, h2, t, w, c, g1, g2, g3, g4⟩ := h
  exact ⟨h1, h2, t, w, c, by omega, g2, g3, g4⟩
/-- ticks exactly counted -/
theorem pass_12 {v q ov oq : Nat → Int32} : (f_X2_passTick v q ov oq).1 12 = v 12 + nI 1 := by
  rw [pass_keep (by decide), tick_eq]
  have p12 : preW v 12 = rat v 12 := (brn1_keep _ (by decide) (by decide) (by decide) (by decide) (by decide) (by decide)).trans (brn0_keep _ (by decide) (by decide) (by decide) (by decide) (by decide) (by decide))
  by_cases c1 : f_X2_need (preW v) ≤ f_X2_allPressure (preW v)
  · rw [if_pos c1]
    dsimp only
    rw [coolC_keep _ (by decide), wl_keep _ (by decide) (by decide) (by decide), takeS_keep _ (by decide) (by decide), p12, rat_12]
  · rw [if_neg c1]
    dsimp only
    rw [coolC_keep _ (by decide), hl_keep _ (by decide) (by decide) (by decide), p12, rat_12]
theorem RB.tk {B t : Nat} {v : Nat → Int32} (h : RB B v) (e : v 12 = nI t) (ht : t < 2 ^ 31) (hB : B < 2 ^ 31) : RB t v := by
  obtain ⟨h1, h2, t1, w, c, g1, g2, g3, g4, g5⟩ := h
  have e2 : t1 = t := by
    have := g4.symm.trans e
    exact (nI_eq (by omega) ht).mp this
  subst e2
  exact ⟨h1, h2, t1, w, c, Nat.le_refl _, g2, g3, g4, g5⟩
theorem passN_12 : ∀ (n : Nat) (v q ov oq : Nat → Int32), (passN n v q ov oq).1 12 = v 12 + nI n
  | 0, v, q, ov, oq => (add0 _).symm
  | n + 1, v, q, ov, oq => by
    rw [passN, passN_12 n, pass_12, Int32.add_assoc, nI_add]
    congr 2
    omega

