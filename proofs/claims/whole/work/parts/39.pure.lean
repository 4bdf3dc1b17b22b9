/-! why a load is not started: the model and the class say the same -/
theorem At.kind {M : Nat → Int32} {b : Nat} {v q : Nat → Int32} (h : At M b v q) {i m : Nat} (hi : i < 4) (e : m = b + (13 + i)) : M m = ek (v (13 + i)) := by
  subst e
  rw [h (13 + i) (by omega)]
  unfold enc
  rw [if_pos (by omega)]
theorem At.plain {M : Nat → Int32} {b : Nat} {v q : Nat → Int32} (h : At M b v q) {j m : Nat} (hj : j < 13 ∨ (17 ≤ j ∧ j < 26) ∨ (38 ≤ j ∧ j < 46)) (e : m = b + j) : M m = v j := by
  subst e
  rw [h j (by omega)]
  unfold enc
  rw [if_neg (by omega), if_neg (by omega)]
theorem At.lineP {M : Nat → Int32} {b : Nat} {v q : Nat → Int32} (h : At M b v q) {j m : Nat} (hj : j < 12) (e : m = b + 26 + j) : M m = q j := by
  have e2 : m = b + (26 + j) := by omega
  subst e2
  rw [h (26 + j) (by omega)]
  unfold enc
  rw [if_neg (by omega), if_pos (by omega), show 26 + j - 26 = j by omega]
theorem InvM.mi {v : Nat → Int32} (h : InvM v) {i : Nat} (hi : i < 4) : ML v (13 + i) (17 + i) (21 + i) := by
  have h4 : i = 0 ∨ i = 1 ∨ i = 2 ∨ i = 3 := by omega
  rcases h4 with rfl | rfl | rfl | rfl
  · exact h.1
  · exact h.2.1
  · exact h.2.2.1
  · exact h.2.2.2
theorem why_loop {p0 z : Int32} {q : Nat → Int32} (hi : p0.toNatClampNeg < 4) : ∀ (n : Nat) (M v : Nat → Int32) (t : Nat), At M 322 v q → InvW v → M 367 = z → ((v (13 + p0.toNatClampNeg) = -5 ∧ t = 0) ∨ (¬ v (13 + p0.toNatClampNeg) = -5 ∧ 1 ≤ t ∧ t ≤ 9 ∧ v (17 + p0.toNatClampNeg) = nI t)) → t < n →
    (s_X7_why_72 p0 n M z).1 = (if wIn t v then nI 3 else nI 0) ∧ ∀ j, (j < 322 ∨ 322 + 46 ≤ j) → (s_X7_why_72 p0 n M z).2 j = M j
  | 0, M, v, t, _, _, _, _, hn => absurd hn (Nat.not_lt_zero _)
  | n + 1, M, v, t, hA, hv, hz, ht, hn => by
    have e1 : M (335 + p0.toNatClampNeg) = ek (v (13 + p0.toNatClampNeg)) := hA.kind hi (by omega)
    have hkd := (hv.2.mi hi).kd
    rw [s_X7_why_72, e1]
    rcases ht with ⟨h1, rfl⟩ | ⟨h1, t1, t9, hl⟩
    · rw [if_pos ((ek_lt hkd).mpr h1), if_pos hz]
      exact ⟨rfl, fun _ _ => rfl⟩
    · rw [if_neg (fun c => h1 ((ek_lt hkd).mp c)), if_pos hz]
      have hB := passes_at (M0 := M) ⟨hA, Fr_rf⟩ hv.1
      have hv' := hv.tick
      have e3 : M 367 = v 45 := hA.plain (j := 45) (by omega) rfl
      have f3 : f_X7_passes M 322 367 = (f_X2_workTick v).2 45 := hB.1.plain (j := 45) (by omega) rfl
      obtain ⟨t', rfl⟩ : ∃ t', t = t' + 1 := ⟨t - 1, by omega⟩
      show (s_X7_why_72 p0 n (f_X7_passes M 322) z).1 = _ ∧ ∀ j, _ → (s_X7_why_72 p0 n (f_X7_passes M 322) z).2 j = M j
      rcases tick_wait (v := v) with ⟨h0, h45⟩ | ⟨h0, h45⟩
      · rw [wIn_0 h0]
        obtain ⟨a1, a2⟩ := tick_mi hi h0
        rw [if_neg h1] at a1 a2
        have hz' : f_X7_passes M 322 367 = z := by rw [f3, h45, ← e3, hz]
        have ht' : ((f_X2_workTick v).2 (13 + p0.toNatClampNeg) = -5 ∧ t' = 0) ∨ (¬ (f_X2_workTick v).2 (13 + p0.toNatClampNeg) = -5 ∧ 1 ≤ t' ∧ t' ≤ 9 ∧ (f_X2_workTick v).2 (17 + p0.toNatClampNeg) = nI t') := by
          rw [hl] at a1 a2
          by_cases c : t' + 1 = 1
          · rw [if_pos ((nI_z (by omega) (by omega)).mpr c)] at a1
            exact Or.inl ⟨a1, by omega⟩
          · rw [if_neg (fun z => c ((nI_z (by omega) (by omega)).mp z))] at a1 a2
            refine Or.inr ⟨by rw [a1]; exact h1, by omega, by omega, ?_⟩
            rw [a2, pk_sub (by omega)]
            rfl
        obtain ⟨g1, g2⟩ := why_loop hi n _ _ t' hB.1 hv' hz' ht' (by omega)
        exact ⟨g1, fun j hj => (g2 j hj).trans (hB.2 j hj)⟩
      · rw [wIn_1 h0]
        obtain ⟨m, rfl⟩ : ∃ m, n = m + 1 := ⟨n - 1, by omega⟩
        have hne : ¬ f_X7_passes M 322 367 = z := by
          rw [f3, h45, ← e3, hz]
          exact add1_ne z
        rw [s_X7_why_72]
        by_cases c : f_X7_passes M 322 (335 + p0.toNatClampNeg) < 0
        · rw [if_pos c, if_neg hne]
          exact ⟨rfl, fun j hj => hB.2 j hj⟩
        · rw [if_neg c, if_neg hne]
          exact ⟨rfl, fun j hj => hB.2 j hj⟩
/-- the reason, by the numbers -/
def whyV (v : Nat → Int32) (p0 k : Int32) : Int32 := if p0 < 0 then nI 1 else if v (13 + p0.toNatClampNeg) = -5 then (if nI 10 ≤ f_X2_allPressure v then (if wIn (f_X6_ticksOf k).toNatClampNeg (putM v p0.toNatClampNeg k) then nI 3 else nI 0) else nI 2) else nI 1
theorem why_at {M : Nat → Int32} {x : Nat} {v q : Nat → Int32} {p0 k : Int32} (hx : x ≤ 6) (hA : At M (46 * x) v q) (hv : InvW v) (hm : p0 < nI 4) (hk : k = 0 ∨ k = 1 ∨ k = 2) : (f_X7_why M x p0 k).1 = whyV v p0 k ∧ ∀ j, (j < 322 ∨ 322 + 46 ≤ j) → (f_X7_why M x p0 k).2 j = M j := by
  unfold f_X7_why whyV
  by_cases c0 : p0 < 0
  · rw [if_pos c0, if_pos c0]
    exact ⟨rfl, fun _ _ => rfl⟩
  · have hi := natLt c0 (ltOf hm) (by decide)
    have hkd := (hv.2.mi hi).kd
    rw [if_neg c0, if_neg c0, hA.kind hi (show 46 * x + 13 + p0.toNatClampNeg = _ by omega), pressure_eq hA]
    by_cases c1 : v (13 + p0.toNatClampNeg) = -5
    · rw [if_pos ((ek_lt hkd).mpr c1), if_pos c1]
      by_cases c2 : nI 10 ≤ f_X2_allPressure v
      · rw [if_pos c2, if_pos c2]
        have hP := puts_at (M0 := cpyM M x 7 46) (b := 322) ⟨cpy_at (y := 7) hA, Fr_rf⟩ hi hk
        obtain ⟨n, n1, n9, hn⟩ := ticks_n hk
        have hvp := hv.put hi hk
        have el : putM v p0.toNatClampNeg k (17 + p0.toNatClampNeg) = nI n := by
          unfold putM
          rw [pk_un (by omega), pk_un (by omega), pk_us, hn]
        have ekk : putM v p0.toNatClampNeg k (13 + p0.toNatClampNeg) = k := by
          unfold putM
          rw [pk_un (by omega), pk_un (by omega), pk_un (by omega), pk_us]
        obtain ⟨g1, g2⟩ := why_loop (z := f_X7_puts (cpyM M x 7 46) 322 p0.toNatClampNeg k 367) hi 11 _ _ n hP.1 hvp rfl (Or.inr ⟨by rw [ekk]; exact kd3 hk, n1, n9, el⟩) (by omega)
        have en : (f_X6_ticksOf k).toNatClampNeg = n := by rw [hn]; exact nI_clamp (by omega)
        rw [en]
        exact ⟨g1, fun j hj => ((g2 j hj).trans (hP.2 j hj)).trans (cpy_fr (y := 7) (by omega))⟩
      · rw [if_neg c2, if_neg c2]
        exact ⟨rfl, fun _ _ => rfl⟩
    · rw [if_neg (fun c => c1 ((ek_lt hkd).mp c)), if_neg c1]
      exact ⟨rfl, fun _ _ => rfl⟩
def lowI (v : Nat → Int32) : Int32 := if v 13 = -5 then nI 0 else if v 14 = -5 then nI 1 else if v 15 = -5 then nI 2 else if v 16 = -5 then nI 3 else (-1)
theorem low_at {M : Nat → Int32} {b : Nat} {v q : Nat → Int32} (h : At M b v q) (hk : KS v) : f_X7_lowestEmpty M b = lowI v := by
  have g : ∀ {x : Int32} {A B : Int32}, Kd x → (if 0 ≤ ek x then A else B) = if x = -5 then B else A := by
    intro x A B hx
    by_cases c : x = -5
    · rw [if_neg (fun z => (ek_ge hx).mp z c), if_pos c]
    · rw [if_pos ((ek_ge hx).mpr c), if_neg c]
  unfold f_X7_lowestEmpty s_X7_lowestEmpty_4_3 s_X7_lowestEmpty_4_2 s_X7_lowestEmpty_4_1 s_X7_lowestEmpty_4_0 s_X7_lowestEmpty_4_m1 lowI
  rw [show M (b + 13 + 3) = ek (v 16) from h.p16, show M (b + 13 + 2) = ek (v 15) from h.p15, show M (b + 13 + 1) = ek (v 14) from h.p14, show M (b + 13 + 0) = ek (v 13) from h.p13]
  simp only [g hk.1, g hk.2.1, g hk.2.2.1, g hk.2.2.2]
  by_cases c0 : v 13 = -5 <;> by_cases c1 : v 14 = -5 <;> by_cases c2 : v 15 = -5 <;> by_cases c3 : v 16 = -5 <;> simp [c0, c1, c2, c3]
theorem lowI_lt (v : Nat → Int32) : lowI v < nI 4 := by
  unfold lowI
  by_cases c0 : v 13 = -5 <;> by_cases c1 : v 14 = -5 <;> by_cases c2 : v 15 = -5 <;> by_cases c3 : v 16 = -5 <;> simp only [c0, c1, c2, c3, if_true, if_false] <;> decide
theorem wIn_put {v : Nat → Int32} {a b : Nat} {k : Int32} (n : Nat) (ha : a < 4) (hb : b < 4) (e1 : v (13 + a) = v (13 + b)) (e2 : v (17 + a) = v (17 + b)) : wIn n (putM v a k) = wIn n (putC v b k) := wIn_sw (Pm_swp ha hb) n _ _ (put_sw ha hb e1 e2)
theorem rea_run {v q : Nat → Int32} {k : Int32} {j : Nat} (hj : j < 4) (hk : k = 0 ∨ k = 1 ∨ k = 2) : (s_X2_reasonAgainst_50 k ((f_X6_ticksOf k).toNatClampNeg + 1) (putC v j k) q 0).1 = if wIn (f_X6_ticksOf k).toNatClampNeg (putM v j k) then nI 3 else nI 0 := by
  obtain ⟨n, n1, n9, hn⟩ := ticks_n hk
  rw [rea_loop _ _ 0 (Nat.zero_le _) (by rw [hn]; exact nI_pos (by omega)) (by omega), Nat.sub_zero, wIn_put _ hj hj rfl rfl]
theorem emp5 {x : Int32} (h : x = -5) : ¬ f_X3_isEmpty x = 0 := fun z => emp_ne.mp z h
theorem rea_j {v : Nat → Int32} {k : Int32} {j : Nat} (hj : j < 4) (hl : lowI v = nI j) (he : v (13 + j) = -5) : whyV v (lowI v) k = if nI 10 ≤ f_X2_allPressure v then (if wIn (f_X6_ticksOf k).toNatClampNeg (putM v j k) then nI 3 else nI 0) else nI 2 := by
  rw [hl]
  unfold whyV
  rw [if_neg (nI_pos (by omega)), nI_clamp (by omega), if_pos he]
theorem rea_at {v q ov oq : Nat → Int32} {k : Int32} (hk : k = 0 ∨ k = 1 ∨ k = 2) : (f_X2_reasonAgainst v q ov oq k).1 = whyV v (lowI v) k := by
  unfold f_X2_reasonAgainst f_X2_lowestEmptyMachine
  by_cases c0 : v 13 = -5
  · rw [rea_j (j := 0) (by decide) (by unfold lowI; rw [if_pos c0]) c0, if_neg (emp5 c0), if_neg (show ¬ some ((fun j : Nat => j) 5) = none by simp)]
    by_cases c : nI 10 ≤ f_X2_allPressure v
    · rw [if_pos c, if_pos c, if_pos c0]
      exact rea_run (j := 0) (by decide) hk
    · rw [if_neg c, if_neg c]
  · rw [if_pos (emp_ne.mpr c0)]
    by_cases c1 : v 14 = -5
    · rw [rea_j (j := 1) (by decide) (by unfold lowI; rw [if_neg c0, if_pos c1]) c1, if_neg (emp5 c1), if_neg (show ¬ some ((fun j : Nat => j) 6) = none by simp)]
      by_cases c : nI 10 ≤ f_X2_allPressure v
      · rw [if_pos c, if_pos c, if_neg c0, if_pos c1]
        exact rea_run (j := 1) (by decide) hk
      · rw [if_neg c, if_neg c]
    · rw [if_pos (emp_ne.mpr c1)]
      by_cases c2 : v 15 = -5
      · rw [rea_j (j := 2) (by decide) (by unfold lowI; rw [if_neg c0, if_neg c1, if_pos c2]) c2, if_neg (emp5 c2), if_neg (show ¬ some ((fun j : Nat => j) 7) = none by simp)]
        by_cases c : nI 10 ≤ f_X2_allPressure v
        · rw [if_pos c, if_pos c, if_neg c0, if_neg c1, if_pos c2]
          exact rea_run (j := 2) (by decide) hk
        · rw [if_neg c, if_neg c]
      · rw [if_pos (emp_ne.mpr c2)]
        by_cases c3 : v 16 = -5
        · rw [rea_j (j := 3) (by decide) (by unfold lowI; rw [if_neg c0, if_neg c1, if_neg c2, if_pos c3]) c3, if_neg (emp5 c3), if_neg (show ¬ some ((fun j : Nat => j) 8) = none by simp)]
          by_cases c : nI 10 ≤ f_X2_allPressure v
          · rw [if_pos c, if_pos c, if_neg c0, if_neg c1, if_neg c2, if_pos c3]
            exact rea_run (j := 3) (by decide) hk
          · rw [if_neg c, if_neg c]
        · rw [if_pos (emp_ne.mpr c3)]
          have el : lowI v = -1 := by unfold lowI; rw [if_neg c0, if_neg c1, if_neg c2, if_neg c3]
          rw [el, if_pos rfl]
          unfold whyV
          rw [if_pos (show (-1 : Int32) < 0 by decide)]
/-- in any empty machine it is the same -/
theorem why_any {v : Nat → Int32} {k : Int32} {i : Nat} (hv : InvM v) (hi : i < 4) (he : v (13 + i) = -5) : whyV v (nI i) k = whyV v (lowI v) k := by
  obtain ⟨j, hj, ej, e5⟩ : ∃ j, j < 4 ∧ lowI v = nI j ∧ v (13 + j) = -5 := by
    unfold lowI
    by_cases c0 : v 13 = -5
    · exact ⟨0, by decide, by rw [if_pos c0], c0⟩
    · by_cases c1 : v 14 = -5
      · exact ⟨1, by decide, by rw [if_neg c0, if_pos c1], c1⟩
      · by_cases c2 : v 15 = -5
        · exact ⟨2, by decide, by rw [if_neg c0, if_neg c1, if_pos c2], c2⟩
        · by_cases c3 : v 16 = -5
          · exact ⟨3, by decide, by rw [if_neg c0, if_neg c1, if_neg c2, if_pos c3], c3⟩
          · exfalso
            have h4 : i = 0 ∨ i = 1 ∨ i = 2 ∨ i = 3 := by omega
            rcases h4 with rfl | rfl | rfl | rfl
            · exact c0 he
            · exact c1 he
            · exact c2 he
            · exact c3 he
  have l0 : ∀ m, m < 4 → v (13 + m) = -5 → v (17 + m) = nI 0 := by
    intro m hm hm5
    rcases hv.mi hm with ⟨-, h, -⟩ | ⟨h, -⟩
    · exact h
    · exact absurd hm5 (kd3 h)
  rw [ej]
  unfold whyV
  rw [if_neg (nI_pos (by omega)), if_neg (nI_pos (by omega)), nI_clamp (by omega), nI_clamp (by omega), if_pos he, if_pos e5, wIn_put _ hi hj (he.trans e5.symm) ((l0 i hi he).trans (l0 j hj e5).symm), wIn_put _ hj hj rfl rfl]
