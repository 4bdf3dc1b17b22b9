/-! a step of the model's ticks is a step of the class's -/
def stepM (x : Nat) (M : Nat → Int32) : Nat → Int32 :=
  if (f_X7_passes M (46 * x)) (46 * x + 25) ≤ 0 then f_X7_passes M (46 * x)
  else if (f_X7_why (f_X7_passes M (46 * x)) x (f_X7_lowestEmpty (f_X7_passes M (46 * x)) (46 * x)) ((f_X7_passes M (46 * x)) (46 * x + 26))).1 = 0 then
    f_X7_puts (f_X7_leaves (f_X7_why (f_X7_passes M (46 * x)) x (f_X7_lowestEmpty (f_X7_passes M (46 * x)) (46 * x)) ((f_X7_passes M (46 * x)) (46 * x + 26))).2 (46 * x) 0 ((f_X7_why (f_X7_passes M (46 * x)) x (f_X7_lowestEmpty (f_X7_passes M (46 * x)) (46 * x)) ((f_X7_passes M (46 * x)) (46 * x + 26))).2 (46 * x + 25)).toNatClampNeg).2 (46 * x) (f_X7_lowestEmpty (f_X7_passes M (46 * x)) (46 * x)).toNatClampNeg (f_X7_leaves (f_X7_why (f_X7_passes M (46 * x)) x (f_X7_lowestEmpty (f_X7_passes M (46 * x)) (46 * x)) ((f_X7_passes M (46 * x)) (46 * x + 26))).2 (46 * x) 0 ((f_X7_why (f_X7_passes M (46 * x)) x (f_X7_lowestEmpty (f_X7_passes M (46 * x)) (46 * x)) ((f_X7_passes M (46 * x)) (46 * x + 26))).2 (46 * x + 25)).toNatClampNeg).1
  else (f_X7_why (f_X7_passes M (46 * x)) x (f_X7_lowestEmpty (f_X7_passes M (46 * x)) (46 * x)) ((f_X7_passes M (46 * x)) (46 * x + 26))).2
def stepN (x : Nat) : Nat → (Nat → Int32) → (Nat → Int32)
  | 0, M => M
  | n + 1, M => stepN x n (stepM x M)
theorem ticks_S {x n i : Nat} {p0 : Int32} {M : Nat → Int32} : s_X7_ticks_8 x p0 (n + 1) M i = if p0 ≤ nI i then M else s_X7_ticks_8 x p0 n (stepM x M) (i + 1) := by
  rw [s_X7_ticks_8]
  by_cases c : p0 ≤ nI i
  · rw [if_pos c, if_pos c]
  · rw [if_neg c, if_neg c]
    unfold stepM
    dsimp only
    generalize f_X7_passes M (46 * x) = M1
    by_cases c1 : M1 (46 * x + 25) ≤ 0
    · rw [if_pos c1, if_pos c1]
    · rw [if_neg c1, if_neg c1]
      generalize f_X7_why M1 x (f_X7_lowestEmpty M1 (46 * x)) (M1 (46 * x + 26)) = R
      obtain ⟨r, M2⟩ := R
      dsimp only
      by_cases c2 : r = 0
      · rw [if_pos c2, if_pos c2]
      · rw [if_neg c2, if_neg c2]
theorem ticks_N {x : Nat} {p0 : Int32} : ∀ (n : Nat) (M : Nat → Int32) (i : Nat), i ≤ p0.toNatClampNeg → p0.toNatClampNeg - i < n → s_X7_ticks_8 x p0 n M i = stepN x (p0.toNatClampNeg - i) M
  | 0, M, i, _, hn => absurd hn (Nat.not_lt_zero _)
  | n + 1, M, i, hi, hn => by
    have hz := natBig p0
    rw [ticks_S]
    by_cases c : p0 ≤ nI i
    · rw [if_pos c]
      have e : p0.toNatClampNeg - i = 0 := by
        by_cases h0 : p0 < 0
        · have : p0.toNatClampNeg = p0.toInt.toNat := rfl
          rw [Int32.lt_iff_toInt_lt] at h0
          have : (0 : Int32).toInt = 0 := by decide
          omega
        · rw [natOf h0, nI_leI hz (by omega)] at c
          omega
      rw [e]
      rfl
    · have hg := ltNat c (by omega)
      rw [if_neg c, ticks_N n _ (i + 1) hg (by omega)]
      obtain ⟨t, ht⟩ : ∃ t, p0.toNatClampNeg - i = t + 1 := ⟨p0.toNatClampNeg - i - 1, by omega⟩
      rw [ht, show p0.toNatClampNeg - (i + 1) = t by omega]
      rfl
theorem ticks_eqN {x : Nat} {p0 : Int32} {M : Nat → Int32} : f_X7_ticks M x p0 = stepN x p0.toNatClampNeg M := by
  unfold f_X7_ticks
  rw [ticks_N _ M 0 (Nat.zero_le _) (by omega), Nat.sub_zero]
theorem kind0 {n : Nat} {q : Nat → Int32} (hn : n ≤ 12) : f_X5_kindAt (nI n) q (nI 0) = if n = 0 then -5 else q 0 := by
  unfold f_X5_kindAt
  rw [if_neg (show ¬ nI 0 < 0 by decide)]
  by_cases c : n = 0
  · rw [if_pos (by rw [c]; exact Int32.le_refl _), if_pos c]
  · rw [if_neg (fun z => c (by have := (nI_leI (by omega) (by omega)).mp z; omega)), if_neg (show ¬ nI 12 ≤ nI 0 by decide), if_neg c]
    rfl
theorem remove0 {n : Nat} {q : Nat → Int32} (hn : n ≤ 12) (h0 : 0 < n) : f_X5_remove (nI n) q (nI 0) = (q 0, nI n - nI 1, (s_X5_remove_24 13 (nI n) q (q 0) 1).2.2) := by
  unfold f_X5_remove
  rw [if_neg (show ¬ nI 0 < 0 by decide), if_pos ((nI_ltI (by omega) (by omega)).mpr h0)]
  have e : f_X5_kindAt (nI n) q (nI (nI 0).toNatClampNeg) = q 0 := by
    rw [show nI (nI 0).toNatClampNeg = nI 0 from rfl, kind0 hn, if_neg (by omega)]
  rw [e]
  show s_X5_remove_24 13 (nI n) q (q 0) 1 = _
  have h := leaves_rm (M0 := fun k => enc (fun _ => nI n) q k) (b := 0) (v := fun _ => nI n) (kd := q 0) rfl hn 13 (fun k => enc (fun _ => nI n) q k) q 0 ⟨fun j hj => by rw [Nat.zero_add], fun _ _ => rfl⟩ h0 (by omega)
  obtain ⟨-, g2, g3, -, -⟩ := h
  refine Prod.ext g2 (Prod.ext g3 rfl)
/-- the class's step: the laundry, the line (and what was tried) -/
theorem pass_at {M0 M : Nat → Int32} {x : Nat} {v q : Nat → Int32} (ov oq : Nat → Int32) (hx : x ≤ 6) (hA : At M (46 * x) v q) (hL : InvL v q) : At (stepM x M) (46 * x) (f_X2_passTick v q ov oq).1 (f_X2_passTick v q ov oq).2.1 ∧ InvL (f_X2_passTick v q ov oq).1 (f_X2_passTick v q ov oq).2.1 ∧ ∀ j, (j < 46 * x ∨ 46 * x + 46 ≤ j) → (j < 322 ∨ 322 + 46 ≤ j) → stepM x M j = M j := by
  have hB := passes_at (M0 := M) ⟨hA, Fr_rf⟩ hL.1.1
  have hL1 := hL.tick
  have e1 : f_X2_workTick v = ((f_X2_workTick v).1, (f_X2_workTick v).2) := rfl
  unfold f_X2_passTick
  rw [e1]
  dsimp only
  unfold stepM
  generalize (f_X2_workTick v).2 = v1 at hB hL1 ⊢
  generalize f_X7_passes M (46 * x) = M1 at hB ⊢
  obtain ⟨hA1, hF1⟩ := hB
  have hks := hL1.1.1.1
  obtain ⟨n, n12, hn, hq⟩ := hL1.2
  have e25 : M1 (46 * x + 25) = nI n := hA1.p25.trans hn
  have e26 : M1 (46 * x + 26) = q 0 := hA1.p26
  rw [hn, kind0 n12, e25]
  by_cases c0 : n = 0
  · have a1 : nI n ≤ 0 := by rw [c0]; exact Int32.le_refl _
    rw [if_pos c0, if_pos rfl, if_pos a1]
    exact ⟨hA1, hL1, fun j h1 _ => hF1 j h1⟩
  · have c1 : ¬ nI n ≤ 0 := fun z => by have := (nI_leI (by omega) (by omega)).mp (show nI n ≤ nI 0 from z); omega
    have hk := hq 0 (by omega)
    rw [if_neg c0, if_neg (kd3 hk), if_neg c1, low_at hA1 hks, e26]
    obtain ⟨g1, g2⟩ := why_at hx hA1 hL1.1 (lowI_lt v1) hk
    have r1 := rea_at (v := v1) (q := q) (ov := ov) (oq := oq) hk
    rw [g1]
    generalize hR : f_X7_why M1 x (lowI v1) (q 0) = R at g1 g2 ⊢
    obtain ⟨r, M2⟩ := R
    dsimp only at g1 g2 ⊢
    have hA2 : At M2 (46 * x) v1 q := hA1.fr (fun j h1 h2 => g2 j (by omega))
    generalize hS : f_X2_reasonAgainst v1 q ov oq (q 0) = S at r1 ⊢
    obtain ⟨rr, ov4, oq4⟩ := S
    dsimp only at r1 ⊢
    rw [r1]
    by_cases c2 : whyV v1 (lowI v1) (q 0) = 0
    · have hnn := whyV_nn c2
      have hemp := whyV_emp c2
      have hlt := natLt hnn (ltOf (lowI_lt v1)) (by decide)
      have e25b : M2 (46 * x + 25) = nI n := hA2.p25.trans hn
      rw [if_pos c2, if_pos c2, e25b, nI_clamp (by omega), remove0 n12 (by omega)]
      generalize hV : f_X7_leaves M2 (46 * x) 0 n = V at ⊢
      obtain ⟨r3, M3⟩ := V
      obtain ⟨s1, s2, s3⟩ := step_at (M0 := M2) ⟨hA2, Fr_rf⟩ hL1 hn (by omega) (by omega) hlt hV
      dsimp only
      have fin : ∀ j, (j < 46 * x ∨ 46 * x + 46 ≤ j) → (j < 322 ∨ 322 + 46 ≤ j) → f_X7_puts M3 (46 * x) (lowI v1).toNatClampNeg r3 j = M j := fun j h1 h2 => ((s2.2 j h1).trans (g2 j h2)).trans (hF1 j h1)
      unfold lowI at s2 s3 fin ⊢
      by_cases c10 : v1 13 = -5
      · simp only [if_pos c10] at s2 s3 fin ⊢
        exact ⟨s2.1, s3, fin⟩
      · skip
        by_cases c11 : v1 14 = -5
        · simp only [if_neg c10, if_pos c11] at s2 s3 fin ⊢
          exact ⟨s2.1, s3, fin⟩
        · skip
          by_cases c12 : v1 15 = -5
          · simp only [if_neg c10, if_neg c11, if_pos c12] at s2 s3 fin ⊢
            exact ⟨s2.1, s3, fin⟩
          · skip
            by_cases c13 : v1 16 = -5
            · simp only [if_neg c10, if_neg c11, if_neg c12, if_pos c13] at s2 s3 fin ⊢
              exact ⟨s2.1, s3, fin⟩
            · exfalso
              apply hnn
              unfold lowI
              rw [if_neg c10, if_neg c11, if_neg c12, if_neg c13]
              decide
    · rw [if_neg c2, if_neg c2]
      exact ⟨hA2, hL1, fun j h1 h2 => (g2 j h2).trans (hF1 j h1)⟩
def passN : Nat → (Nat → Int32) → (Nat → Int32) → (Nat → Int32) → (Nat → Int32) → (Nat → Int32) × (Nat → Int32) × (Nat → Int32) × (Nat → Int32)
  | 0, v, q, ov, oq => (v, q, ov, oq)
  | n + 1, v, q, ov, oq => passN n (f_X2_passTick v q ov oq).1 (f_X2_passTick v q ov oq).2.1 (f_X2_passTick v q ov oq).2.2.1 (f_X2_passTick v q ov oq).2.2.2
theorem passN_at {x : Nat} (hx : x ≤ 6) : ∀ (n : Nat) (M v q ov oq : Nat → Int32), At M (46 * x) v q → InvL v q → At (stepN x n M) (46 * x) (passN n v q ov oq).1 (passN n v q ov oq).2.1 ∧ InvL (passN n v q ov oq).1 (passN n v q ov oq).2.1 ∧ ∀ j, (j < 46 * x ∨ 46 * x + 46 ≤ j) → (j < 322 ∨ 322 + 46 ≤ j) → stepN x n M j = M j
  | 0, M, v, q, ov, oq, hA, hL => ⟨hA, hL, fun _ _ _ => rfl⟩
  | n + 1, M, v, q, ov, oq, hA, hL => by
    obtain ⟨g1, g2, g3⟩ := pass_at (M0 := M) ov oq hx hA hL
    obtain ⟨h1, h2, h3⟩ := passN_at hx n (stepM x M) _ _ (f_X2_passTick v q ov oq).2.2.1 (f_X2_passTick v q ov oq).2.2.2 g1 g2
    exact ⟨h1, h2, fun j a b => (h3 j a b).trans (g3 j a b)⟩
theorem TickOK.ticks {M : Nat → Int32} {x : Nat} (p0 : Int32) (hx : x ≤ 6) (h : TickOK M x) : TickOK (f_X7_ticks M x p0) x := by
  obtain ⟨v, q, hA, hL⟩ := h
  obtain ⟨g1, g2, -⟩ := passN_at hx p0.toNatClampNeg M v q v q hA hL
  rw [ticks_eqN]
  exact ⟨_, _, g1, g2⟩
