/-! the line -/
theorem AtF.lineU {M0 M : Nat → Int32} {b : Nat} {v q : Nat → Int32} (h : AtF M0 M b v q) {j : Nat} (hj : j < 12) (x : Int32) : AtF M0 (upd M (b + 26 + j) x) b v (upd q j x) := by
  refine ⟨fun i hi => ?_, Fr_upd h.2 (by omega)⟩
  by_cases e : i = 26 + j
  · subst e
    rw [show b + (26 + j) = b + 26 + j by omega, pk_us]
    unfold enc
    rw [if_neg (by omega), if_pos (by omega), show 26 + j - 26 = j by omega, pk_us]
  · rw [pk_un (by omega), h.1 i hi]
    unfold enc
    by_cases h1 : 13 ≤ i ∧ i < 17
    · rw [if_pos h1, if_pos h1]
    · rw [if_neg h1, if_neg h1]
      by_cases h2 : 26 ≤ i ∧ i < 38
      · rw [if_pos h2, if_pos h2, pk_un (by omega)]
      · rw [if_neg h2, if_neg h2]
theorem AtF.plainU {M0 M : Nat → Int32} {b : Nat} {v q : Nat → Int32} (h : AtF M0 M b v q) {j : Nat} (hj : j < 13 ∨ (17 ≤ j ∧ j < 26) ∨ (38 ≤ j ∧ j < 46)) (x : Int32) : AtF M0 (upd M (b + j) x) b (upd v j x) q := by
  refine ⟨fun i hi => ?_, Fr_upd h.2 (by omega)⟩
  by_cases e : i = j
  · subst e
    rw [pk_us]
    unfold enc
    rw [if_neg (by omega), if_neg (by omega), pk_us]
  · rw [pk_un (by omega), h.1 i hi]
    unfold enc
    rw [pk_un e]
theorem At.fr {M M' : Nat → Int32} {b : Nat} {v q : Nat → Int32} (h : At M b v q) (hf : ∀ j, b ≤ j → j < b + 46 → M' j = M j) : At M' b v q := by
  intro j hj
  rw [hf _ (by omega) (by omega)]
  exact h j hj
def K3 (x : Int32) : Prop := x = 0 ∨ x = 1 ∨ x = 2
theorem leaves_rm {M0 : Nat → Int32} {b n : Nat} {v : Nat → Int32} {kd : Int32} (hv : v 25 = nI n) (hn : n ≤ 12) : ∀ (F : Nat) (M q : Nat → Int32) (j : Nat), AtF M0 M b v q → j < n → n - (j + 1) < F →
    (s_X7_leaves_15 b n F M kd j).1 = kd ∧ (s_X5_remove_24 F (nI n) q kd (j + 1)).1 = kd ∧ (s_X5_remove_24 F (nI n) q kd (j + 1)).2.1 = nI n - nI 1 ∧ AtF M0 (s_X7_leaves_15 b n F M kd j).2 b (upd v 25 (nI n - nI 1)) (s_X5_remove_24 F (nI n) q kd (j + 1)).2.2 ∧ ((∀ m, m < n → K3 (q m)) → ∀ m, m < n → K3 ((s_X5_remove_24 F (nI n) q kd (j + 1)).2.2 m))
  | 0, M, q, j, _, _, hF => absurd hF (Nat.not_lt_zero _)
  | F + 1, M, q, j, h, hj, hF => by
    rw [s_X7_leaves_15, s_X5_remove_24]
    by_cases c : n ≤ j + 1
    · have c2 : nI n ≤ nI (j + 1) := (nI_leI (by omega) (by omega)).mpr c
      rw [if_pos c2, if_pos c2]
      refine ⟨rfl, rfl, rfl, ?_, fun hq => hq⟩
      have e : M (b + 25) = nI n := (h.1.p25).trans hv
      rw [e]
      exact h.plainU (by omega) _
    · have c2 : ¬ nI n ≤ nI (j + 1) := fun z => c ((nI_leI (by omega) (by omega)).mp z)
      have c3 : ¬ nI 12 ≤ nI (j + 1) := fun z => by have := (nI_leI (by omega) (by omega)).mp z; omega
      rw [if_neg c2, if_neg c2, if_neg c3]
      have e : M (b + 26 + j + 1) = q (j + 1) := h.1.lineP (j := j + 1) (by omega) (by omega)
      rw [e, show j + 1 - 1 = j by omega]
      obtain ⟨g1, g2, g3, g4, g5⟩ := leaves_rm hv hn F _ _ (j + 1) (h.lineU (j := j) (by omega) (q (j + 1))) (by omega) (by omega)
      refine ⟨g1, g2, g3, g4, fun hq => g5 (fun m hm => ?_)⟩
      by_cases em : m = j
      · subst em
        rw [pk_us]
        exact hq _ (by omega)
      · rw [pk_un em]
        exact hq m hm
/-- a laundry whose numbers and line are in their ranges -/
def InvL (v q : Nat → Int32) : Prop := InvW v ∧ ∃ n, n ≤ 12 ∧ v 25 = nI n ∧ ∀ j, j < n → K3 (q j)
theorem tick_25 (v : Nat → Int32) : (f_X2_workTick v).2 25 = v 25 := by
  rw [tick_eq]
  by_cases c : f_X2_need (preW v) ≤ f_X2_allPressure (preW v)
  · rw [if_pos c]
    dsimp only
    rw [coolC_keep _ (by decide), wl_keep _ (by decide) (by decide) (by decide), takeS_keep _ (by decide) (by decide), preW_keep _ (by decide) (by decide) (by decide) (by decide)]
  · rw [if_neg c]
    dsimp only
    rw [coolC_keep _ (by decide), hl_keep _ (by decide) (by decide) (by decide), preW_keep _ (by decide) (by decide) (by decide) (by decide)]
theorem InvL.tick {v q : Nat → Int32} (h : InvL v q) : InvL (f_X2_workTick v).2 q := by
  obtain ⟨h1, n, n12, hn, hq⟩ := h
  exact ⟨h1.tick, n, n12, (tick_25 v).trans hn, hq⟩
theorem InvW.of25 {v : Nat → Int32} (h : InvW v) (x : Int32) : InvW (upd v 25 x) := by
  refine ⟨h.1.of ?_ rfl rfl rfl rfl rfl rfl, ?_⟩
  · exact h.1.1
  · exact ⟨h.2.1.of rfl rfl rfl, h.2.2.1.of rfl rfl rfl, h.2.2.2.1.of rfl rfl rfl, h.2.2.2.2.of rfl rfl rfl⟩
def TickOK (M : Nat → Int32) (x : Nat) : Prop := ∃ v q, At M (46 * x) v q ∧ InvL v q
theorem TickOK.pass {M : Nat → Int32} {x : Nat} (h : TickOK M x) : TickOK (f_X7_passes M (46 * x)) x := by
  obtain ⟨v, q, hA, hv⟩ := h
  exact ⟨_, q, (passes_at (M0 := M) ⟨hA, Fr_rf⟩ hv.1.1).1, hv.tick⟩
theorem InvL.len {M : Nat → Int32} {x : Nat} {v q : Nat → Int32} (hA : At M (46 * x) v q) (hv : InvL v q) : M (46 * x + 25) = nI (M (46 * x + 25)).toNatClampNeg ∧ (M (46 * x + 25)).toNatClampNeg ≤ 12 ∧ v 25 = nI (M (46 * x + 25)).toNatClampNeg := by
  obtain ⟨-, n, n12, hn, -⟩ := hv
  have e : M (46 * x + 25) = nI n := hA.p25.trans hn
  rw [e, nI_clamp (by omega)]
  exact ⟨rfl, n12, hn⟩
theorem nle0 {n : Nat} (h : ¬ nI n ≤ 0) : 0 < n := by
  rcases Nat.eq_zero_or_pos n with rfl | h2
  · exact absurd (Int32.le_refl 0) h
  · exact h2
theorem InvL.pos {M M2 : Nat → Int32} {x : Nat} {v q : Nat → Int32} (hA : At M (46 * x) v q) (hA2 : At M2 (46 * x) v q) (hv : InvL v q) (c : ¬ M (46 * x + 25) ≤ 0) : 0 < (M2 (46 * x + 25)).toNatClampNeg := by
  obtain ⟨-, n, n12, hn, -⟩ := hv
  have e : M (46 * x + 25) = nI n := hA.p25.trans hn
  have e2 : M2 (46 * x + 25) = nI n := hA2.p25.trans hn
  rw [e] at c
  rw [e2, nI_clamp (by omega)]
  exact nle0 c
theorem InvL.head {M : Nat → Int32} {x : Nat} {v q : Nat → Int32} (hA : At M (46 * x) v q) (hv : InvL v q) (c : ¬ M (46 * x + 25) ≤ 0) : M (46 * x + 26) = 0 ∨ M (46 * x + 26) = 1 ∨ M (46 * x + 26) = 2 := by
  have h0 := InvL.pos hA hA hv c
  obtain ⟨-, h12, hl⟩ := InvL.len hA hv
  obtain ⟨-, n, n12, hn, hq⟩ := hv
  rw [hn, nI_eq (by omega) (by omega)] at hl
  rw [show M (46 * x + 26) = q 0 from hA.p26]
  exact hq 0 (by omega)
theorem whyV_nn {v : Nat → Int32} {p0 k : Int32} (h : whyV v p0 k = 0) : ¬ p0 < 0 := by
  intro c
  unfold whyV at h
  rw [if_pos c] at h
  exact absurd h (by decide)
theorem whyV_emp {v : Nat → Int32} {p0 k : Int32} (h : whyV v p0 k = 0) : v (13 + p0.toNatClampNeg) = -5 := by
  have c := whyV_nn h
  unfold whyV at h
  rw [if_neg c] at h
  by_cases c1 : v (13 + p0.toNatClampNeg) = -5
  · exact c1
  · rw [if_neg c1] at h
    exact absurd h (by decide)
theorem why_keep {M M' : Nat → Int32} {x : Nat} {v q : Nat → Int32} {p0 k r : Int32} (hx : x ≤ 6) (hA : At M (46 * x) v q) (hv : InvW v) (hm : p0 < nI 4) (hk : k = 0 ∨ k = 1 ∨ k = 2) (hw : f_X7_why M x p0 k = (r, M')) : At M' (46 * x) v q ∧ r = whyV v p0 k ∧ ∀ j, (j < 322 ∨ 322 + 46 ≤ j) → M' j = M j := by
  obtain ⟨g1, g2⟩ := why_at hx hA hv hm hk
  rw [hw] at g1 g2
  exact ⟨hA.fr (fun j h1 h2 => g2 j (by omega)), g1, g2⟩
theorem leaves_at {M0 M M3 : Nat → Int32} {b n : Nat} {v q : Nat → Int32} {r : Int32} (h : AtF M0 M b v q) (hv : v 25 = nI n) (hn : n ≤ 12) (h0 : 0 < n) (hw : f_X7_leaves M b 0 n = (r, M3)) : r = q 0 ∧ AtF M0 M3 b (upd v 25 (nI n - nI 1)) (s_X5_remove_24 13 (nI n) q (q 0) 1).2.2 ∧ ((∀ m, m < n → K3 (q m)) → ∀ m, m < n → K3 ((s_X5_remove_24 13 (nI n) q (q 0) 1).2.2 m)) := by
  have e0 : M (b + 26 + 0) = q 0 := h.1.lineP (j := 0) (by decide) rfl
  unfold f_X7_leaves at hw
  rw [e0] at hw
  obtain ⟨g1, -, -, g4, g5⟩ := leaves_rm (kd := q 0) hv hn 13 M q 0 h h0 (by omega)
  rw [hw] at g1 g4
  exact ⟨g1, g4, g5⟩
theorem step_at {M0 M2 M3 : Nat → Int32} {b n i : Nat} {v q : Nat → Int32} {r : Int32} (h : AtF M0 M2 b v q) (hL : InvL v q) (hv : v 25 = nI n) (hn31 : n < 2 ^ 31) (h0 : 0 < n) (hi : i < 4) (hw : f_X7_leaves M2 b 0 n = (r, M3)) : r = q 0 ∧ AtF M0 (f_X7_puts M3 b i r) b (putM (upd v 25 (nI n - nI 1)) i (q 0)) (s_X5_remove_24 13 (nI n) q (q 0) 1).2.2 ∧ InvL (putM (upd v 25 (nI n - nI 1)) i (q 0)) (s_X5_remove_24 13 (nI n) q (q 0) 1).2.2 := by
  obtain ⟨hW, n', n12, hn', hq⟩ := hL
  rw [hv, nI_eq hn31 (by omega)] at hn'
  subst hn'
  obtain ⟨g1, g2, g3⟩ := leaves_at h hv n12 h0 hw
  have hk := hq 0 h0
  subst g1
  refine ⟨rfl, puts_at g2 hi hk, (hW.of25 _).put hi hk, n - 1, by omega, ?_, fun j hj => g3 hq j (by omega)⟩
  unfold putM
  rw [pk_un (by omega), pk_un (by omega), pk_un (by omega), pk_un (by omega), pk_us, pk_sub h0]
theorem TickOK.fin {M2 M3 : Nat → Int32} {x i : Nat} {v q : Nat → Int32} {r : Int32} (hA : At M2 (46 * x) v q) (hL : InvL v q) (h0 : 0 < (M2 (46 * x + 25)).toNatClampNeg) (hi : i < 4) (hw : f_X7_leaves M2 (46 * x) 0 (M2 (46 * x + 25)).toNatClampNeg = (r, M3)) : TickOK (f_X7_puts M3 (46 * x) i r) x := by
  obtain ⟨-, -, hl⟩ := InvL.len hA hL
  obtain ⟨-, g2, g3⟩ := step_at (M0 := M2) ⟨hA, Fr_rf⟩ hL hl (natBig _) h0 hi hw
  exact ⟨_, _, g2.1, g3⟩
