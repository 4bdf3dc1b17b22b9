/-! a tick keeps it all -/
theorem take_ok {N : Nat} (hN : N ≤ 1000) : ∀ (n : Nat) (v : Nat → Int32) (i : Nat), i ≤ N → N - i < n → 0 ≤ (v 4).toInt → 0 ≤ (v 5).toInt → (v 4).toInt ≤ 1000 → (v 5).toInt ≤ 1000 → (N : Int) - i ≤ (v 4).toInt + (v 5).toInt → (0 ≤ (s_X2_takeSteam_2 (nI N) n v i 4).toInt ∧ (s_X2_takeSteam_2 (nI N) n v i 4).toInt ≤ (v 4).toInt) ∧ (0 ≤ (s_X2_takeSteam_2 (nI N) n v i 5).toInt ∧ (s_X2_takeSteam_2 (nI N) n v i 5).toInt ≤ (v 5).toInt)
  | 0, v, i, hi, hn, _, _, _, _, _ => absurd hn (Nat.not_lt_zero _)
  | n + 1, v, i, hi, hn, h4, h5, k4, k5, hs => by
    rw [s_X2_takeSteam_2]
    by_cases c : nI N ≤ nI i
    · rw [if_pos c]
      exact ⟨⟨h4, Int.le_refl _⟩, ⟨h5, Int.le_refl _⟩⟩
    · rw [if_neg c]
      rw [nI_leI (by omega) (by omega)] at c
      by_cases c2 : v 5 ≤ v 4
      · rw [if_pos c2]
        rw [tL] at c2
        have e : (v 4 - nI 1).toInt = (v 4).toInt - 1 := by rw [tS (by rw [tn1]; omega) (by rw [tn1]; omega), tn1]
        have e4 : upd v 4 (v 4 - nI 1) 4 = v 4 - nI 1 := pk_us
        have e5 : upd v 4 (v 4 - nI 1) 5 = v 5 := pk_un (by decide)
        have h := take_ok hN n (upd v 4 (v 4 - nI 1)) (i + 1) (by omega) (by omega) (by rw [e4, e]; omega) (by rw [e5]; exact h5) (by rw [e4, e]; omega) (by rw [e5]; exact k5) (by rw [e4, e5, e]; omega)
        rw [e4, e5, e] at h
        exact ⟨⟨h.1.1, by have := h.1.2; omega⟩, h.2⟩
      · rw [if_neg c2]
        rw [tL] at c2
        have e : (v 5 - nI 1).toInt = (v 5).toInt - 1 := by rw [tS (by rw [tn1]; omega) (by rw [tn1]; omega), tn1]
        have e4 : upd v 5 (v 5 - nI 1) 4 = v 4 := pk_un (by decide)
        have e5 : upd v 5 (v 5 - nI 1) 5 = v 5 - nI 1 := pk_us
        have h := take_ok hN n (upd v 5 (v 5 - nI 1)) (i + 1) (by omega) (by omega) (by rw [e4]; exact h4) (by rw [e5, e]; omega) (by rw [e4]; exact k4) (by rw [e5, e]; omega) (by rw [e4, e5, e]; omega)
        rw [e4, e5, e] at h
        exact ⟨h.1, ⟨h.2.1, by have := h.2.2; omega⟩⟩
theorem ap_t {v : Nat → Int32} (h4 : 0 ≤ (v 4).toInt ∧ (v 4).toInt ≤ 1000) (h5 : 0 ≤ (v 5).toInt ∧ (v 5).toInt ≤ 1000) : (f_X2_allPressure v).toInt = (v 4).toInt + (v 5).toInt := by
  unfold f_X2_allPressure
  rw [nI0, Int32.zero_add]
  exact tA (by omega) (by omega)
theorem need_n {v : Nat → Int32} (h : MO4 v) : ∃ N, N ≤ 24 ∧ f_X2_need v = nI N := by
  obtain ⟨s0, a0, b0, -⟩ := steam_s h.1.kd
  obtain ⟨s1, a1, b1, -⟩ := steam_s h.2.1.kd
  obtain ⟨s2, a2, b2, -⟩ := steam_s h.2.2.1.kd
  obtain ⟨s3, a3, b3, -⟩ := steam_s h.2.2.2.kd
  exact ⟨s0 + s1 + s2 + s3, by omega, by rw [need_sum, b0, b1, b2, b3, nI_add, nI_add, nI_add]⟩
theorem take_fvt {w t : Int} {v : Nat → Int32} (h : Fvt w t v) (c : f_X2_need v ≤ f_X2_allPressure v) : Fvt w t (f_X2_takeSteam v (f_X2_need v)) := by
  obtain ⟨⟨hb0, hb1⟩, hM, hC, hS, hW, hU, h12, ht⟩ := h
  obtain ⟨N, hN, e⟩ := need_n hM
  have h4 := hb0.2.2.1
  have h5 := hb1.2.2.1
  rw [e] at c ⊢
  rw [tL, ap_t (by omega) (by omega), nI_toInt (by omega)] at c
  have K := fun j (h4 : j ≠ 4) (h5 : j ≠ 5) => takeS_keep (p0 := nI N) (j := j) v h4 h5
  have hz : (nI N).toNatClampNeg = N := nI_clamp (by omega)
  have T := take_ok (N := N) (by omega) ((nI N).toNatClampNeg + 1) v 0 (by omega) (by omega) (by omega) (by omega) (by omega) (by omega) (by omega)
  have T : (0 ≤ (f_X2_takeSteam v (nI N) 4).toInt ∧ (f_X2_takeSteam v (nI N) 4).toInt ≤ (v 4).toInt) ∧ (0 ≤ (f_X2_takeSteam v (nI N) 5).toInt ∧ (f_X2_takeSteam v (nI N) 5).toInt ≤ (v 5).toInt) := T
  generalize f_X2_takeSteam v (nI N) = u at K T ⊢
  refine ⟨⟨?_, ?_⟩, hM.of (fun j h1 h2 => K j (by omega) (by omega)), hC.of (K 10 (by decide) (by decide)) (K 11 (by decide) (by decide)) (K 38 (by decide) (by decide)) (K 39 (by decide) (by decide)), hS.of (fun j h1 h2 => K j (by omega) (by omega)) (K 40 (by decide) (by decide)) (K 41 (by decide) (by decide)) (K 42 (by decide) (by decide)) (K 43 (by decide) (by decide)), hW.of (K 41 (by decide) (by decide)) (K 44 (by decide) (by decide)), hU.of (K 38 (by decide) (by decide)), by rw [K 12 (by decide) (by decide)]; exact h12, ht⟩
  · rw [K 0 (by decide) (by decide), K 2 (by decide) (by decide), K 6 (by decide) (by decide), K 8 (by decide) (by decide)]
    exact ⟨hb0.1, hb0.2.1, ⟨T.1.1, by have := T.1.2; omega⟩, hb0.2.2.2⟩
  · rw [K 1 (by decide) (by decide), K 3 (by decide) (by decide), K 7 (by decide) (by decide), K 9 (by decide) (by decide)]
    exact ⟨hb1.1, hb1.2.1, ⟨T.2.1, by have := T.2.2; omega⟩, hb1.2.2.2⟩
theorem acc4 {x0 x1 x2 x3 x4 a0 a1 a2 a3 b0 b1 b2 b3 : Int32} (e0 : x1 + b0 = x0 + a0) (e1 : x2 + b1 = x1 + a1) (e2 : x3 + b2 = x2 + a2) (e3 : x4 + b3 = x3 + a3) : x4 + (b0 + b1 + b2 + b3) = x0 + (a0 + a1 + a2 + a3) := by
  have h1 : x4 + (b0 + b1 + b2 + b3) = (x4 + b3) + (b0 + b1 + b2) := by ac_rfl
  have h2 : (x3 + a3) + (b0 + b1 + b2) = (x3 + b2) + (b0 + b1) + a3 := by ac_rfl
  have h3 : (x2 + a2) + (b0 + b1) + a3 = (x2 + b1) + b0 + a2 + a3 := by ac_rfl
  have h4 : (x1 + a1) + b0 + a2 + a3 = (x1 + b0) + a1 + a2 + a3 := by ac_rfl
  have h5 : (x0 + a0) + a1 + a2 + a3 = x0 + (a0 + a1 + a2 + a3) := by ac_rfl
  rw [h1, e3, h2, e2, h3, e1, h4, e0, h5]
theorem lds4 (a b c d : Nat) : nI (a + b + c + d) = nI a + nI b + nI c + nI d := by rw [nI_add, nI_add, nI_add]
theorem ld_5 : ld (-5) = 0 := rfl
theorem ld_k {x : Int32} (h : ¬ x = -5) : ld x = 1 := by
  unfold ld
  rw [if_neg h]
theorem wm0_acc {w : Int} {v : Nat → Int32} (h : MO (v 13) (v 17) (v 21)) (hW : WO w v) (hw : w ≤ 100000000) : wm0 v 41 + nI (ld (wm0 v 13)) = v 41 + nI (ld (v 13)) ∧ WO (w + 1) (wm0 v) := by
  obtain ⟨⟨h1, h2⟩, h3, h4⟩ := hW
  have same : WO (w + 1) v := ⟨⟨h1, by omega⟩, h3, h4⟩
  unfold wm0
  by_cases c : v 13 = -5
  · rw [if_pos c]
    exact ⟨rfl, same⟩
  · rw [if_neg c]
    by_cases c2 : v 17 - nI 1 = 0
    · rw [if_pos c2]
      have hk := wo_rng (h.k3 c)
      have e1 : (v 41 + nI 1).toInt = (v 41).toInt + 1 := by rw [tA (by rw [tn1]; omega) (by rw [tn1]; omega), tn1]
      have e2 : (v 44 + f_X6_worthOf (v 13)).toInt = (v 44).toInt + (f_X6_worthOf (v 13)).toInt := tA (by omega) (by omega)
      refine ⟨?_, ?_⟩
      · show v 41 + nI 1 + nI (ld (-5)) = v 41 + nI (ld (v 13))
        rw [ld_5, ld_k c, add0]
      · show (0 ≤ (v 41 + nI 1).toInt ∧ (v 41 + nI 1).toInt ≤ w + 1) ∧ 3 * (v 41 + nI 1).toInt ≤ (v 44 + f_X6_worthOf (v 13)).toInt ∧ (v 44 + f_X6_worthOf (v 13)).toInt ≤ 9 * (v 41 + nI 1).toInt
        rw [e1, e2]
        omega
    · rw [if_neg c2]
      exact ⟨rfl, same⟩
theorem hm0_acc {v : Nat → Int32} : hm0 v 42 + nI (ld (hm0 v 13)) = v 42 + nI (ld (v 13)) := by
  unfold hm0
  by_cases c : v 13 = -5
  · rw [if_pos c]
  · rw [if_neg c]
    by_cases c2 : v 21 + nI 1 = nI 3
    · rw [if_pos c2]
      show v 42 + nI 1 + nI (ld (-5)) = v 42 + nI (ld (v 13))
      rw [ld_5, ld_k c, add0]
    · rw [if_neg c2]
      rfl
theorem wm1_acc {w : Int} {v : Nat → Int32} (h : MO (v 14) (v 18) (v 22)) (hW : WO w v) (hw : w ≤ 100000000) : wm1 v 41 + nI (ld (wm1 v 14)) = v 41 + nI (ld (v 14)) ∧ WO (w + 1) (wm1 v) := by
  obtain ⟨⟨h1, h2⟩, h3, h4⟩ := hW
  have same : WO (w + 1) v := ⟨⟨h1, by omega⟩, h3, h4⟩
  unfold wm1
  by_cases c : v 14 = -5
  · rw [if_pos c]
    exact ⟨rfl, same⟩
  · rw [if_neg c]
    by_cases c2 : v 18 - nI 1 = 0
    · rw [if_pos c2]
      have hk := wo_rng (h.k3 c)
      have e1 : (v 41 + nI 1).toInt = (v 41).toInt + 1 := by rw [tA (by rw [tn1]; omega) (by rw [tn1]; omega), tn1]
      have e2 : (v 44 + f_X6_worthOf (v 14)).toInt = (v 44).toInt + (f_X6_worthOf (v 14)).toInt := tA (by omega) (by omega)
      refine ⟨?_, ?_⟩
      · show v 41 + nI 1 + nI (ld (-5)) = v 41 + nI (ld (v 14))
        rw [ld_5, ld_k c, add0]
      · show (0 ≤ (v 41 + nI 1).toInt ∧ (v 41 + nI 1).toInt ≤ w + 1) ∧ 3 * (v 41 + nI 1).toInt ≤ (v 44 + f_X6_worthOf (v 14)).toInt ∧ (v 44 + f_X6_worthOf (v 14)).toInt ≤ 9 * (v 41 + nI 1).toInt
        rw [e1, e2]
        omega
    · rw [if_neg c2]
      exact ⟨rfl, same⟩
theorem hm1_acc {v : Nat → Int32} : hm1 v 42 + nI (ld (hm1 v 14)) = v 42 + nI (ld (v 14)) := by
  unfold hm1
  by_cases c : v 14 = -5
  · rw [if_pos c]
  · rw [if_neg c]
    by_cases c2 : v 22 + nI 1 = nI 3
    · rw [if_pos c2]
      show v 42 + nI 1 + nI (ld (-5)) = v 42 + nI (ld (v 14))
      rw [ld_5, ld_k c, add0]
    · rw [if_neg c2]
      rfl
theorem wm2_acc {w : Int} {v : Nat → Int32} (h : MO (v 15) (v 19) (v 23)) (hW : WO w v) (hw : w ≤ 100000000) : wm2 v 41 + nI (ld (wm2 v 15)) = v 41 + nI (ld (v 15)) ∧ WO (w + 1) (wm2 v) := by
  obtain ⟨⟨h1, h2⟩, h3, h4⟩ := hW
  have same : WO (w + 1) v := ⟨⟨h1, by omega⟩, h3, h4⟩
  unfold wm2
  by_cases c : v 15 = -5
  · rw [if_pos c]
    exact ⟨rfl, same⟩
  · rw [if_neg c]
    by_cases c2 : v 19 - nI 1 = 0
    · rw [if_pos c2]
      have hk := wo_rng (h.k3 c)
      have e1 : (v 41 + nI 1).toInt = (v 41).toInt + 1 := by rw [tA (by rw [tn1]; omega) (by rw [tn1]; omega), tn1]
      have e2 : (v 44 + f_X6_worthOf (v 15)).toInt = (v 44).toInt + (f_X6_worthOf (v 15)).toInt := tA (by omega) (by omega)
      refine ⟨?_, ?_⟩
      · show v 41 + nI 1 + nI (ld (-5)) = v 41 + nI (ld (v 15))
        rw [ld_5, ld_k c, add0]
      · show (0 ≤ (v 41 + nI 1).toInt ∧ (v 41 + nI 1).toInt ≤ w + 1) ∧ 3 * (v 41 + nI 1).toInt ≤ (v 44 + f_X6_worthOf (v 15)).toInt ∧ (v 44 + f_X6_worthOf (v 15)).toInt ≤ 9 * (v 41 + nI 1).toInt
        rw [e1, e2]
        omega
    · rw [if_neg c2]
      exact ⟨rfl, same⟩
theorem hm2_acc {v : Nat → Int32} : hm2 v 42 + nI (ld (hm2 v 15)) = v 42 + nI (ld (v 15)) := by
  unfold hm2
  by_cases c : v 15 = -5
  · rw [if_pos c]
  · rw [if_neg c]
    by_cases c2 : v 23 + nI 1 = nI 3
    · rw [if_pos c2]
      show v 42 + nI 1 + nI (ld (-5)) = v 42 + nI (ld (v 15))
      rw [ld_5, ld_k c, add0]
    · rw [if_neg c2]
      rfl
theorem wm3_acc {w : Int} {v : Nat → Int32} (h : MO (v 16) (v 20) (v 24)) (hW : WO w v) (hw : w ≤ 100000000) : wm3 v 41 + nI (ld (wm3 v 16)) = v 41 + nI (ld (v 16)) ∧ WO (w + 1) (wm3 v) := by
  obtain ⟨⟨h1, h2⟩, h3, h4⟩ := hW
  have same : WO (w + 1) v := ⟨⟨h1, by omega⟩, h3, h4⟩
  unfold wm3
  by_cases c : v 16 = -5
  · rw [if_pos c]
    exact ⟨rfl, same⟩
  · rw [if_neg c]
    by_cases c2 : v 20 - nI 1 = 0
    · rw [if_pos c2]
      have hk := wo_rng (h.k3 c)
      have e1 : (v 41 + nI 1).toInt = (v 41).toInt + 1 := by rw [tA (by rw [tn1]; omega) (by rw [tn1]; omega), tn1]
      have e2 : (v 44 + f_X6_worthOf (v 16)).toInt = (v 44).toInt + (f_X6_worthOf (v 16)).toInt := tA (by omega) (by omega)
      refine ⟨?_, ?_⟩
      · show v 41 + nI 1 + nI (ld (-5)) = v 41 + nI (ld (v 16))
        rw [ld_5, ld_k c, add0]
      · show (0 ≤ (v 41 + nI 1).toInt ∧ (v 41 + nI 1).toInt ≤ w + 1) ∧ 3 * (v 41 + nI 1).toInt ≤ (v 44 + f_X6_worthOf (v 16)).toInt ∧ (v 44 + f_X6_worthOf (v 16)).toInt ≤ 9 * (v 41 + nI 1).toInt
        rw [e1, e2]
        omega
    · rw [if_neg c2]
      exact ⟨rfl, same⟩
theorem hm3_acc {v : Nat → Int32} : hm3 v 42 + nI (ld (hm3 v 16)) = v 42 + nI (ld (v 16)) := by
  unfold hm3
  by_cases c : v 16 = -5
  · rw [if_pos c]
  · rw [if_neg c]
    by_cases c2 : v 24 + nI 1 = nI 3
    · rw [if_pos c2]
      show v 42 + nI 1 + nI (ld (-5)) = v 42 + nI (ld (v 16))
      rw [ld_5, ld_k c, add0]
    · rw [if_neg c2]
      rfl
theorem wl_ok {w : Int} {v : Nat → Int32} (hM : MO4 v) (hW : WO w v) (hw : w ≤ 10000000) : MO4 (f_X2_workLoads v) ∧ f_X2_workLoads v 41 + nI (lds (f_X2_workLoads v)) = v 41 + nI (lds v) ∧ WO (w + 4) (f_X2_workLoads v) := by
  refine ⟨⟨?_, ?_, ?_, ?_⟩, ?_⟩
  · obtain ⟨a, b, c⟩ := wl_0 v
    rw [a, b, c]
    exact hM.1.wash
  · obtain ⟨a, b, c⟩ := wl_1 v
    rw [a, b, c]
    exact hM.2.1.wash
  · obtain ⟨a, b, c⟩ := wl_2 v
    rw [a, b, c]
    exact hM.2.2.1.wash
  · obtain ⟨a, b, c⟩ := wl_3 v
    rw [a, b, c]
    exact hM.2.2.2.wash
  · obtain ⟨A0, W0⟩ := wm0_acc hM.1 hW (by omega)
    have k1 : wm0 v 14 = v 14 := by rw [wm0_keep _ (by decide) (by decide) (by decide) (by decide) (by decide)]
    have l1 : wm0 v 18 = v 18 := by rw [wm0_keep _ (by decide) (by decide) (by decide) (by decide) (by decide)]
    have m1 : wm0 v 22 = v 22 := by rw [wm0_keep _ (by decide) (by decide) (by decide) (by decide) (by decide)]
    obtain ⟨A1, W1⟩ := wm1_acc (v := wm0 v) (by rw [k1, l1, m1]; exact hM.2.1) W0 (by omega)
    have k2 : wm1 (wm0 v) 15 = v 15 := by rw [wm1_keep _ (by decide) (by decide) (by decide) (by decide) (by decide), wm0_keep _ (by decide) (by decide) (by decide) (by decide) (by decide)]
    have l2 : wm1 (wm0 v) 19 = v 19 := by rw [wm1_keep _ (by decide) (by decide) (by decide) (by decide) (by decide), wm0_keep _ (by decide) (by decide) (by decide) (by decide) (by decide)]
    have m2 : wm1 (wm0 v) 23 = v 23 := by rw [wm1_keep _ (by decide) (by decide) (by decide) (by decide) (by decide), wm0_keep _ (by decide) (by decide) (by decide) (by decide) (by decide)]
    obtain ⟨A2, W2⟩ := wm2_acc (v := wm1 (wm0 v)) (by rw [k2, l2, m2]; exact hM.2.2.1) W1 (by omega)
    have k3 : wm2 (wm1 (wm0 v)) 16 = v 16 := by rw [wm2_keep _ (by decide) (by decide) (by decide) (by decide) (by decide), wm1_keep _ (by decide) (by decide) (by decide) (by decide) (by decide), wm0_keep _ (by decide) (by decide) (by decide) (by decide) (by decide)]
    have l3 : wm2 (wm1 (wm0 v)) 20 = v 20 := by rw [wm2_keep _ (by decide) (by decide) (by decide) (by decide) (by decide), wm1_keep _ (by decide) (by decide) (by decide) (by decide) (by decide), wm0_keep _ (by decide) (by decide) (by decide) (by decide) (by decide)]
    have m3 : wm2 (wm1 (wm0 v)) 24 = v 24 := by rw [wm2_keep _ (by decide) (by decide) (by decide) (by decide) (by decide), wm1_keep _ (by decide) (by decide) (by decide) (by decide) (by decide), wm0_keep _ (by decide) (by decide) (by decide) (by decide) (by decide)]
    obtain ⟨A3, W3⟩ := wm3_acc (v := wm2 (wm1 (wm0 v))) (by rw [k3, l3, m3]; exact hM.2.2.2) W2 (by omega)
    rw [k1] at A1
    rw [k2] at A2
    rw [k3] at A3
    have z0 : f_X2_workLoads v 13 = wm0 v 13 := by rw [wl_eq, wm3_keep _ (by decide) (by decide) (by decide) (by decide) (by decide), wm2_keep _ (by decide) (by decide) (by decide) (by decide) (by decide), wm1_keep _ (by decide) (by decide) (by decide) (by decide) (by decide)]
    have z1 : f_X2_workLoads v 14 = wm1 (wm0 v) 14 := by rw [wl_eq, wm3_keep _ (by decide) (by decide) (by decide) (by decide) (by decide), wm2_keep _ (by decide) (by decide) (by decide) (by decide) (by decide)]
    have z2 : f_X2_workLoads v 15 = wm2 (wm1 (wm0 v)) 15 := by rw [wl_eq, wm3_keep _ (by decide) (by decide) (by decide) (by decide) (by decide)]
    have z3 : f_X2_workLoads v 16 = wm3 (wm2 (wm1 (wm0 v))) 16 := by rw [wl_eq]
    refine ⟨?_, ?_⟩
    · unfold lds
      rw [z0, z1, z2, z3, lds4, lds4, wl_eq]
      exact acc4 A0 A1 A2 A3
    · rw [wl_eq]
      exact W3.up (by omega)
theorem hl_ok {v : Nat → Int32} (hM : MO4 v) : MO4 (f_X2_holdLoads v) ∧ f_X2_holdLoads v 42 + nI (lds (f_X2_holdLoads v)) = v 42 + nI (lds v) := by
  refine ⟨⟨?_, ?_, ?_, ?_⟩, ?_⟩
  · obtain ⟨a, b, c⟩ := hl_0 v
    rw [a, b, c]
    exact hM.1.hold
  · obtain ⟨a, b, c⟩ := hl_1 v
    rw [a, b, c]
    exact hM.2.1.hold
  · obtain ⟨a, b, c⟩ := hl_2 v
    rw [a, b, c]
    exact hM.2.2.1.hold
  · obtain ⟨a, b, c⟩ := hl_3 v
    rw [a, b, c]
    exact hM.2.2.2.hold
  · have A0 := hm0_acc (v := hm45 v)
    have A1 := hm1_acc (v := hm0 (hm45 v))
    have A2 := hm2_acc (v := hm1 (hm0 (hm45 v)))
    have A3 := hm3_acc (v := hm2 (hm1 (hm0 (hm45 v))))
    have k0 : hm45 v 13 = v 13 := rfl
    have k1 : hm0 (hm45 v) 14 = v 14 := by rw [hm0_keep _ (by decide) (by decide) (by decide) (by decide)]; rfl
    have k2 : hm1 (hm0 (hm45 v)) 15 = v 15 := by rw [hm1_keep _ (by decide) (by decide) (by decide) (by decide), hm0_keep _ (by decide) (by decide) (by decide) (by decide)]; rfl
    have k3 : hm2 (hm1 (hm0 (hm45 v))) 16 = v 16 := by rw [hm2_keep _ (by decide) (by decide) (by decide) (by decide), hm1_keep _ (by decide) (by decide) (by decide) (by decide), hm0_keep _ (by decide) (by decide) (by decide) (by decide)]; rfl
    have k42 : hm45 v 42 = v 42 := rfl
    rw [k0, k42] at A0
    rw [k1] at A1
    rw [k2] at A2
    rw [k3] at A3
    have z0 : f_X2_holdLoads v 13 = hm0 (hm45 v) 13 := by rw [hl_eq, hm3_keep _ (by decide) (by decide) (by decide) (by decide), hm2_keep _ (by decide) (by decide) (by decide) (by decide), hm1_keep _ (by decide) (by decide) (by decide) (by decide)]
    have z1 : f_X2_holdLoads v 14 = hm1 (hm0 (hm45 v)) 14 := by rw [hl_eq, hm3_keep _ (by decide) (by decide) (by decide) (by decide), hm2_keep _ (by decide) (by decide) (by decide) (by decide)]
    have z2 : f_X2_holdLoads v 15 = hm2 (hm1 (hm0 (hm45 v))) 15 := by rw [hl_eq, hm3_keep _ (by decide) (by decide) (by decide) (by decide)]
    have z3 : f_X2_holdLoads v 16 = hm3 (hm2 (hm1 (hm0 (hm45 v)))) 16 := by rw [hl_eq]
    unfold lds
    rw [z0, z1, z2, z3, lds4, lds4, hl_eq]
    exact acc4 A0 A1 A2 A3
theorem wl_fvt {w t : Int} {v : Nat → Int32} (h : Fvt w t v) (hw : w ≤ 10000000) : Fvt (w + 4) t (f_X2_workLoads v) := by
  obtain ⟨⟨hb0, hb1⟩, hM, hC, hS, hW, hU, h12, ht⟩ := h
  obtain ⟨M1, A1, W1⟩ := wl_ok hM hW hw
  have K := fun j (h : j < 13 ∨ 25 ≤ j) (h4 : j ≠ 41) (h5 : j ≠ 44) => wl_keep v (j := j) h h4 h5
  generalize f_X2_workLoads v = u at M1 A1 W1 K ⊢
  refine ⟨⟨?_, ?_⟩, M1, hC.of (K 10 (by decide) (by decide) (by decide)) (K 11 (by decide) (by decide) (by decide)) (K 38 (by decide) (by decide) (by decide)) (K 39 (by decide) (by decide) (by decide)), ?_, W1, hU.of (K 38 (by decide) (by decide) (by decide)), by rw [K 12 (by decide) (by decide) (by decide)]; exact h12, ht⟩
  · rw [K 0 (by decide) (by decide) (by decide), K 2 (by decide) (by decide) (by decide), K 4 (by decide) (by decide) (by decide), K 6 (by decide) (by decide) (by decide), K 8 (by decide) (by decide) (by decide)]
    exact hb0
  · rw [K 1 (by decide) (by decide) (by decide), K 3 (by decide) (by decide) (by decide), K 5 (by decide) (by decide) (by decide), K 7 (by decide) (by decide) (by decide), K 9 (by decide) (by decide) (by decide)]
    exact hb1
  · unfold SA at hS ⊢
    rw [K 40 (by decide) (by decide) (by decide), K 42 (by decide) (by decide) (by decide), K 43 (by decide) (by decide) (by decide), hS]
    have e1 : v 41 + v 42 + v 43 + nI (lds v) = (v 41 + nI (lds v)) + v 42 + v 43 := by ac_rfl
    rw [e1, ← A1]
    ac_rfl
theorem hl_fvt {w t : Int} {v : Nat → Int32} (h : Fvt w t v) : Fvt w t (f_X2_holdLoads v) := by
  obtain ⟨⟨hb0, hb1⟩, hM, hC, hS, hW, hU, h12, ht⟩ := h
  obtain ⟨M1, A1⟩ := hl_ok hM
  have K := fun j (h : j < 13 ∨ 25 ≤ j) (h4 : j ≠ 42) (h5 : j ≠ 45) => hl_keep v (j := j) h h4 h5
  generalize f_X2_holdLoads v = u at M1 A1 K ⊢
  refine ⟨⟨?_, ?_⟩, M1, hC.of (K 10 (by decide) (by decide) (by decide)) (K 11 (by decide) (by decide) (by decide)) (K 38 (by decide) (by decide) (by decide)) (K 39 (by decide) (by decide) (by decide)), ?_, hW.of (K 41 (by decide) (by decide) (by decide)) (K 44 (by decide) (by decide) (by decide)), hU.of (K 38 (by decide) (by decide) (by decide)), by rw [K 12 (by decide) (by decide) (by decide)]; exact h12, ht⟩
  · rw [K 0 (by decide) (by decide) (by decide), K 2 (by decide) (by decide) (by decide), K 4 (by decide) (by decide) (by decide), K 6 (by decide) (by decide) (by decide), K 8 (by decide) (by decide) (by decide)]
    exact hb0
  · rw [K 1 (by decide) (by decide) (by decide), K 3 (by decide) (by decide) (by decide), K 5 (by decide) (by decide) (by decide), K 7 (by decide) (by decide) (by decide), K 9 (by decide) (by decide) (by decide)]
    exact hb1
  · unfold SA at hS ⊢
    rw [K 40 (by decide) (by decide) (by decide), K 41 (by decide) (by decide) (by decide), K 43 (by decide) (by decide) (by decide), hS]
    have e1 : v 41 + v 42 + v 43 + nI (lds v) = v 41 + (v 42 + nI (lds v)) + v 43 := by ac_rfl
    rw [e1, ← A1]
    ac_rfl
theorem cool_iv {t : Int} {v : Nat → Int32} (h : Fvt (4 * t + 4) t v) (ht2 : t ≤ 1000000) : Iv (t + 1) (cool1 (cool0 v)) := by
  obtain ⟨⟨hb0, hb1⟩, hM, hC, hS, hW, hU, h12, ht⟩ := h
  have K := fun j (h : 10 ≤ j) => coolC_keep v (j := j) h
  have B0 := cool_ok hb0 ht2
  have B1 := cool_ok hb1 ht2
  have c0 : cool1 (cool0 v) 0 = (f_X0_coolDown (v 0) (v 4) (v 6) (v 8)).1 := cool1_keep _ (by decide) (by decide) (by decide) (by decide)
  have c2 : cool1 (cool0 v) 2 = v 2 := (cool1_keep _ (by decide) (by decide) (by decide) (by decide)).trans (cool0_keep _ (by decide) (by decide) (by decide) (by decide))
  have c4 : cool1 (cool0 v) 4 = (f_X0_coolDown (v 0) (v 4) (v 6) (v 8)).2.1 := cool1_keep _ (by decide) (by decide) (by decide) (by decide)
  have c6 : cool1 (cool0 v) 6 = (f_X0_coolDown (v 0) (v 4) (v 6) (v 8)).2.2.1 := cool1_keep _ (by decide) (by decide) (by decide) (by decide)
  have c8 : cool1 (cool0 v) 8 = (f_X0_coolDown (v 0) (v 4) (v 6) (v 8)).2.2.2 := cool1_keep _ (by decide) (by decide) (by decide) (by decide)
  have d1 : cool0 v 1 = v 1 := cool0_keep _ (by decide) (by decide) (by decide) (by decide)
  have d5 : cool0 v 5 = v 5 := cool0_keep _ (by decide) (by decide) (by decide) (by decide)
  have d7 : cool0 v 7 = v 7 := cool0_keep _ (by decide) (by decide) (by decide) (by decide)
  have d9 : cool0 v 9 = v 9 := cool0_keep _ (by decide) (by decide) (by decide) (by decide)
  have c3 : cool1 (cool0 v) 3 = v 3 := (cool1_keep _ (by decide) (by decide) (by decide) (by decide)).trans (cool0_keep _ (by decide) (by decide) (by decide) (by decide))
  have c1 : cool1 (cool0 v) 1 = (f_X0_coolDown (cool0 v 1) (cool0 v 5) (cool0 v 7) (cool0 v 9)).1 := rfl
  have c5 : cool1 (cool0 v) 5 = (f_X0_coolDown (cool0 v 1) (cool0 v 5) (cool0 v 7) (cool0 v 9)).2.1 := rfl
  have c7 : cool1 (cool0 v) 7 = (f_X0_coolDown (cool0 v 1) (cool0 v 5) (cool0 v 7) (cool0 v 9)).2.2.1 := rfl
  have c9 : cool1 (cool0 v) 9 = (f_X0_coolDown (cool0 v 1) (cool0 v 5) (cool0 v 7) (cool0 v 9)).2.2.2 := rfl
  rw [d1, d5, d7, d9] at c1 c5 c7 c9
  refine ⟨⟨?_, ?_⟩, hM.of (fun j h1 h2 => K j (by omega)), hC.of (K 10 (by decide)) (K 11 (by decide)) (K 38 (by decide)) (K 39 (by decide)), hS.of (fun j h1 h2 => K j (by omega)) (K 40 (by decide)) (K 41 (by decide)) (K 42 (by decide)) (K 43 (by decide)), (hW.of (K 41 (by decide)) (K 44 (by decide))).up (by omega), ?_, by rw [K 12 (by decide)]; exact h12, by omega⟩
  · rw [c0, c2, c4, c6, c8]
    exact B0
  · rw [c1, c3, c5, c7, c9]
    exact B1
  · have U := hU.of (K 38 (by decide))
    exact ⟨U.1, by have := U.2; omega⟩
theorem preW_fvt {t : Int} {v : Nat → Int32} (h : Iv t v) (ht2 : t ≤ 1000000) : Fvt (4 * t) t (preW v) := by
  obtain ⟨⟨hb0, hb1⟩, hM, ⟨⟨hc, hr⟩, he⟩, hS, hW, hU, h12, ht⟩ := h
  obtain ⟨g1, g2⟩ := rat_ok hc hr he
  have R := fun j (h12 : j ≠ 12) (h10 : j ≠ 10) (h39 : j ≠ 39) => rat_keep v (j := j) h12 h10 h39
  have R12 : (rat v 12).toInt = t + 1 := by rw [rat_12, tA (by rw [tn1]; omega) (by rw [tn1]; omega), tn1, h12]
  have K := fun j (h : 11 ≤ j) (h12 : j ≠ 12) (h38 : j ≠ 38) (h39 : j ≠ 39) => preW_keep v (j := j) h h12 h38 h39
  unfold preW at K ⊢
  have U0 : (0 : Int) ≤ (rat v 38).toInt ∧ (rat v 38).toInt ≤ 10 * t := by rw [R 38 (by decide) (by decide) (by decide)]; exact hU
  have S0 : BO t (rat v 0) (rat v 2) (rat v 4) (rat v 6) (rat v 8) := by
    rw [R 0 (by decide) (by decide) (by decide), R 2 (by decide) (by decide) (by decide), R 4 (by decide) (by decide) (by decide), R 6 (by decide) (by decide) (by decide), R 8 (by decide) (by decide) (by decide)]
    exact hb0
  have S1 : BO t (rat v 1) (rat v 3) (rat v 5) (rat v 7) (rat v 9) := by
    rw [R 1 (by decide) (by decide) (by decide), R 3 (by decide) (by decide) (by decide), R 5 (by decide) (by decide) (by decide), R 7 (by decide) (by decide) (by decide), R 9 (by decide) (by decide) (by decide)]
    exact hb1
  generalize rat v = u at *
  obtain ⟨a1, a2, a3, a4, a5⟩ := brn0_ok S0 g1 g2 ⟨U0.1, by omega⟩
  have B := fun j (h0 : j ≠ 0) (h2 : j ≠ 2) (h4 : j ≠ 4) (h6 : j ≠ 6) (h10 : j ≠ 10) (h38 : j ≠ 38) => brn0_keep u (j := j) h0 h2 h4 h6 h10 h38
  have S2 : BO t (brn0 u 1) (brn0 u 3) (brn0 u 5) (brn0 u 7) (brn0 u 9) := by
    rw [B 1 (by decide) (by decide) (by decide) (by decide) (by decide) (by decide), B 3 (by decide) (by decide) (by decide) (by decide) (by decide) (by decide), B 5 (by decide) (by decide) (by decide) (by decide) (by decide) (by decide), B 7 (by decide) (by decide) (by decide) (by decide) (by decide) (by decide), B 9 (by decide) (by decide) (by decide) (by decide) (by decide) (by decide)]
    exact S1
  have B12 : (brn0 u 12).toInt = t + 1 := by rw [B 12 (by decide) (by decide) (by decide) (by decide) (by decide) (by decide)]; exact R12
  generalize brn0 u = x at *
  obtain ⟨b1, b2, b3, b4, b5⟩ := brn1_ok S2 a2 a3 ⟨by omega, by omega⟩
  have C := fun j (h0 : j ≠ 1) (h2 : j ≠ 3) (h4 : j ≠ 5) (h6 : j ≠ 7) (h10 : j ≠ 10) (h38 : j ≠ 38) => brn1_keep x (j := j) h0 h2 h4 h6 h10 h38
  refine ⟨⟨?_, b1⟩, hM.of (fun j h1 h2 => K j (by omega) (by omega) (by omega) (by omega)), ⟨⟨b2, by rw [K 11 (by decide) (by decide) (by decide) (by decide)]; exact hr⟩, b3⟩, hS.of (fun j h1 h2 => K j (by omega) (by omega) (by omega) (by omega)) (K 40 (by decide) (by decide) (by decide) (by decide)) (K 41 (by decide) (by decide) (by decide) (by decide)) (K 42 (by decide) (by decide) (by decide) (by decide)) (K 43 (by decide) (by decide) (by decide) (by decide)), hW.of (K 41 (by decide) (by decide) (by decide) (by decide)) (K 44 (by decide) (by decide) (by decide) (by decide)), ⟨by omega, by omega⟩, by rw [C 12 (by decide) (by decide) (by decide) (by decide) (by decide) (by decide)]; exact B12, ht⟩
  rw [C 0 (by decide) (by decide) (by decide) (by decide) (by decide) (by decide), C 2 (by decide) (by decide) (by decide) (by decide) (by decide) (by decide), C 4 (by decide) (by decide) (by decide) (by decide) (by decide) (by decide), C 6 (by decide) (by decide) (by decide) (by decide) (by decide) (by decide), C 8 (by decide) (by decide) (by decide) (by decide) (by decide) (by decide)]
  exact a1
theorem Iv.tick {t : Int} {v : Nat → Int32} (h : Iv t v) (ht : t ≤ 1000000) : Iv (t + 1) (f_X2_workTick v).2 := by
  have hp := preW_fvt h ht
  rw [tick_eq]
  by_cases c : f_X2_need (preW v) ≤ f_X2_allPressure (preW v)
  · rw [if_pos c]
    exact cool_iv (wl_fvt (take_fvt hp c) (by omega)) ht
  · rw [if_neg c]
    have g := hl_fvt hp
    exact cool_iv ⟨g.1, g.2.1, g.2.2.1, g.2.2.2.1, g.2.2.2.2.1.up (by omega), g.2.2.2.2.2⟩ ht
