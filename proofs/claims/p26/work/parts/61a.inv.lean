/-! what holds of a laundry's numbers, by their values -/
theorem tA {x y : Int32} (h1 : -2147483648 ≤ x.toInt + y.toInt) (h2 : x.toInt + y.toInt < 2147483648) : (x + y).toInt = x.toInt + y.toInt := by
  rw [Int32.toInt_add]
  exact Int.bmod_eq_of_le (by omega) (by omega)
theorem tS {x y : Int32} (h1 : -2147483648 ≤ x.toInt - y.toInt) (h2 : x.toInt - y.toInt < 2147483648) : (x - y).toInt = x.toInt - y.toInt := by
  rw [Int32.toInt_sub]
  exact Int.bmod_eq_of_le (by omega) (by omega)
theorem tM {x y : Int32} (h1 : -2147483648 ≤ x.toInt * y.toInt) (h2 : x.toInt * y.toInt < 2147483648) : (x * y).toInt = x.toInt * y.toInt := by
  rw [Int32.toInt_mul]
  exact Int.bmod_eq_of_le (by omega) (by omega)
theorem tL {x y : Int32} : x ≤ y ↔ x.toInt ≤ y.toInt := Int32.le_iff_toInt_le
theorem tT {x y : Int32} : x < y ↔ x.toInt < y.toInt := Int32.lt_iff_toInt_lt
theorem tE {x y : Int32} : x = y ↔ x.toInt = y.toInt := Int32.toInt_inj.symm
theorem t0 : (0 : Int32).toInt = 0 := by decide
theorem tn5 : (-5 : Int32).toInt = -5 := by decide
theorem tn0 : (nI 0).toInt = 0 := by decide
theorem tn1 : (nI 1).toInt = 1 := by decide
theorem tn2 : (nI 2).toInt = 2 := by decide
theorem tn3 : (nI 3).toInt = 3 := by decide
theorem tn10 : (nI 10).toInt = 10 := by decide
theorem tn30 : (nI 30).toInt = 30 := by decide
theorem tn70 : (nI 70).toInt = 70 := by decide
theorem tn200 : (nI 200).toInt = 200 := by decide
theorem tn999 : (nI 999).toInt = 999 := by decide
theorem sub_cc (a b r : Int32) : (a - r) + (b + r) = a + b := by
  rw [Int32.add_comm b r, ← Int32.add_assoc, Int32.sub_add_cancel]
def BO (t : Int) (f w p l s : Int32) : Prop := (0 ≤ f.toInt ∧ f.toInt ≤ 5) ∧ (0 ≤ w.toInt ∧ w.toInt ≤ 200) ∧ (0 ≤ p.toInt ∧ p.toInt ≤ 70) ∧ (0 ≤ l.toInt ∧ l.toInt ≤ 10) ∧ (0 ≤ s.toInt ∧ s.toInt ≤ t) ∧ (l.toInt = 0 ∨ (f.toInt = 0 ∧ 1 ≤ s.toInt))
/-- in the middle of a tick -/
def BM (t : Int) (f w p l s : Int32) : Prop := (0 ≤ f.toInt ∧ f.toInt ≤ 5) ∧ (0 ≤ w.toInt ∧ w.toInt ≤ 200) ∧ (0 ≤ p.toInt ∧ p.toInt ≤ 85) ∧ (0 ≤ l.toInt ∧ l.toInt ≤ 10) ∧ (0 ≤ s.toInt ∧ s.toInt ≤ t) ∧ (l.toInt = 0 ∨ (f.toInt = 0 ∧ 1 ≤ s.toInt))
theorem burn_ok {t : Int} {f w p l s c : Int32} (h : BO t f w p l s) (hc : 0 ≤ c.toInt ∧ c.toInt ≤ 999) : BM t (f_X0_burn f w p l c).2.1 (f_X0_burn f w p l c).2.2.1 (f_X0_burn f w p l c).2.2.2.1 (f_X0_burn f w p l c).2.2.2.2 s ∧ 0 ≤ (f_X0_burn f w p l c).1.toInt ∧ (f_X0_burn f w p l c).1.toInt ≤ 5 ∧ (f_X0_burn f w p l c).1.toInt ≤ c.toInt := by
  obtain ⟨hf, hw, hp, hl, hs, hd⟩ := h
  unfold f_X0_burn
  by_cases c1 : l ≤ 0
  · rw [if_pos c1]
    rw [tL, t0] at c1
    by_cases c2 : c < f
    · rw [if_pos c2]
      dsimp only
      exact ⟨⟨by rw [tn0]; omega, hw, by omega, hl, hs, Or.inl (by omega)⟩, by rw [tn0]; omega, by rw [tn0]; omega, by rw [tn0]; omega⟩
    · rw [if_neg c2]
      rw [tT] at c2
      by_cases c3 : f ≤ w
      · rw [if_pos c3]
        rw [tL] at c3
        have e1 : (w - f).toInt = w.toInt - f.toInt := tS (by omega) (by omega)
        have e2 : (nI 3 * f).toInt = 3 * f.toInt := by rw [tM (by rw [tn3]; omega) (by rw [tn3]; omega), tn3]
        have e3 : (p + nI 3 * f).toInt = p.toInt + 3 * f.toInt := by rw [tA (by rw [e2]; omega) (by rw [e2]; omega), e2]
        dsimp only
        exact ⟨⟨hf, by rw [e1]; omega, by rw [e3]; omega, hl, hs, Or.inl (by omega)⟩, by omega, by omega, by omega⟩
      · rw [if_neg c3]
        dsimp only
        exact ⟨⟨by rw [tn0]; omega, hw, by omega, hl, hs, Or.inl (by omega)⟩, by rw [tn0]; omega, by rw [tn0]; omega, by rw [tn0]; omega⟩
  · rw [if_neg c1]
    rw [tL, t0] at c1
    have e1 : (l - nI 1).toInt = l.toInt - 1 := by rw [tS (by rw [tn1]; omega) (by rw [tn1]; omega), tn1]
    dsimp only
    exact ⟨⟨hf, hw, by omega, by rw [e1]; omega, hs, by rw [e1]; omega⟩, by rw [tn0]; omega, by rw [tn0]; omega, by rw [tn0]; omega⟩
theorem cool_ok {t : Int} {f w p l s : Int32} (h : BM t f w p l s) (ht : t ≤ 1000000) : BO (t + 1) (f_X0_coolDown f p l s).1 w (f_X0_coolDown f p l s).2.1 (f_X0_coolDown f p l s).2.2.1 (f_X0_coolDown f p l s).2.2.2 := by
  obtain ⟨hf, hw, hp, hl, hs, hd⟩ := h
  have e3 : (s + nI 1).toInt = s.toInt + 1 := by rw [tA (by rw [tn1]; omega) (by rw [tn1]; omega), tn1]
  unfold f_X0_coolDown
  by_cases c1 : p ≤ 0
  · rw [if_pos c1]
    rw [tL, t0] at c1
    rw [if_pos (by rw [tL, tn70]; omega)]
    exact ⟨hf, hw, by dsimp only; omega, hl, by dsimp only; omega, hd⟩
  · rw [if_neg c1]
    rw [tL, t0] at c1
    have e1 : (p - nI 1).toInt = p.toInt - 1 := by rw [tS (by rw [tn1]; omega) (by rw [tn1]; omega), tn1]
    by_cases c2 : p - nI 1 ≤ nI 70
    · rw [if_pos c2]
      rw [tL, tn70, e1] at c2
      exact ⟨hf, hw, by dsimp only; rw [e1]; omega, hl, by dsimp only; omega, hd⟩
    · rw [if_neg c2]
      exact ⟨by dsimp only; rw [tn0]; omega, hw, by dsimp only; rw [tn30]; omega, by dsimp only; rw [tn10]; omega, by dsimp only; rw [e3]; omega, by dsimp only; rw [tn10, tn0, e3]; omega⟩
def MO (k l w : Int32) : Prop := (k = -5 ∧ l = nI 0 ∧ w = nI 0) ∨ (K3 k ∧ (1 ≤ l.toInt ∧ l.toInt ≤ (f_X6_ticksOf k).toInt) ∧ (0 ≤ w.toInt ∧ w.toInt ≤ 2))
theorem tk_rng {k : Int32} (h : K3 k) : 4 ≤ (f_X6_ticksOf k).toInt ∧ (f_X6_ticksOf k).toInt ≤ 9 := by
  rcases h with rfl | rfl | rfl <;> decide
theorem wo_rng {k : Int32} (h : K3 k) : 3 ≤ (f_X6_worthOf k).toInt ∧ (f_X6_worthOf k).toInt ≤ 9 := by
  rcases h with rfl | rfl | rfl <;> decide
theorem st_rng {k : Int32} (h : K3 k) : 2 ≤ (f_X6_steamOf k).toInt ∧ (f_X6_steamOf k).toInt ≤ 6 := by
  rcases h with rfl | rfl | rfl <;> decide
theorem MO.kd {k l w : Int32} (h : MO k l w) : Kd k := by
  rcases h with ⟨h, -⟩ | ⟨h, -⟩
  · exact Or.inl h
  · exact Or.inr h
theorem MO.k3 {k l w : Int32} (h : MO k l w) (c : ¬ k = -5) : K3 k := by
  rcases h with ⟨h, -⟩ | ⟨h, -⟩
  · exact absurd h c
  · exact h
theorem MO.new {k : Int32} (h : K3 k) : MO k (f_X6_ticksOf k) (nI 0) := by
  have := tk_rng h
  exact Or.inr ⟨h, ⟨by omega, by omega⟩, by rw [tn0]; omega, by rw [tn0]; omega⟩
theorem MO.out : MO (-5) (nI 0) (nI 0) := Or.inl ⟨rfl, rfl, rfl⟩
theorem MO.wash {k l w : Int32} (h : MO k l w) : MO (if k = -5 then -5 else if l - nI 1 = 0 then -5 else k) (if k = -5 then l else if l - nI 1 = 0 then nI 0 else l - nI 1) (if k = -5 then w else if l - nI 1 = 0 then nI 0 else w) := by
  rcases h with ⟨h1, h2, h3⟩ | ⟨h1, h2, h3⟩
  · rw [if_pos h1, if_pos h1, if_pos h1, h2, h3]
    exact MO.out
  · have c := kd3 h1
    have := tk_rng h1
    have e1 : (l - nI 1).toInt = l.toInt - 1 := by rw [tS (by rw [tn1]; omega) (by rw [tn1]; omega), tn1]
    rw [if_neg c, if_neg c, if_neg c]
    by_cases c2 : l - nI 1 = 0
    · rw [if_pos c2, if_pos c2, if_pos c2]
      exact MO.out
    · rw [if_neg c2, if_neg c2, if_neg c2]
      rw [tE, e1, t0] at c2
      exact Or.inr ⟨h1, ⟨by rw [e1]; omega, by rw [e1]; omega⟩, h3⟩
theorem MO.hold {k l w : Int32} (h : MO k l w) : MO (if k = -5 then -5 else if w + nI 1 = nI 3 then -5 else k) (if k = -5 then l else if w + nI 1 = nI 3 then nI 0 else l) (if k = -5 then w else if w + nI 1 = nI 3 then nI 0 else w + nI 1) := by
  rcases h with ⟨h1, h2, h3⟩ | ⟨h1, h2, h3⟩
  · rw [if_pos h1, if_pos h1, if_pos h1, h2, h3]
    exact MO.out
  · have c := kd3 h1
    have e1 : (w + nI 1).toInt = w.toInt + 1 := by rw [tA (by rw [tn1]; omega) (by rw [tn1]; omega), tn1]
    rw [if_neg c, if_neg c, if_neg c]
    by_cases c2 : w + nI 1 = nI 3
    · rw [if_pos c2, if_pos c2, if_pos c2]
      exact MO.out
    · rw [if_neg c2, if_neg c2, if_neg c2]
      rw [tE, e1, tn3] at c2
      exact Or.inr ⟨h1, h2, by rw [e1]; omega, by rw [e1]; omega⟩
/-! all of a laundry's numbers but the line, behind t ticks -/
def MO4 (v : Nat → Int32) : Prop := MO (v 13) (v 17) (v 21) ∧ MO (v 14) (v 18) (v 22) ∧ MO (v 15) (v 19) (v 23) ∧ MO (v 16) (v 20) (v 24)
def CC (v : Nat → Int32) : Prop := ((0 ≤ (v 10).toInt ∧ (v 10).toInt ≤ 999) ∧ (0 ≤ (v 11).toInt ∧ (v 11).toInt ≤ 200)) ∧ v 10 + v 38 = nI 50 + v 39
def lds (v : Nat → Int32) : Nat := ld (v 13) + ld (v 14) + ld (v 15) + ld (v 16)
def SA (v : Nat → Int32) : Prop := v 40 = v 41 + v 42 + v 43 + nI (lds v)
def WO (w : Int) (v : Nat → Int32) : Prop := (0 ≤ (v 41).toInt ∧ (v 41).toInt ≤ w) ∧ 3 * (v 41).toInt ≤ (v 44).toInt ∧ (v 44).toInt ≤ 9 * (v 41).toInt
def BU (b : Int) (v : Nat → Int32) : Prop := 0 ≤ (v 38).toInt ∧ (v 38).toInt ≤ b
def Iv (t : Int) (v : Nat → Int32) : Prop := (BO t (v 0) (v 2) (v 4) (v 6) (v 8) ∧ BO t (v 1) (v 3) (v 5) (v 7) (v 9)) ∧ MO4 v ∧ CC v ∧ SA v ∧ WO (4 * t) v ∧ BU (10 * t) v ∧ (v 12).toInt = t ∧ 0 ≤ t
def Fvt (w t : Int) (v : Nat → Int32) : Prop := (BM t (v 0) (v 2) (v 4) (v 6) (v 8) ∧ BM t (v 1) (v 3) (v 5) (v 7) (v 9)) ∧ MO4 v ∧ CC v ∧ SA v ∧ WO w v ∧ BU (10 * t + 10) v ∧ (v 12).toInt = t + 1 ∧ 0 ≤ t
def Li (v q : Nat → Int32) : Prop := ∃ n, n ≤ 12 ∧ v 25 = nI n ∧ ∀ j, j < n → K3 (q j)
theorem MO4.of {v v' : Nat → Int32} (h : MO4 v) (e : ∀ j, 13 ≤ j → j < 25 → v' j = v j) : MO4 v' := by
  unfold MO4 at h ⊢
  rw [e 13 (by omega) (by omega), e 14 (by omega) (by omega), e 15 (by omega) (by omega), e 16 (by omega) (by omega), e 17 (by omega) (by omega), e 18 (by omega) (by omega), e 19 (by omega) (by omega), e 20 (by omega) (by omega), e 21 (by omega) (by omega), e 22 (by omega) (by omega), e 23 (by omega) (by omega), e 24 (by omega) (by omega)]
  exact h
theorem CC.of {v v' : Nat → Int32} (h : CC v) (e10 : v' 10 = v 10) (e11 : v' 11 = v 11) (e38 : v' 38 = v 38) (e39 : v' 39 = v 39) : CC v' := by
  unfold CC at h ⊢
  rw [e10, e11, e38, e39]
  exact h
theorem lds_of {v v' : Nat → Int32} (e : ∀ j, 13 ≤ j → j < 17 → v' j = v j) : lds v' = lds v := by
  unfold lds
  rw [e 13 (by omega) (by omega), e 14 (by omega) (by omega), e 15 (by omega) (by omega), e 16 (by omega) (by omega)]
theorem SA.of {v v' : Nat → Int32} (h : SA v) (e : ∀ j, 13 ≤ j → j < 17 → v' j = v j) (e40 : v' 40 = v 40) (e41 : v' 41 = v 41) (e42 : v' 42 = v 42) (e43 : v' 43 = v 43) : SA v' := by
  unfold SA at h ⊢
  rw [e40, e41, e42, e43, lds_of e]
  exact h
theorem WO.of {w : Int} {v v' : Nat → Int32} (h : WO w v) (e41 : v' 41 = v 41) (e44 : v' 44 = v 44) : WO w v' := by
  unfold WO at h ⊢
  rw [e41, e44]
  exact h
theorem BU.of {b : Int} {v v' : Nat → Int32} (h : BU b v) (e38 : v' 38 = v 38) : BU b v' := by
  unfold BU at h ⊢
  rw [e38]
  exact h
theorem WO.up {w w' : Int} {v : Nat → Int32} (h : WO w v) (hw : w ≤ w') : WO w' v := ⟨⟨h.1.1, Int.le_trans h.1.2 hw⟩, h.2⟩
theorem BO.bm {t : Int} {f w p l s : Int32} (h : BO t f w p l s) : BM t f w p l s := ⟨h.1, h.2.1, ⟨h.2.2.1.1, by have := h.2.2.1.2; omega⟩, h.2.2.2⟩
/-! a tick, step by step -/
theorem rat_ok {v : Nat → Int32} (hc : 0 ≤ (v 10).toInt ∧ (v 10).toInt ≤ 999) (hr : 0 ≤ (v 11).toInt ∧ (v 11).toInt ≤ 200) (he : v 10 + v 38 = nI 50 + v 39) : (0 ≤ (rat v 10).toInt ∧ (rat v 10).toInt ≤ 999) ∧ rat v 10 + rat v 38 = nI 50 + rat v 39 := by
  unfold rat
  by_cases c : ((v 12) + (nI 1)) - ((v 12) + (nI 1)) / (nI 60) * (nI 60) = 0
  · rw [if_pos c]
    have e1 : (nI 999 - v 10).toInt = 999 - (v 10).toInt := by rw [tS (by rw [tn999]; omega) (by rw [tn999]; omega), tn999]
    have key : ∀ d : Int32, 0 ≤ d.toInt → d.toInt ≤ 999 - (v 10).toInt → (0 ≤ (v 10 + d).toInt ∧ (v 10 + d).toInt ≤ 999) ∧ v 10 + d + v 38 = nI 50 + (v 39 + d) := by
      intro d h1 h2
      have e2 : (v 10 + d).toInt = (v 10).toInt + d.toInt := tA (by omega) (by omega)
      refine ⟨by rw [e2]; omega, ?_⟩
      rw [← Int32.add_assoc, ← he, Int32.add_assoc, Int32.add_comm d, ← Int32.add_assoc]
    have key2 := key (if (nI 999 - v 10) < v 11 then nI 999 - v 10 else v 11) (by
      by_cases c2 : (nI 999 - v 10) < v 11
      · rw [if_pos c2, e1]; omega
      · rw [if_neg c2]; omega) (by
      by_cases c2 : (nI 999 - v 10) < v 11
      · rw [if_pos c2, e1]; omega
      · rw [if_neg c2]
        rw [tT, e1] at c2
        omega)
    exact key2
  · rw [if_neg c]
    exact ⟨hc, he⟩
theorem brn0_ok {t : Int} {v : Nat → Int32} (hb : BO t (v 0) (v 2) (v 4) (v 6) (v 8)) (hc : 0 ≤ (v 10).toInt ∧ (v 10).toInt ≤ 999) (he : v 10 + v 38 = nI 50 + v 39) (hu : 0 ≤ (v 38).toInt ∧ (v 38).toInt ≤ 100000000) : BM t (brn0 v 0) (brn0 v 2) (brn0 v 4) (brn0 v 6) (brn0 v 8) ∧ (0 ≤ (brn0 v 10).toInt ∧ (brn0 v 10).toInt ≤ 999) ∧ brn0 v 10 + brn0 v 38 = nI 50 + brn0 v 39 ∧ (v 38).toInt ≤ (brn0 v 38).toInt ∧ (brn0 v 38).toInt ≤ (v 38).toInt + 5 := by
  obtain ⟨h1, h2, h3, h4⟩ := burn_ok hb hc
  unfold brn0
  generalize f_X0_burn (v 0) (v 2) (v 4) (v 6) (v 10) = R at h1 h2 h3 h4 ⊢
  obtain ⟨r, bf, bw, bp, bl⟩ := R
  dsimp only at h1 h2 h3 h4 ⊢
  have e1 : (v 10 - r).toInt = (v 10).toInt - r.toInt := tS (by omega) (by omega)
  have e2 : (v 38 + r).toInt = (v 38).toInt + r.toInt := tA (by omega) (by omega)
  refine ⟨h1, ?_, ?_, ?_, ?_⟩
  · show 0 ≤ (v 10 - r).toInt ∧ (v 10 - r).toInt ≤ 999
    rw [e1]; omega
  · show v 10 - r + (v 38 + r) = nI 50 + v 39
    rw [sub_cc]; exact he
  · show (v 38).toInt ≤ (v 38 + r).toInt
    rw [e2]; omega
  · show (v 38 + r).toInt ≤ (v 38).toInt + 5
    rw [e2]; omega
theorem brn1_ok {t : Int} {v : Nat → Int32} (hb : BO t (v 1) (v 3) (v 5) (v 7) (v 9)) (hc : 0 ≤ (v 10).toInt ∧ (v 10).toInt ≤ 999) (he : v 10 + v 38 = nI 50 + v 39) (hu : 0 ≤ (v 38).toInt ∧ (v 38).toInt ≤ 100000000) : BM t (brn1 v 1) (brn1 v 3) (brn1 v 5) (brn1 v 7) (brn1 v 9) ∧ (0 ≤ (brn1 v 10).toInt ∧ (brn1 v 10).toInt ≤ 999) ∧ brn1 v 10 + brn1 v 38 = nI 50 + brn1 v 39 ∧ (v 38).toInt ≤ (brn1 v 38).toInt ∧ (brn1 v 38).toInt ≤ (v 38).toInt + 5 := by
  obtain ⟨h1, h2, h3, h4⟩ := burn_ok hb hc
  unfold brn1
  generalize f_X0_burn (v 1) (v 3) (v 5) (v 7) (v 10) = R at h1 h2 h3 h4 ⊢
  obtain ⟨r, bf, bw, bp, bl⟩ := R
  dsimp only at h1 h2 h3 h4 ⊢
  have e1 : (v 10 - r).toInt = (v 10).toInt - r.toInt := tS (by omega) (by omega)
  have e2 : (v 38 + r).toInt = (v 38).toInt + r.toInt := tA (by omega) (by omega)
  refine ⟨h1, ?_, ?_, ?_, ?_⟩
  · show 0 ≤ (v 10 - r).toInt ∧ (v 10 - r).toInt ≤ 999
    rw [e1]; omega
  · show v 10 - r + (v 38 + r) = nI 50 + v 39
    rw [sub_cc]; exact he
  · show (v 38).toInt ≤ (v 38 + r).toInt
    rw [e2]; omega
  · show (v 38 + r).toInt ≤ (v 38).toInt + 5
    rw [e2]; omega
