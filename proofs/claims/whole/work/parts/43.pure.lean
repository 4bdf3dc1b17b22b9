/-! what the model's other methods stand on -/
theorem inGe {x hi : Int32} (h : ¬ f_X7_in x (nI 0) hi = 0) : 0 ≤ x := Int32.not_lt.mp (inNat0 h)
theorem inK3 {x : Int32} (h : ¬ f_X7_in x (nI 0) (nI 2) = 0) : x = 0 ∨ x = 1 ∨ x = 2 := by
  have h1 := inLe h (by decide)
  have e := natOf (inNat0 h)
  rw [e]
  have h3 : x.toNatClampNeg = 0 ∨ x.toNatClampNeg = 1 ∨ x.toNatClampNeg = 2 := by omega
  rcases h3 with h3 | h3 | h3 <;> rw [h3]
  · exact Or.inl rfl
  · exact Or.inr (Or.inl rfl)
  · exact Or.inr (Or.inr rfl)
theorem inLen {x y : Int32} {k : Nat} (h : ¬ f_X7_in x (nI 0) (y - nI 1) = 0) (hy : y = nI k) (hk : k ≤ 12) : x.toNatClampNeg < k := by
  rw [hy] at h
  rcases Nat.eq_zero_or_pos k with rfl | h0
  · have h1 := inNat0 h
    exfalso
    unfold f_X7_in at h
    rw [if_neg (show ¬ x < nI 0 from h1)] at h
    by_cases c : nI 0 - nI 1 < x
    · rw [if_pos c] at h
      exact h rfl
    · apply c
      rw [natOf h1, Int32.lt_iff_toInt_lt, nI_toInt (natBig x)]
      have : (nI 0 - nI 1 : Int32).toInt = -1 := by decide
      omega
  · rw [pk_sub h0] at h
    have := inLe h (by omega)
    omega
theorem rec_keep {g M : Nat → Int32} {ns : Nat} {j : Nat} (hn : ns ≤ 4) (hj : j < 46 ∨ 230 ≤ j) : (f_X7_records g M ns).2 j = M j := by
  unfold f_X7_records
  by_cases c : nI ns = nI 4
  · rw [if_pos c]
    dsimp only
    rw [cpy_fr (by omega), cpy_fr (by omega), cpy_fr (by omega), cpy_fr (by omega)]
  · have c2 : ns ≠ 4 := fun z => c (by rw [z])
    rw [if_neg c]
    dsimp only
    rw [cpy_fr (by omega)]
theorem At.cpy06 {M v q : Nat → Int32} (h : At M 0 v q) : At (cpyM M 0 6 46) (46 * 6) v q := cpy_at (x := 0) (y := 6) h
theorem TickOK.c06 {M v q : Nat → Int32} (h : At M 0 v q) (hL : InvL v q) : TickOK (cpyM M 0 6 46) 6 := ⟨v, q, h.cpy06, hL⟩
def fir (v : Nat → Int32) (a b : Int32) : Nat → Int32 := upd (upd v 0 a) 1 b
theorem InvL.fir {v q : Nat → Int32} (h : InvL v q) {a b : Int32} (ha : 0 ≤ a) (hb : 0 ≤ b) : InvL (fir v a b) q := by
  obtain ⟨⟨⟨hk, -, h3⟩, hM⟩, hq⟩ := h
  exact ⟨⟨⟨hk, ⟨ha, hb⟩, h3⟩, ⟨hM.1.of rfl rfl rfl, hM.2.1.of rfl rfl rfl, hM.2.2.1.of rfl rfl rfl, hM.2.2.2.of rfl rfl rfl⟩⟩, hq⟩
theorem At.firm {M v q : Nat → Int32} (h : At M (46 * 6) v q) (a b : Int32) : At (upd (upd M 276 a) 277 b) (46 * 6) (fir v a b) q := by
  have h1 := (AtF.plainU (M0 := M) ⟨h, Fr_rf⟩ (j := 0) (by omega) a).1
  exact (AtF.plainU (M0 := upd M (46 * 6 + 0) a) ⟨h1, Fr_rf⟩ (j := 1) (by omega) b).1
theorem TickOK.tries {M v q : Nat → Int32} (h : At M 0 v q) (hL : InvL v q) {a b : Int32} (ha : 0 ≤ a) (hb : 0 ≤ b) : TickOK (upd (upd (cpyM M 0 6 46) 276 a) 277 b) 6 := ⟨_, q, h.cpy06.firm a b, hL.fir ha hb⟩
theorem ticks_fr {M : Nat → Int32} {x : Nat} (p0 : Int32) (hx : x ≤ 6) (h : TickOK M x) {j : Nat} (h1 : j < 46 * x ∨ 46 * x + 46 ≤ j) (h2 : j < 322 ∨ 322 + 46 ≤ j) : f_X7_ticks M x p0 j = M j := by
  obtain ⟨v, q, hA, hL⟩ := h
  obtain ⟨-, -, g3⟩ := passN_at hx p0.toNatClampNeg M v q v q hA hL
  rw [ticks_eqN]
  exact g3 j h1 h2
theorem div6 {k : Nat} (hk : k < 36) : nI k / nI 6 = nI (k / 6) := pk_div (by omega) (by decide) (by decide)
theorem rem6 {k : Nat} (hk : k < 36) : nI k - nI k / nI 6 * nI 6 = nI (k % 6) := pk_rem (by omega) (by decide) (by decide)
theorem nI_ge0 {n : Nat} (h : n < 2 ^ 31) : 0 ≤ nI n := nI_pos' h
