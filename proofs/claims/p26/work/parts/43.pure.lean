def fir (v : Nat → Int32) (a b : Int32) : Nat → Int32 := upd (upd v 0 a) 1 b
theorem InvL.fir {v q : Nat → Int32} (h : InvL v q) {a b : Int32} (ha : 0 ≤ a) (hb : 0 ≤ b) : InvL (fir v a b) q := by
  obtain ⟨⟨⟨hk, -, h3⟩, hM⟩, hq⟩ := h
  exact ⟨⟨⟨hk, ⟨ha, hb⟩, h3⟩, ⟨hM.1.of rfl rfl rfl, hM.2.1.of rfl rfl rfl, hM.2.2.1.of rfl rfl rfl, hM.2.2.2.of rfl rfl rfl⟩⟩, hq⟩
theorem div6 {k : Nat} (hk : k < 36) : nI k / nI 6 = nI (k / 6) := pk_div (by omega) (by decide) (by decide)
theorem rem6 {k : Nat} (hk : k < 36) : nI k - nI k / nI 6 * nI 6 = nI (k % 6) := pk_rem (by omega) (by decide) (by decide)
theorem nI_ge0 {n : Nat} (h : n < 2 ^ 31) : 0 ≤ nI n := nI_pos' h

