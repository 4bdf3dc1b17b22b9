theorem recN {bv bq : Nat → Int32} {hn : Nat} {xs : Nat → Nat → Nat} {vs qs : Nat → Nat → Int32} {r : Int32} (h : r < 0) : f_X6_recorded bv bq hn xs vs qs r = (r, hn, xs, vs, qs) := if_pos h
theorem recP {bv bq : Nat → Int32} {hn : Nat} {xs : Nat → Nat → Nat} {vs qs : Nat → Nat → Int32} {r : Int32} (h : ¬ r < 0) : f_X6_recorded bv bq hn xs vs qs r = (r, (f_X1_push hn xs vs qs bv bq).1, (f_X1_push hn xs vs qs bv bq).2.1, (f_X1_push hn xs vs qs bv bq).2.2.1, (f_X1_push hn xs vs qs bv bq).2.2.2) := if_neg h
theorem m1_lt : (-1 : Int32) < 0 := by decide
theorem m2_lt : (-2 : Int32) < 0 := by decide
theorem m4_lt : (-4 : Int32) < 0 := by decide
theorem IS.f0 {v q : Nat → Int32} (h : IS v q) : 0 ≤ v 0 ∧ 0 ≤ v 1 := h.1.1.1.2.1
theorem IS.w0 {v q : Nat → Int32} (h : IS v q) : 0 ≤ v 2 ∧ 0 ≤ v 3 := h.1.1.1.2.2.1
theorem IS.r0 {v q : Nat → Int32} (h : IS v q) : 0 ≤ v 11 := h.1.1.1.2.2.2.2
def outV (v : Nat → Int32) (i : Nat) : Nat → Int32 := upd (upd (upd (upd v (13 + i) (-5)) (17 + i) (nI 0)) (21 + i) (nI 0)) 43 (v 43 + nI 1)
theorem unload_i {v : Nat → Int32} {i : Nat} (hi : i < 4) : f_X2_unload v (nI i) = if f_X3_isEmpty (v (13 + i)) = 0 then (v (17 + i), outV v i) else (-4, v) := by
  rcases at4 hi with rfl | rfl | rfl | rfl
  · unfold f_X2_unload
    rw [if_pos rfl]
    rfl
  · unfold f_X2_unload
    rw [if_neg (show ¬ nI 1 = nI 0 by decide), if_pos rfl]
    rfl
  · unfold f_X2_unload
    rw [if_neg (show ¬ nI 2 = nI 0 by decide), if_neg (show ¬ nI 2 = nI 1 by decide), if_pos rfl]
    rfl
  · unfold f_X2_unload
    rw [if_neg (show ¬ nI 3 = nI 0 by decide), if_neg (show ¬ nI 3 = nI 1 by decide), if_neg (show ¬ nI 3 = nI 2 by decide), if_pos rfl]
    rfl
theorem out_keep {v : Nat → Int32} {i j : Nat} (hi : i < 4) (hj : j < 13 ∨ (25 ≤ j ∧ j ≠ 43)) : outV v i j = v j := by
  unfold outV
  rw [pk_un (by omega), pk_un (by omega), pk_un (by omega), pk_un (by omega)]
theorem out_is {v q : Nat → Int32} {i : Nat} (hi : i < 4) (h : IS v q) : IS (outV v i) q := by
  obtain ⟨⟨⟨hT, hM⟩, n, h1, h2, h3⟩, hB⟩ := h
  have hM2 : InvM (outV v i) := by
    rcases at4 hi with rfl | rfl | rfl | rfl
    · exact ⟨Or.inl ⟨rfl, rfl, rfl⟩, hM.2.1.of rfl rfl rfl, hM.2.2.1.of rfl rfl rfl, hM.2.2.2.of rfl rfl rfl⟩
    · exact ⟨hM.1.of rfl rfl rfl, Or.inl ⟨rfl, rfl, rfl⟩, hM.2.2.1.of rfl rfl rfl, hM.2.2.2.of rfl rfl rfl⟩
    · exact ⟨hM.1.of rfl rfl rfl, hM.2.1.of rfl rfl rfl, Or.inl ⟨rfl, rfl, rfl⟩, hM.2.2.2.of rfl rfl rfl⟩
    · exact ⟨hM.1.of rfl rfl rfl, hM.2.1.of rfl rfl rfl, hM.2.2.1.of rfl rfl rfl, Or.inl ⟨rfl, rfl, rfl⟩⟩
  have K := fun j (hj : j < 13 ∨ (25 ≤ j ∧ j ≠ 43)) => out_keep (v := v) hi hj
  exact ⟨⟨⟨hT.of hM2.ks (K 0 (by omega)) (K 1 (by omega)) (K 2 (by omega)) (K 3 (by omega)) (K 10 (by omega)) (K 11 (by omega)), hM2⟩, n, h1, (K 25 (by omega)).trans h2, h3⟩, hB.of (K 0 (by omega)) (K 1 (by omega)) (K 2 (by omega)) (K 3 (by omega)) (K 12 (by omega)) (K 41 (by omega)) (K 38 (by omega))⟩
theorem left_nn {v : Nat → Int32} (h : InvM v) {i : Nat} (hi : i < 4) : ¬ v (17 + i) < 0 := by
  rcases h.mi hi with ⟨-, e, -⟩ | ⟨-, ⟨n, h1, h2, e⟩, -⟩
  · rw [e]; decide
  · rw [e]; exact nI_pos (by omega)
theorem RlS.u2 {g : Nat → Int32} {sn se x : Int32} (h : RlS g sn se) : RlS (upd g 2 x) sn se := by
  unfold RlS
  rw [pk_un (by omega), pk_un (by omega)]
  exact h
