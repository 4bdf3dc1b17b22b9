def ML (v : Nat → Int32) (k l w : Nat) : Prop := (v k = -5 ∧ v l = nI 0 ∧ v w = nI 0) ∨ ((v k = 0 ∨ v k = 1 ∨ v k = 2) ∧ (∃ n, 1 ≤ n ∧ n ≤ 9 ∧ v l = nI n) ∧ ∃ n, n ≤ 2 ∧ v w = nI n)
def InvM (v : Nat → Int32) : Prop := ML v 13 17 21 ∧ ML v 14 18 22 ∧ ML v 15 19 23 ∧ ML v 16 20 24
theorem ML.kd {v : Nat → Int32} {k l w : Nat} (h : ML v k l w) : Kd (v k) := by
  rcases h with ⟨h, -⟩ | ⟨h, -⟩
  · exact Or.inl h
  · exact Or.inr h
theorem InvM.ks {v : Nat → Int32} (h : InvM v) : KS v := ⟨h.1.kd, h.2.1.kd, h.2.2.1.kd, h.2.2.2.kd⟩
theorem kd3 {x : Int32} (h : x = 0 ∨ x = 1 ∨ x = 2) : ¬ x = -5 := by
  rcases h with rfl | rfl | rfl <;> decide
theorem nI_z {n : Nat} (h1 : 1 ≤ n) (h : n < 2 ^ 31) : nI n - nI 1 = 0 ↔ n = 1 := by
  rw [pk_sub h1, show (0 : Int32) = nI 0 from rfl, nI_eq (by omega) (by omega)]
  omega
theorem ML.wash {v v' : Nat → Int32} {k l w : Nat} (h : ML v k l w) (ek : v' k = if v k = -5 then -5 else if v l - nI 1 = 0 then -5 else v k) (el : v' l = if v k = -5 then v l else if v l - nI 1 = 0 then nI 0 else v l - nI 1) (ew : v' w = if v k = -5 then v w else if v l - nI 1 = 0 then nI 0 else v w) : ML v' k l w := by
  rcases h with ⟨h1, h2, h3⟩ | ⟨h1, ⟨n, n1, n9, hn⟩, h3⟩
  · rw [if_pos h1] at ek el ew
    exact Or.inl ⟨ek, el.trans h2, ew.trans h3⟩
  · have c := kd3 h1
    rw [if_neg c] at ek el ew
    by_cases c2 : v l - nI 1 = 0
    · rw [if_pos c2] at ek el ew
      exact Or.inl ⟨ek, el, ew⟩
    · rw [if_neg c2] at ek el ew
      rw [hn, nI_z n1 (by omega)] at c2
      refine Or.inr ⟨by rw [ek]; exact h1, ⟨n - 1, by omega, by omega, ?_⟩, by rw [ew]; exact h3⟩
      rw [el, hn, pk_sub n1]
theorem ML.hold {v v' : Nat → Int32} {k l w : Nat} (h : ML v k l w) (ek : v' k = if v k = -5 then -5 else if v w + nI 1 = nI 3 then -5 else v k) (el : v' l = if v k = -5 then v l else if v w + nI 1 = nI 3 then nI 0 else v l) (ew : v' w = if v k = -5 then v w else if v w + nI 1 = nI 3 then nI 0 else v w + nI 1) : ML v' k l w := by
  rcases h with ⟨h1, h2, h3⟩ | ⟨h1, h2, ⟨n, n2, hn⟩⟩
  · rw [if_pos h1] at ek el ew
    exact Or.inl ⟨ek, el.trans h2, ew.trans h3⟩
  · have c := kd3 h1
    rw [if_neg c] at ek el ew
    by_cases c2 : v w + nI 1 = nI 3
    · rw [if_pos c2] at ek el ew
      exact Or.inl ⟨ek, el, ew⟩
    · rw [if_neg c2] at ek el ew
      rw [hn, nI_add, nI_eq (by omega) (by omega)] at c2
      refine Or.inr ⟨by rw [ek]; exact h1, by rw [el]; exact h2, n + 1, by omega, ?_⟩
      rw [ew, hn, nI_add]
theorem ML.of {v v' : Nat → Int32} {k l w : Nat} (h : ML v k l w) (ek : v' k = v k) (el : v' l = v l) (ew : v' w = v w) : ML v' k l w := by
  unfold ML at h ⊢
  rw [ek, el, ew]
  exact h

