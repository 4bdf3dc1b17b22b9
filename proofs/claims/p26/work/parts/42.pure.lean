theorem kind0 {n : Nat} {q : Nat → Int32} (hn : n ≤ 12) : f_X5_kindAt (nI n) q (nI 0) = if n = 0 then -5 else q 0 := by
  unfold f_X5_kindAt
  rw [if_neg (show ¬ nI 0 < 0 by decide)]
  by_cases c : n = 0
  · rw [if_pos (by rw [c]; exact Int32.le_refl _), if_pos c]
  · rw [if_neg (fun z => c (by have := (nI_leI (by omega) (by omega)).mp z; omega)), if_neg (show ¬ nI 12 ≤ nI 0 by decide), if_neg c]
    rfl
def passN : Nat → (Nat → Int32) → (Nat → Int32) → (Nat → Int32) → (Nat → Int32) → (Nat → Int32) × (Nat → Int32) × (Nat → Int32) × (Nat → Int32)
  | 0, v, q, ov, oq => (v, q, ov, oq)
  | n + 1, v, q, ov, oq => passN n (f_X2_passTick v q ov oq).1 (f_X2_passTick v q ov oq).2.1 (f_X2_passTick v q ov oq).2.2.1 (f_X2_passTick v q ov oq).2.2.2
