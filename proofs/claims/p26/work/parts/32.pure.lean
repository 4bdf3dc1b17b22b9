theorem ek5 : ek (-5) = -1 := by decide
theorem minle (r a : Int32) : (if r < a then r else a) = (if r ≤ a then r else a) := by
  by_cases c : r < a
  · rw [if_pos c, if_pos (Int32.le_of_lt c)]
  · rw [if_neg c]
    by_cases c2 : r ≤ a
    · rw [if_pos c2]
      exact Int32.le_antisymm (Int32.not_lt.mp c) c2
    · rw [if_neg c2]

def cool0 (v : Nat → Int32) : Nat → Int32 :=
  match f_X0_coolDown (v 0) (v 4) (v 6) (v 8) with
  | (bf, bp, bl, bs) => upd (upd (upd (upd v 0 bf) 4 bp) 6 bl) 8 bs

def cool1 (v : Nat → Int32) : Nat → Int32 :=
  match f_X0_coolDown (v 1) (v 5) (v 7) (v 9) with
  | (bf, bp, bl, bs) => upd (upd (upd (upd v 1 bf) 5 bp) 7 bl) 9 bs

theorem cool_eq0 (v : Nat → Int32) : s_X2_workTick_122_0 v = (nI 0, cool1 (cool0 v)) := by
  unfold s_X2_workTick_122_0 cool0
  generalize f_X0_coolDown (v 0) (v 4) (v 6) (v 8) = r
  obtain ⟨bf, bp, bl, bs⟩ := r
  have e : cool1 (upd (upd (upd (upd v 0 bf) 4 bp) 6 bl) 8 bs) = (match f_X0_coolDown (v 1) (v 5) (v 7) (v 9) with | (x1, x2, x3, x4) => upd (upd (upd (upd (upd (upd (upd (upd v 0 bf) 4 bp) 6 bl) 8 bs) 1 x1) 5 x2) 7 x3) 9 x4) := rfl
  dsimp only
  rw [e]

theorem cool_eq1 (v : Nat → Int32) : s_X2_workTick_122_1 v = (nI 1, cool1 (cool0 v)) := by
  unfold s_X2_workTick_122_1 cool0
  generalize f_X0_coolDown (v 0) (v 4) (v 6) (v 8) = r
  obtain ⟨bf, bp, bl, bs⟩ := r
  have e : cool1 (upd (upd (upd (upd v 0 bf) 4 bp) 6 bl) 8 bs) = (match f_X0_coolDown (v 1) (v 5) (v 7) (v 9) with | (x1, x2, x3, x4) => upd (upd (upd (upd (upd (upd (upd (upd v 0 bf) 4 bp) 6 bl) 8 bs) 1 x1) 5 x2) 7 x3) 9 x4) := rfl
  dsimp only
  rw [e]

