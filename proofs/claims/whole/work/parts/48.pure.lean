/-! reading an order: the place, and how many there are -/
theorem isNext_4 {g T : Nat → Int32} {lo hi : Int32} (h : g 4 = 0) : f_X7_isNext g T lo hi = nI 0 := by
  unfold f_X7_isNext
  rw [if_pos h]
def RdQ (g g' : Nat → Int32) : Prop := RdOK g g' ∧ (g 4 = 0 → g' 4 = 0)
def RdF (g g' : Nat → Int32) : Prop := ¬ g' 3 < 0 ∧ g' 2 = g 2 ∧ (g 3).toNatClampNeg ≤ (g' 3).toNatClampNeg ∧ ((g 3).toNatClampNeg ≤ 80 → (g' 3).toNatClampNeg ≤ 80) ∧ (g 4 = 0 → g' 4 = 0) ∧ g' 5 = if g' 4 = 0 then g 5 else g 5 + nI 1
theorem RdF.pre {g g1 g' : Nat → Int32} (h : RdQ g g1) (k : RdF g1 g') : RdF g g' := by
  obtain ⟨k1, k2, k3, k4, k5, k6⟩ := k
  refine ⟨k1, k2.trans h.1.2.1, Nat.le_trans h.1.2.2.2.1 k3, fun z => k4 (h.1.2.2.2.2 z), fun z => k5 (h.2 z), ?_⟩
  rw [k6, h.1.2.2.1]
theorem digit_q {g T g' : Nat → Int32} {p r : Int32} (h3 : ¬ g 3 < 0) (h2 : g 2 ≤ nI 80) (hw : f_X7_digit g T p = (r, g')) : RdQ g g' := by
  refine ⟨digit_ok h3 h2 hw, fun h4 => ?_⟩
  unfold f_X7_digit at hw
  rw [isNext_4 h4, if_pos (show nI 0 = 0 from rfl)] at hw
  obtain ⟨-, rfl⟩ := Prod.mk.inj hw
  rfl
theorem num_4 {T : Nat → Int32} : ∀ (n : Nat) (g : Nat → Int32) (z : Int32), g 4 = 0 → (s_X7_number_14 T n g z).2 4 = 0
  | 0, _, _, _ => rfl
  | n + 1, g, z, h => by
    rw [s_X7_number_14, isNext_4 h, if_pos (show nI 0 = 0 from rfl)]
    exact h
theorem number_q {g T g' : Nat → Int32} {r : Int32} (h3 : ¬ g 3 < 0) (h2 : g 2 ≤ nI 80) (hw : f_X7_number g T = (r, g')) : RdQ g g' := by
  refine ⟨number_ok h3 h2 hw, fun h4 => ?_⟩
  unfold f_X7_number at hw
  have h := num_4 (T := T) 81 (upd g 4 (f_X7_isNext g T (nI 49) (nI 57))) (nI 0) (isNext_4 h4)
  rw [hw] at h
  exact h
theorem r220 {g Y : Nat → Int32} {cm : Nat} {kd one oth : Int32} (h3 : ¬ g 3 < 0) : RdF g (s_X7_reads_220 cm g Y kd one oth).1 := by
  unfold s_X7_reads_220
  by_cases c : g 4 = 0
  · rw [if_pos c]
    exact ⟨h3, rfl, Nat.le_refl _, fun h => h, fun h => h, by rw [if_pos c]⟩
  · rw [if_neg c]
    exact ⟨h3, rfl, Nat.le_refl _, fun h => h, fun h => absurd h c, by show g 5 + nI 1 = if g 4 = 0 then g 5 else g 5 + nI 1; rw [if_neg c]⟩
theorem r191 {g Y T : Nat → Int32} {cm : Nat} {kd one : Int32} (h3 : ¬ g 3 < 0) (h2 : g 2 ≤ nI 80) : RdF g (s_X7_reads_191 T cm g Y kd one).1 := by
  unfold s_X7_reads_191
  by_cases c1 : kd = nI 119
  · rw [if_pos c1]
    generalize hw : f_X7_number g T = R
    obtain ⟨r, g1⟩ := R
    have q := number_q h3 h2 hw
    exact RdF.pre q (r220 q.1.1)
  · rw [if_neg c1]
    by_cases c2 : kd = nI 102
    · rw [if_pos c2]
      generalize hw : f_X7_digit g T (nI 5) = R
      obtain ⟨r, g1⟩ := R
      have q := digit_q h3 h2 hw
      exact RdF.pre q (r220 q.1.1)
    · rw [if_neg c2]
      generalize hw : f_X7_digit g T (nI 2) = R
      obtain ⟨r, g1⟩ := R
      have q := digit_q h3 h2 hw
      exact RdF.pre q (r220 q.1.1)
theorem step0 {g : Nat → Int32} {r : Int32} (h3 : ¬ g 3 < 0) (hr : g 4 = 0 → r = 0) : RdQ g (upd (upd g 4 r) 3 (g 3 + nI 0)) := by
  have e : g 3 + nI 0 = g 3 := by rw [nI0, Int32.add_zero]
  rw [e]
  exact ⟨⟨h3, rfl, rfl, Nat.le_refl _, fun h => h⟩, hr⟩
theorem step1 {g : Nat → Int32} {r : Int32} (hv : vp_in (g 3) 80) (hr : g 4 = 0 → r = 0) : RdQ g (upd (upd g 4 r) 3 (g 3 + nI 1)) := by
  obtain ⟨s1, s2, s3⟩ := atStep hv
  refine ⟨⟨s1, rfl, rfl, ?_, ?_⟩, hr⟩
  · show _ ≤ (g 3 + nI 1).toNatClampNeg
    omega
  · show _ → (g 3 + nI 1).toNatClampNeg ≤ 80
    omega
theorem r138a {g Y T : Nat → Int32} {cm : Nat} {kd one : Int32} (h3 : ¬ g 3 < 0) (h2 : g 2 ≤ nI 80) : RdF g (if (f_X7_isNext g T (nI 58) (nI 58)) = 0 then s_X7_reads_191 T cm (upd (upd g 4 (f_X7_isNext g T (nI 58) (nI 58))) 3 ((g 3) + (nI 0))) Y kd one else s_X7_reads_191 T cm (upd (upd g 4 (f_X7_isNext g T (nI 58) (nI 58))) 3 ((g 3) + (nI 1))) Y kd one).1 := by
  by_cases c : f_X7_isNext g T (nI 58) (nI 58) = 0
  · rw [if_pos c]
    have q := step0 (r := f_X7_isNext g T (nI 58) (nI 58)) h3 (fun h4 => isNext_4 h4)
    exact RdF.pre q (r191 q.1.1 h2)
  · rw [if_neg c]
    have q := step1 (r := f_X7_isNext g T (nI 58) (nI 58)) (isNextIn c h3 h2) (fun h4 => isNext_4 h4)
    exact RdF.pre q (r191 q.1.1 h2)
theorem r138 {g Y T : Nat → Int32} {cm : Nat} {kd one : Int32} (h3 : ¬ g 3 < 0) (h2 : g 2 ≤ nI 80) : RdF g (s_X7_reads_138 T cm g Y kd one).1 := by
  unfold s_X7_reads_138
  by_cases c1 : kd = nI 102
  · rw [if_pos c1]
    exact r138a h3 h2
  · rw [if_neg c1]
    by_cases c2 : kd = nI 119
    · rw [if_pos c2]
      exact r138a h3 h2
    · rw [if_neg c2]
      by_cases c3 : kd = nI 109
      · rw [if_pos c3]
        exact r138a h3 h2
      · rw [if_neg c3]
        exact r220 h3
theorem r99d {g Y T : Nat → Int32} {cm : Nat} {kd p : Int32} (h3 : ¬ g 3 < 0) (h2 : g 2 ≤ nI 80) : RdF g (match f_X7_digit g T p with | (r, g1) => s_X7_reads_138 T cm g1 Y kd r).1 := by
  generalize hw : f_X7_digit g T p = R
  obtain ⟨r, g1⟩ := R
  have q := digit_q h3 h2 hw
  exact RdF.pre q (r138 q.1.1 (by rw [q.1.2.1]; exact h2))
theorem r99 {g Y T : Nat → Int32} {cm : Nat} {kd : Int32} (h3 : ¬ g 3 < 0) (h2 : g 2 ≤ nI 80) : RdF g (s_X7_reads_99 T cm g Y kd).1 := by
  unfold s_X7_reads_99
  by_cases c1 : kd = nI 116
  · rw [if_pos c1]
    generalize hw : f_X7_number g T = R
    obtain ⟨r, g1⟩ := R
    have q := number_q h3 h2 hw
    exact RdF.pre q (r138 q.1.1 (by rw [q.1.2.1]; exact h2))
  · rw [if_neg c1]
    by_cases c2 : kd = nI 109
    · rw [if_pos c2]
      exact r99d h3 h2
    · rw [if_neg c2]
      by_cases c3 : kd = nI 108
      · rw [if_pos c3]
        exact r99d h3 h2
      · rw [if_neg c3]
        exact r99d h3 h2
/-- behind an order: one more, if it is right, and then its letter at least was read -/
def RdL (g g' : Nat → Int32) : Prop := ¬ g' 3 < 0 ∧ g' 2 = g 2 ∧ (g 3).toNatClampNeg ≤ (g' 3).toNatClampNeg ∧ ((g 3).toNatClampNeg ≤ 80 → (g' 3).toNatClampNeg ≤ 80) ∧ (g' 5 = if g' 4 = 0 then g 5 else g 5 + nI 1) ∧ (¬ g' 4 = 0 → (g 3).toNatClampNeg + 1 ≤ (g' 3).toNatClampNeg)
theorem r78 {g Y T : Nat → Int32} {cm : Nat} {kd : Int32} (h3 : ¬ g 3 < 0) (h2 : g 2 ≤ nI 80) (hk : ¬ g 4 = 0 → vp_in (g 3) 80) : RdL g (s_X7_reads_78 T cm g Y kd).1 := by
  unfold s_X7_reads_78
  by_cases c : g 4 = 0
  · rw [if_pos c]
    have e : g 3 + nI 0 = g 3 := by rw [nI0, Int32.add_zero]
    have f := r99 (g := upd g 3 (g 3 + nI 0)) (Y := Y) (T := T) (cm := cm) (kd := kd) (by rw [e]; exact h3) h2
    obtain ⟨f1, f2, f3, f4, f5, f6⟩ := f
    rw [show (upd g 3 (g 3 + nI 0)) 3 = g 3 from e] at f3 f4
    exact ⟨f1, f2, f3, f4, f6, fun z => absurd (f5 c) z⟩
  · rw [if_neg c]
    obtain ⟨s1, s2, s3⟩ := atStep (hk c)
    have f := r99 (g := upd g 3 (g 3 + nI 1)) (Y := Y) (T := T) (cm := cm) (kd := kd) s1 h2
    obtain ⟨f1, f2, f3, f4, f5, f6⟩ := f
    rw [show (upd g 3 (g 3 + nI 1)) 3 = g 3 + nI 1 from rfl] at f3 f4
    exact ⟨f1, f2, by omega, fun z => f4 (by omega), f6, fun _ => by omega⟩
theorem r78_4 {g Y T : Nat → Int32} {cm : Nat} {kd x : Int32} (h3 : ¬ g 3 < 0) (h2 : g 2 ≤ nI 80) (hk : ¬ x = 0 → vp_in (g 3) 80) : RdL g (s_X7_reads_78 T cm (upd g 4 x) Y kd).1 := r78 (g := upd g 4 x) h3 h2 hk
theorem r32 {g Y T : Nat → Int32} {cm : Nat} {kd : Int32} (h3 : ¬ g 3 < 0) (h2 : g 2 ≤ nI 80) (hk : ¬ kd = 0 → vp_in (g 3) 80) : RdL g (s_X7_reads_32 T cm g Y kd).1 := by
  have z0 : ∀ {Y : Nat → Int32}, RdL g (s_X7_reads_78 T cm (upd g 4 (nI 0)) Y kd).1 := r78_4 h3 h2 (fun z => absurd rfl z)
  have z1 : ¬ kd = 0 → ∀ {Y : Nat → Int32}, RdL g (s_X7_reads_78 T cm (upd g 4 (nI 1)) Y kd).1 := fun h => r78_4 h3 h2 (fun _ => hk h)
  unfold s_X7_reads_32
  by_cases c : g 4 = 0
  · rw [if_pos c]; exact z0
  · rw [if_neg c]
    by_cases c1 : kd = nI 102
    · rw [if_pos c1]; exact z1 (by rw [c1]; decide)
    · rw [if_neg c1]
      by_cases c2 : kd = nI 119
      · rw [if_pos c2]; exact z1 (by rw [c2]; decide)
      · rw [if_neg c2]
        by_cases c3 : kd = nI 109
        · rw [if_pos c3]; exact z1 (by rw [c3]; decide)
        · rw [if_neg c3]
          by_cases c4 : kd = nI 108
          · rw [if_pos c4]; exact z1 (by rw [c4]; decide)
          · rw [if_neg c4]
            by_cases c5 : kd = nI 116
            · rw [if_pos c5]; exact z1 (by rw [c5]; decide)
            · rw [if_neg c5]; exact z0
theorem reads_ok {g T Y g' Y' : Nat → Int32} {cm : Nat} (h3 : ¬ g 3 < 0) (h2 : g 2 ≤ nI 80) (hw : f_X7_reads g T Y cm = (g', Y')) : RdL g g' := by
  unfold f_X7_reads at hw
  by_cases c : g 4 = 0
  · rw [if_pos c] at hw
    have h := r32 (Y := Y) (T := T) (cm := cm) (kd := nI 0) h3 h2 (fun z => absurd rfl z)
    rw [hw] at h
    exact h
  · rw [if_neg c] at hw
    by_cases c2 : g 2 ≤ g 3
    · rw [if_pos c2] at hw
      have h := r32 (Y := Y) (T := T) (cm := cm) (kd := nI 0) h3 h2 (fun z => absurd rfl z)
      rw [hw] at h
      exact h
    · rw [if_neg c2] at hw
      have h := r32 (Y := Y) (T := T) (cm := cm) (kd := T (g 3).toNatClampNeg) h3 h2 (fun _ => vinLt h3 c2 h2 (by decide))
      rw [hw] at h
      exact h
