theorem told_k {x : Int32} (h : Kd x) : (if 0 ≤ ek x then ek x else -5) = x := by
  rcases h with rfl | rfl | rfl | rfl <;> decide
theorem wait_nn {v : Nat → Int32} (h : InvM v) {i : Nat} (hi : i < 4) : ¬ v (21 + i) < 0 := by
  rcases h.mi hi with ⟨-, -, e⟩ | ⟨-, -, ⟨n, h2, e⟩⟩
  · rw [e]; decide
  · rw [e]; exact nI_pos (by omega)
theorem steam_s {x : Int32} (h : Kd x) : ∃ s, s ≤ 6 ∧ f_X6_steamOf x = nI s ∧ (s = 0 ↔ x = -5) := by
  rcases h with rfl | rfl | rfl | rfl
  · exact ⟨0, by omega, by decide, by decide⟩
  · exact ⟨2, by omega, by decide, by decide⟩
  · exact ⟨4, by omega, by decide, by decide⟩
  · exact ⟨6, by omega, by decide, by decide⟩
theorem need_0 {v : Nat → Int32} (hk : KS v) : f_X2_need v = 0 ↔ (v 13 = -5 ∧ v 14 = -5 ∧ v 15 = -5 ∧ v 16 = -5) := by
  obtain ⟨s0, a0, b0, c0⟩ := steam_s hk.1
  obtain ⟨s1, a1, b1, c1⟩ := steam_s hk.2.1
  obtain ⟨s2, a2, b2, c2⟩ := steam_s hk.2.2.1
  obtain ⟨s3, a3, b3, c3⟩ := steam_s hk.2.2.2
  rw [need_sum, b0, b1, b2, b3, nI_add, nI_add, nI_add, ← c0, ← c1, ← c2, ← c3]
  constructor
  · intro h
    have := (nI_eq (a := s0 + s1 + s2 + s3) (b := 0) (by omega) (by decide)).mp h
    omega
  · rintro ⟨h0, h1, h2, h3⟩
    rw [h0, h1, h2, h3]
    decide
def ld (x : Int32) : Nat := if x = -5 then 0 else 1
theorem ld_step {x : Int32} (y : Int32) (F : Int32 → Int32) : (if f_X3_isEmpty x = 0 then F (y + Int32.ofInt 1) else F y) = F (y + nI (ld x)) := by
  unfold ld
  by_cases c : x = -5
  · rw [if_neg (emp5 c), if_pos c, add0]
  · rw [if_pos (emp_ne.mpr c), if_neg c]
    rfl
theorem loads_sum (v : Nat → Int32) : f_X2_loadsInMachines v = nI (ld (v 13) + ld (v 14) + ld (v 15) + ld (v 16)) := by
  unfold f_X2_loadsInMachines s_X2_loadsInMachines_13_0
  rw [ld_step]
  unfold s_X2_loadsInMachines_13_1
  rw [ld_step]
  unfold s_X2_loadsInMachines_13_2
  rw [ld_step]
  unfold s_X2_loadsInMachines_13_3
  rw [ld_step]
  unfold s_X2_loadsInMachines_13_4
  rw [nI_add, nI_add, nI_add, nI_add, Nat.zero_add]
theorem ld_le (x : Int32) : ld x ≤ 1 := by
  unfold ld
  by_cases c : x = -5
  · rw [if_pos c]; omega
  · rw [if_neg c]; omega
theorem ld_0 {x : Int32} : ld x = 0 ↔ x = -5 := by
  unfold ld
  by_cases c : x = -5
  · rw [if_pos c]; exact ⟨fun _ => c, fun _ => rfl⟩
  · rw [if_neg c]; exact ⟨fun z => absurd z (by omega), fun z => absurd z c⟩
theorem loads_0 (v : Nat → Int32) : f_X2_loadsInMachines v = 0 ↔ (v 13 = -5 ∧ v 14 = -5 ∧ v 15 = -5 ∧ v 16 = -5) := by
  have a0 := ld_le (v 13)
  have a1 := ld_le (v 14)
  have a2 := ld_le (v 15)
  have a3 := ld_le (v 16)
  rw [loads_sum, ← ld_0, ← ld_0, ← ld_0, ← ld_0]
  constructor
  · intro h
    have := (nI_eq (a := ld (v 13) + ld (v 14) + ld (v 15) + ld (v 16)) (b := 0) (by omega) (by decide)).mp h
    omega
  · rintro ⟨h0, h1, h2, h3⟩
    rw [h0, h1, h2, h3]
    decide
theorem look_N {p0 : Int32} : ∀ (n : Nat) (v q ov oq : Nat → Int32) (i : Nat), i ≤ p0.toNatClampNeg → p0.toNatClampNeg - i < n → s_X6_lookAhead_23 p0 n v q ov oq i = passN (p0.toNatClampNeg - i) v q ov oq
  | 0, _, _, _, _, _, _, h => absurd h (Nat.not_lt_zero _)
  | n + 1, v, q, ov, oq, i, hi, hn => by
    have hb := natBig p0
    rw [s_X6_lookAhead_23]
    by_cases c : p0 ≤ nI i
    · rw [if_pos c]
      have : p0.toNatClampNeg - i = 0 := by
        rcases Nat.lt_or_ge i p0.toNatClampNeg with h | h
        · exfalso
          have hp : ¬ p0 < 0 := fun z => by
            have := natBig p0
            have e0 : p0.toNatClampNeg = 0 := by
              rw [Int32.lt_iff_toInt_lt] at z
              have h0 : (0 : Int32).toInt = 0 := by decide
              have : p0.toNatClampNeg = p0.toInt.toNat := rfl
              omega
            omega
          rw [natOf hp, nI_leI hb (by omega)] at c
          omega
        · omega
      rw [this]
      rfl
    · rw [if_neg c]
      have hlt := ltNat c (by omega)
      have e : p0.toNatClampNeg - i = (p0.toNatClampNeg - (i + 1)) + 1 := by omega
      rw [e]
      exact look_N n (f_X2_passTick v q ov oq).1 (f_X2_passTick v q ov oq).2.1 (f_X2_passTick v q ov oq).2.2.1 (f_X2_passTick v q ov oq).2.2.2 (i + 1) (by omega) (by omega)
theorem look_eq {nv nq yv yq : Nat → Int32} {p0 p1 p2 : Int32} : f_X6_lookAhead nv nq yv yq p0 p1 p2 = passN p2.toNatClampNeg (fir nv p0 p1) nq yv yq := by
  unfold f_X6_lookAhead
  have h := look_N (p0 := p2) (p2.toNatClampNeg + 1) (fir nv p0 p1) nq yv yq 0 (Nat.zero_le _) (by omega)
  rw [Nat.sub_zero] at h
  exact h
theorem dif2 (a b c d : Int32) : a + b - (c + d) = (a - c) + (b - d) := by
  rw [Int32.sub_eq_add_neg (a + b) (c + d), Int32.neg_add, Int32.sub_eq_add_neg (-c) d, Int32.sub_eq_add_neg a c, Int32.sub_eq_add_neg b d, Int32.add_assoc a b, ← Int32.add_assoc b (-c) (-d), Int32.add_comm b (-c), Int32.add_assoc (-c) b (-d), ← Int32.add_assoc a (-c)]
theorem ldm_step {x : Int32} (h : Kd x) (y : Int32) (F : Int32 → Int32) : (if 0 ≤ ek x then F (y + nI 1) else F (y + nI 0)) = F (y + nI (ld x)) := by
  unfold ld
  by_cases c : x = -5
  · rw [if_neg (fun z => (ek_ge h).mp z c), if_pos c]
  · rw [if_pos ((ek_ge h).mpr c), if_neg c]
