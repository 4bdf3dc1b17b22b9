def muW (M : Nat → Int32) (z : Int32) (i : Nat) : Nat := if M 367 = z ∧ 0 ≤ M (335 + i) then (M (339 + i)).toNatClampNeg else 0
theorem mu_one {M : Nat → Int32} {z : Int32} {i : Nat} {v : Nat → Int32} {k l w : Nat} (e1 : M (335 + i) = ek (v k)) (e2 : M (339 + i) = v l) (hm : ML v k l w) : muW M z i ≤ 9 ∧ (M 367 = z → 0 ≤ M (335 + i) → ∃ n, 1 ≤ n ∧ n ≤ 9 ∧ v l = nI n ∧ muW M z i = n ∧ ¬ v k = -5) := by
  unfold muW
  by_cases c : M 367 = z ∧ 0 ≤ M (335 + i)
  · rw [if_pos c]
    have hk : ¬ v k = -5 := (ek_ge hm.kd).mp (by rw [← e1]; exact c.2)
    rcases hm with ⟨h1, -⟩ | ⟨h1, ⟨n, n1, n9, hn⟩, -⟩
    · exact absurd h1 hk
    · have e3 : (M (339 + i)).toNatClampNeg = n := by rw [e2, hn]; exact nI_clamp (by omega)
      rw [e3]
      exact ⟨n9, fun _ _ => ⟨n, n1, n9, hn, rfl, hk⟩⟩
  · rw [if_neg c]
    exact ⟨Nat.zero_le _, fun h1 h2 => absurd ⟨h1, h2⟩ c⟩
theorem add1_ne (x : Int32) : ¬ x + nI 1 = x := by
  intro h
  have h2 : x + nI 1 - x = x - x := by rw [h]
  rw [Int32.sub_self, Int32.add_comm, Int32.add_sub_cancel] at h2
  exact absurd h2 (by decide)
theorem mu_dec {M M' : Nat → Int32} {z : Int32} {i : Nat} {v v' : Nat → Int32} {r : Int32} {k l w : Nat} (e1 : M (335 + i) = ek (v k)) (e2 : M (339 + i) = v l) (e3 : M 367 = v 45) (f1 : M' (335 + i) = ek (v' k)) (f2 : M' (339 + i) = v' l) (f3 : M' 367 = v' 45) (hm : ML v k l w) (hw : (r = nI 0 ∧ v' 45 = v 45) ∨ (r = nI 1 ∧ v' 45 = v 45 + nI 1)) (ht : r = nI 0 → v' k = (if v k = -5 then -5 else if v l - nI 1 = 0 then -5 else v k) ∧ v' l = (if v k = -5 then v l else if v l - nI 1 = 0 then nI 0 else v l - nI 1)) (h1 : M 367 = z) (h2 : 0 ≤ M (335 + i)) : muW M' z i < muW M z i := by
  obtain ⟨n, n1, n9, hn, hmu, hk⟩ := (mu_one (z := z) e1 e2 hm).2 h1 h2
  rw [hmu]
  unfold muW
  rcases hw with ⟨hr, -⟩ | ⟨-, hw⟩
  · obtain ⟨a1, a2⟩ := ht hr
    rw [if_neg hk] at a1 a2
    by_cases c2 : v l - nI 1 = 0
    · rw [if_pos c2] at a1
      rw [if_neg (by rw [f1, a1]; exact fun hh => absurd hh.2 (by decide))]
      omega
    · rw [if_neg c2] at a1 a2
      by_cases c3 : M' 367 = z ∧ 0 ≤ M' (335 + i)
      · rw [if_pos c3, f2, a2, hn, pk_sub n1, nI_clamp (by omega)]
        omega
      · rw [if_neg c3]
        omega
  · rw [if_neg (by rw [f3, hw, ← e3, h1]; exact fun hh => add1_ne z hh.1)]
    omega
/-- the slot that is looked at, with the load put in -/
def putM (v : Nat → Int32) (i : Nat) (k : Int32) : Nat → Int32 := upd (upd (upd (upd v (13 + i) k) (17 + i) (f_X6_ticksOf k)) (21 + i) (nI 0)) 40 (v 40 + nI 1)
theorem ek_k {k : Int32} (h : k = 0 ∨ k = 1 ∨ k = 2) : ek k = k := by
  rcases h with rfl | rfl | rfl <;> decide
theorem ticks_n {k : Int32} (h : k = 0 ∨ k = 1 ∨ k = 2) : ∃ n, 1 ≤ n ∧ n ≤ 9 ∧ f_X6_ticksOf k = nI n := by
  rcases h with rfl | rfl | rfl
  · exact ⟨4, by omega, by omega, by decide⟩
  · exact ⟨6, by omega, by omega, by decide⟩
  · exact ⟨9, by omega, by omega, by decide⟩
theorem InvW.put {v : Nat → Int32} {i : Nat} {k : Int32} (h : InvW v) (hi : i < 4) (hk : k = 0 ∨ k = 1 ∨ k = 2) : InvW (putM v i k) := by
  obtain ⟨n, n1, n9, hn⟩ := ticks_n hk
  have hM : InvM (putM v i k) := by
    have h4 : i = 0 ∨ i = 1 ∨ i = 2 ∨ i = 3 := by omega
    rcases h4 with rfl | rfl | rfl | rfl
    · exact ⟨Or.inr ⟨hk, ⟨n, n1, n9, hn⟩, ⟨0, by omega, rfl⟩⟩, h.2.2.1.of rfl rfl rfl, h.2.2.2.1.of rfl rfl rfl, h.2.2.2.2.of rfl rfl rfl⟩
    · exact ⟨h.2.1.of rfl rfl rfl, Or.inr ⟨hk, ⟨n, n1, n9, hn⟩, ⟨0, by omega, rfl⟩⟩, h.2.2.2.1.of rfl rfl rfl, h.2.2.2.2.of rfl rfl rfl⟩
    · exact ⟨h.2.1.of rfl rfl rfl, h.2.2.1.of rfl rfl rfl, Or.inr ⟨hk, ⟨n, n1, n9, hn⟩, ⟨0, by omega, rfl⟩⟩, h.2.2.2.2.of rfl rfl rfl⟩
    · exact ⟨h.2.1.of rfl rfl rfl, h.2.2.1.of rfl rfl rfl, h.2.2.2.1.of rfl rfl rfl, Or.inr ⟨hk, ⟨n, n1, n9, hn⟩, ⟨0, by omega, rfl⟩⟩⟩
  refine ⟨h.1.of hM.ks ?_ ?_ ?_ ?_ ?_ ?_, hM⟩ <;> (unfold putM; rw [pk_un (by omega), pk_un (by omega), pk_un (by omega), pk_un (by omega)])
