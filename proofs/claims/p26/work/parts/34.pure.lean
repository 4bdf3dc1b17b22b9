def wm0 (v : Nat → Int32) : Nat → Int32 := if v 13 = -5 then v else if v 17 - nI 1 = 0 then upd (upd (upd (upd (upd (upd v 17 (v 17 - nI 1)) 41 (v 41 + nI 1)) 44 (v 44 + f_X6_worthOf (v 13))) 13 (-5)) 17 (nI 0)) 21 (nI 0) else upd v 17 (v 17 - nI 1)
theorem wm0_eq (v : Nat → Int32) : s_X2_workLoads_10_0 v = s_X2_workLoads_10_1 (wm0 v) := by
  unfold s_X2_workLoads_10_0 wm0
  by_cases c : v 13 = -5
  · rw [if_neg (fun z => emp_ne.mp z c), if_pos c]
  · rw [if_pos (emp_ne.mpr c), if_neg c]
    by_cases c2 : v 17 - nI 1 = 0
    · rw [if_pos c2, if_pos c2]
    · rw [if_neg c2, if_neg c2]
theorem wm0_keep (v : Nat → Int32) {j : Nat} (h1 : j ≠ 13) (h2 : j ≠ 17) (h3 : j ≠ 21) (h4 : j ≠ 41) (h5 : j ≠ 44) : wm0 v j = v j := by
  unfold wm0
  by_cases c : v 13 = -5
  · rw [if_pos c]
  · rw [if_neg c]
    by_cases c2 : v 17 - nI 1 = 0
    · rw [if_pos c2, pk_un h3, pk_un h2, pk_un h1, pk_un h5, pk_un h4, pk_un h2]
    · rw [if_neg c2, pk_un h2]
theorem wm0_at (v : Nat → Int32) : wm0 v 13 = (if v 13 = -5 then -5 else if v 17 - nI 1 = 0 then -5 else v 13) ∧ wm0 v 17 = (if v 13 = -5 then v 17 else if v 17 - nI 1 = 0 then nI 0 else v 17 - nI 1) ∧ wm0 v 21 = (if v 13 = -5 then v 21 else if v 17 - nI 1 = 0 then nI 0 else v 21) := by
  unfold wm0
  by_cases c : v 13 = -5
  · simp only [if_pos c]; exact ⟨c, trivial, trivial⟩
  · simp only [if_neg c]
    by_cases c2 : v 17 - nI 1 = 0
    · simp only [if_pos c2]; exact ⟨rfl, rfl, rfl⟩
    · simp only [if_neg c2]; exact ⟨rfl, rfl, rfl⟩

def wm1 (v : Nat → Int32) : Nat → Int32 := if v 14 = -5 then v else if v 18 - nI 1 = 0 then upd (upd (upd (upd (upd (upd v 18 (v 18 - nI 1)) 41 (v 41 + nI 1)) 44 (v 44 + f_X6_worthOf (v 14))) 14 (-5)) 18 (nI 0)) 22 (nI 0) else upd v 18 (v 18 - nI 1)
theorem wm1_eq (v : Nat → Int32) : s_X2_workLoads_10_1 v = s_X2_workLoads_10_2 (wm1 v) := by
  unfold s_X2_workLoads_10_1 wm1
  by_cases c : v 14 = -5
  · rw [if_neg (fun z => emp_ne.mp z c), if_pos c]
  · rw [if_pos (emp_ne.mpr c), if_neg c]
    by_cases c2 : v 18 - nI 1 = 0
    · rw [if_pos c2, if_pos c2]
    · rw [if_neg c2, if_neg c2]
theorem wm1_keep (v : Nat → Int32) {j : Nat} (h1 : j ≠ 14) (h2 : j ≠ 18) (h3 : j ≠ 22) (h4 : j ≠ 41) (h5 : j ≠ 44) : wm1 v j = v j := by
  unfold wm1
  by_cases c : v 14 = -5
  · rw [if_pos c]
  · rw [if_neg c]
    by_cases c2 : v 18 - nI 1 = 0
    · rw [if_pos c2, pk_un h3, pk_un h2, pk_un h1, pk_un h5, pk_un h4, pk_un h2]
    · rw [if_neg c2, pk_un h2]
theorem wm1_at (v : Nat → Int32) : wm1 v 14 = (if v 14 = -5 then -5 else if v 18 - nI 1 = 0 then -5 else v 14) ∧ wm1 v 18 = (if v 14 = -5 then v 18 else if v 18 - nI 1 = 0 then nI 0 else v 18 - nI 1) ∧ wm1 v 22 = (if v 14 = -5 then v 22 else if v 18 - nI 1 = 0 then nI 0 else v 22) := by
  unfold wm1
  by_cases c : v 14 = -5
  · simp only [if_pos c]; exact ⟨c, trivial, trivial⟩
  · simp only [if_neg c]
    by_cases c2 : v 18 - nI 1 = 0
    · simp only [if_pos c2]; exact ⟨rfl, rfl, rfl⟩
    · simp only [if_neg c2]; exact ⟨rfl, rfl, rfl⟩

def wm2 (v : Nat → Int32) : Nat → Int32 := if v 15 = -5 then v else if v 19 - nI 1 = 0 then upd (upd (upd (upd (upd (upd v 19 (v 19 - nI 1)) 41 (v 41 + nI 1)) 44 (v 44 + f_X6_worthOf (v 15))) 15 (-5)) 19 (nI 0)) 23 (nI 0) else upd v 19 (v 19 - nI 1)
theorem wm2_eq (v : Nat → Int32) : s_X2_workLoads_10_2 v = s_X2_workLoads_10_3 (wm2 v) := by
  unfold s_X2_workLoads_10_2 wm2
  by_cases c : v 15 = -5
  · rw [if_neg (fun z => emp_ne.mp z c), if_pos c]
  · rw [if_pos (emp_ne.mpr c), if_neg c]
    by_cases c2 : v 19 - nI 1 = 0
    · rw [if_pos c2, if_pos c2]
    · rw [if_neg c2, if_neg c2]
theorem wm2_keep (v : Nat → Int32) {j : Nat} (h1 : j ≠ 15) (h2 : j ≠ 19) (h3 : j ≠ 23) (h4 : j ≠ 41) (h5 : j ≠ 44) : wm2 v j = v j := by
  unfold wm2
  by_cases c : v 15 = -5
  · rw [if_pos c]
  · rw [if_neg c]
    by_cases c2 : v 19 - nI 1 = 0
    · rw [if_pos c2, pk_un h3, pk_un h2, pk_un h1, pk_un h5, pk_un h4, pk_un h2]
    · rw [if_neg c2, pk_un h2]
theorem wm2_at (v : Nat → Int32) : wm2 v 15 = (if v 15 = -5 then -5 else if v 19 - nI 1 = 0 then -5 else v 15) ∧ wm2 v 19 = (if v 15 = -5 then v 19 else if v 19 - nI 1 = 0 then nI 0 else v 19 - nI 1) ∧ wm2 v 23 = (if v 15 = -5 then v 23 else if v 19 - nI 1 = 0 then nI 0 else v 23) := by
  unfold wm2
  by_cases c : v 15 = -5
  · simp only [if_pos c]; exact ⟨c, trivial, trivial⟩
  · simp only [if_neg c]
    by_cases c2 : v 19 - nI 1 = 0
    · simp only [if_pos c2]; exact ⟨rfl, rfl, rfl⟩
    · simp only [if_neg c2]; exact ⟨rfl, rfl, rfl⟩

def wm3 (v : Nat → Int32) : Nat → Int32 := if v 16 = -5 then v else if v 20 - nI 1 = 0 then upd (upd (upd (upd (upd (upd v 20 (v 20 - nI 1)) 41 (v 41 + nI 1)) 44 (v 44 + f_X6_worthOf (v 16))) 16 (-5)) 20 (nI 0)) 24 (nI 0) else upd v 20 (v 20 - nI 1)
theorem wm3_eq (v : Nat → Int32) : s_X2_workLoads_10_3 v = s_X2_workLoads_10_4 (wm3 v) := by
  unfold s_X2_workLoads_10_3 wm3
  by_cases c : v 16 = -5
  · rw [if_neg (fun z => emp_ne.mp z c), if_pos c]
  · rw [if_pos (emp_ne.mpr c), if_neg c]
    by_cases c2 : v 20 - nI 1 = 0
    · rw [if_pos c2, if_pos c2]
    · rw [if_neg c2, if_neg c2]
theorem wm3_keep (v : Nat → Int32) {j : Nat} (h1 : j ≠ 16) (h2 : j ≠ 20) (h3 : j ≠ 24) (h4 : j ≠ 41) (h5 : j ≠ 44) : wm3 v j = v j := by
  unfold wm3
  by_cases c : v 16 = -5
  · rw [if_pos c]
  · rw [if_neg c]
    by_cases c2 : v 20 - nI 1 = 0
    · rw [if_pos c2, pk_un h3, pk_un h2, pk_un h1, pk_un h5, pk_un h4, pk_un h2]
    · rw [if_neg c2, pk_un h2]
theorem wm3_at (v : Nat → Int32) : wm3 v 16 = (if v 16 = -5 then -5 else if v 20 - nI 1 = 0 then -5 else v 16) ∧ wm3 v 20 = (if v 16 = -5 then v 20 else if v 20 - nI 1 = 0 then nI 0 else v 20 - nI 1) ∧ wm3 v 24 = (if v 16 = -5 then v 24 else if v 20 - nI 1 = 0 then nI 0 else v 24) := by
  unfold wm3
  by_cases c : v 16 = -5
  · simp only [if_pos c]; exact ⟨c, trivial, trivial⟩
  · simp only [if_neg c]
    by_cases c2 : v 20 - nI 1 = 0
    · simp only [if_pos c2]; exact ⟨rfl, rfl, rfl⟩
    · simp only [if_neg c2]; exact ⟨rfl, rfl, rfl⟩

def hm0 (v : Nat → Int32) : Nat → Int32 := if v 13 = -5 then v else if v 21 + nI 1 = nI 3 then upd (upd (upd (upd (upd v 21 (v 21 + nI 1)) 42 (v 42 + nI 1)) 13 (-5)) 17 (nI 0)) 21 (nI 0) else upd v 21 (v 21 + nI 1)
theorem hm0_eq (v : Nat → Int32) : s_X2_holdLoads_20_0 v = s_X2_holdLoads_20_1 (hm0 v) := by
  unfold s_X2_holdLoads_20_0 hm0
  by_cases c : v 13 = -5
  · rw [if_neg (fun z => emp_ne.mp z c), if_pos c]
  · rw [if_pos (emp_ne.mpr c), if_neg c]
    by_cases c2 : v 21 + nI 1 = nI 3
    · rw [if_pos c2, if_pos c2]
    · rw [if_neg c2, if_neg c2]
theorem hm0_keep (v : Nat → Int32) {j : Nat} (h1 : j ≠ 13) (h2 : j ≠ 17) (h3 : j ≠ 21) (h4 : j ≠ 42) : hm0 v j = v j := by
  unfold hm0
  by_cases c : v 13 = -5
  · rw [if_pos c]
  · rw [if_neg c]
    by_cases c2 : v 21 + nI 1 = nI 3
    · rw [if_pos c2, pk_un h3, pk_un h2, pk_un h1, pk_un h4, pk_un h3]
    · rw [if_neg c2, pk_un h3]
theorem hm0_at (v : Nat → Int32) : hm0 v 13 = (if v 13 = -5 then -5 else if v 21 + nI 1 = nI 3 then -5 else v 13) ∧ hm0 v 17 = (if v 13 = -5 then v 17 else if v 21 + nI 1 = nI 3 then nI 0 else v 17) ∧ hm0 v 21 = (if v 13 = -5 then v 21 else if v 21 + nI 1 = nI 3 then nI 0 else v 21 + nI 1) := by
  unfold hm0
  by_cases c : v 13 = -5
  · simp only [if_pos c]; exact ⟨c, trivial, trivial⟩
  · simp only [if_neg c]
    by_cases c2 : v 21 + nI 1 = nI 3
    · simp only [if_pos c2]; exact ⟨rfl, rfl, rfl⟩
    · simp only [if_neg c2]; exact ⟨rfl, rfl, rfl⟩

def hm1 (v : Nat → Int32) : Nat → Int32 := if v 14 = -5 then v else if v 22 + nI 1 = nI 3 then upd (upd (upd (upd (upd v 22 (v 22 + nI 1)) 42 (v 42 + nI 1)) 14 (-5)) 18 (nI 0)) 22 (nI 0) else upd v 22 (v 22 + nI 1)
theorem hm1_eq (v : Nat → Int32) : s_X2_holdLoads_20_1 v = s_X2_holdLoads_20_2 (hm1 v) := by
  unfold s_X2_holdLoads_20_1 hm1
  by_cases c : v 14 = -5
  · rw [if_neg (fun z => emp_ne.mp z c), if_pos c]
  · rw [if_pos (emp_ne.mpr c), if_neg c]
    by_cases c2 : v 22 + nI 1 = nI 3
    · rw [if_pos c2, if_pos c2]
    · rw [if_neg c2, if_neg c2]
theorem hm1_keep (v : Nat → Int32) {j : Nat} (h1 : j ≠ 14) (h2 : j ≠ 18) (h3 : j ≠ 22) (h4 : j ≠ 42) : hm1 v j = v j := by
  unfold hm1
  by_cases c : v 14 = -5
  · rw [if_pos c]
  · rw [if_neg c]
    by_cases c2 : v 22 + nI 1 = nI 3
    · rw [if_pos c2, pk_un h3, pk_un h2, pk_un h1, pk_un h4, pk_un h3]
    · rw [if_neg c2, pk_un h3]
theorem hm1_at (v : Nat → Int32) : hm1 v 14 = (if v 14 = -5 then -5 else if v 22 + nI 1 = nI 3 then -5 else v 14) ∧ hm1 v 18 = (if v 14 = -5 then v 18 else if v 22 + nI 1 = nI 3 then nI 0 else v 18) ∧ hm1 v 22 = (if v 14 = -5 then v 22 else if v 22 + nI 1 = nI 3 then nI 0 else v 22 + nI 1) := by
  unfold hm1
  by_cases c : v 14 = -5
  · simp only [if_pos c]; exact ⟨c, trivial, trivial⟩
  · simp only [if_neg c]
    by_cases c2 : v 22 + nI 1 = nI 3
    · simp only [if_pos c2]; exact ⟨rfl, rfl, rfl⟩
    · simp only [if_neg c2]; exact ⟨rfl, rfl, rfl⟩

def hm2 (v : Nat → Int32) : Nat → Int32 := if v 15 = -5 then v else if v 23 + nI 1 = nI 3 then upd (upd (upd (upd (upd v 23 (v 23 + nI 1)) 42 (v 42 + nI 1)) 15 (-5)) 19 (nI 0)) 23 (nI 0) else upd v 23 (v 23 + nI 1)
theorem hm2_eq (v : Nat → Int32) : s_X2_holdLoads_20_2 v = s_X2_holdLoads_20_3 (hm2 v) := by
  unfold s_X2_holdLoads_20_2 hm2
  by_cases c : v 15 = -5
  · rw [if_neg (fun z => emp_ne.mp z c), if_pos c]
  · rw [if_pos (emp_ne.mpr c), if_neg c]
    by_cases c2 : v 23 + nI 1 = nI 3
    · rw [if_pos c2, if_pos c2]
    · rw [if_neg c2, if_neg c2]
theorem hm2_keep (v : Nat → Int32) {j : Nat} (h1 : j ≠ 15) (h2 : j ≠ 19) (h3 : j ≠ 23) (h4 : j ≠ 42) : hm2 v j = v j := by
  unfold hm2
  by_cases c : v 15 = -5
  · rw [if_pos c]
  · rw [if_neg c]
    by_cases c2 : v 23 + nI 1 = nI 3
    · rw [if_pos c2, pk_un h3, pk_un h2, pk_un h1, pk_un h4, pk_un h3]
    · rw [if_neg c2, pk_un h3]
theorem hm2_at (v : Nat → Int32) : hm2 v 15 = (if v 15 = -5 then -5 else if v 23 + nI 1 = nI 3 then -5 else v 15) ∧ hm2 v 19 = (if v 15 = -5 then v 19 else if v 23 + nI 1 = nI 3 then nI 0 else v 19) ∧ hm2 v 23 = (if v 15 = -5 then v 23 else if v 23 + nI 1 = nI 3 then nI 0 else v 23 + nI 1) := by
  unfold hm2
  by_cases c : v 15 = -5
  · simp only [if_pos c]; exact ⟨c, trivial, trivial⟩
  · simp only [if_neg c]
    by_cases c2 : v 23 + nI 1 = nI 3
    · simp only [if_pos c2]; exact ⟨rfl, rfl, rfl⟩
    · simp only [if_neg c2]; exact ⟨rfl, rfl, rfl⟩

def hm3 (v : Nat → Int32) : Nat → Int32 := if v 16 = -5 then v else if v 24 + nI 1 = nI 3 then upd (upd (upd (upd (upd v 24 (v 24 + nI 1)) 42 (v 42 + nI 1)) 16 (-5)) 20 (nI 0)) 24 (nI 0) else upd v 24 (v 24 + nI 1)
theorem hm3_eq (v : Nat → Int32) : s_X2_holdLoads_20_3 v = s_X2_holdLoads_20_4 (hm3 v) := by
  unfold s_X2_holdLoads_20_3 hm3
  by_cases c : v 16 = -5
  · rw [if_neg (fun z => emp_ne.mp z c), if_pos c]
  · rw [if_pos (emp_ne.mpr c), if_neg c]
    by_cases c2 : v 24 + nI 1 = nI 3
    · rw [if_pos c2, if_pos c2]
    · rw [if_neg c2, if_neg c2]
theorem hm3_keep (v : Nat → Int32) {j : Nat} (h1 : j ≠ 16) (h2 : j ≠ 20) (h3 : j ≠ 24) (h4 : j ≠ 42) : hm3 v j = v j := by
  unfold hm3
  by_cases c : v 16 = -5
  · rw [if_pos c]
  · rw [if_neg c]
    by_cases c2 : v 24 + nI 1 = nI 3
    · rw [if_pos c2, pk_un h3, pk_un h2, pk_un h1, pk_un h4, pk_un h3]
    · rw [if_neg c2, pk_un h3]
theorem hm3_at (v : Nat → Int32) : hm3 v 16 = (if v 16 = -5 then -5 else if v 24 + nI 1 = nI 3 then -5 else v 16) ∧ hm3 v 20 = (if v 16 = -5 then v 20 else if v 24 + nI 1 = nI 3 then nI 0 else v 20) ∧ hm3 v 24 = (if v 16 = -5 then v 24 else if v 24 + nI 1 = nI 3 then nI 0 else v 24 + nI 1) := by
  unfold hm3
  by_cases c : v 16 = -5
  · simp only [if_pos c]; exact ⟨c, trivial, trivial⟩
  · simp only [if_neg c]
    by_cases c2 : v 24 + nI 1 = nI 3
    · simp only [if_pos c2]; exact ⟨rfl, rfl, rfl⟩
    · simp only [if_neg c2]; exact ⟨rfl, rfl, rfl⟩

theorem wl_eq (v : Nat → Int32) : f_X2_workLoads v = wm3 (wm2 (wm1 (wm0 v))) := by
  unfold f_X2_workLoads
  rw [wm0_eq, wm1_eq, wm2_eq, wm3_eq]
  rfl
def hm45 (v : Nat → Int32) : Nat → Int32 := upd v 45 ((v 45) + (nI 1))
theorem hl_eq (v : Nat → Int32) : f_X2_holdLoads v = hm3 (hm2 (hm1 (hm0 (hm45 v)))) := by
  unfold f_X2_holdLoads
  rw [hm0_eq, hm1_eq, hm2_eq, hm3_eq]
  rfl

theorem wl_0 (v : Nat → Int32) : f_X2_workLoads v 13 = (if v 13 = -5 then -5 else if v 17 - nI 1 = 0 then -5 else v 13) ∧ f_X2_workLoads v 17 = (if v 13 = -5 then v 17 else if v 17 - nI 1 = 0 then nI 0 else v 17 - nI 1) ∧ f_X2_workLoads v 21 = (if v 13 = -5 then v 21 else if v 17 - nI 1 = 0 then nI 0 else v 21) := by
  rw [wl_eq]
  have ek : v 13 = v 13 := rfl
  have el : v 17 = v 17 := rfl
  have ew : v 21 = v 21 := rfl
  obtain ⟨a1, a2, a3⟩ := wm0_at v
  rw [ek, el] at a1 a2 a3
  rw [ew] at a3
  refine ⟨?_, ?_, ?_⟩
  · rw [wm3_keep _ (by decide) (by decide) (by decide) (by decide) (by decide), wm2_keep _ (by decide) (by decide) (by decide) (by decide) (by decide), wm1_keep _ (by decide) (by decide) (by decide) (by decide) (by decide), a1]
  · rw [wm3_keep _ (by decide) (by decide) (by decide) (by decide) (by decide), wm2_keep _ (by decide) (by decide) (by decide) (by decide) (by decide), wm1_keep _ (by decide) (by decide) (by decide) (by decide) (by decide), a2]
  · rw [wm3_keep _ (by decide) (by decide) (by decide) (by decide) (by decide), wm2_keep _ (by decide) (by decide) (by decide) (by decide) (by decide), wm1_keep _ (by decide) (by decide) (by decide) (by decide) (by decide), a3]

theorem wl_1 (v : Nat → Int32) : f_X2_workLoads v 14 = (if v 14 = -5 then -5 else if v 18 - nI 1 = 0 then -5 else v 14) ∧ f_X2_workLoads v 18 = (if v 14 = -5 then v 18 else if v 18 - nI 1 = 0 then nI 0 else v 18 - nI 1) ∧ f_X2_workLoads v 22 = (if v 14 = -5 then v 22 else if v 18 - nI 1 = 0 then nI 0 else v 22) := by
  rw [wl_eq]
  have ek : (wm0 v) 14 = v 14 := by rw [wm0_keep _ (by decide) (by decide) (by decide) (by decide) (by decide)]
  have el : (wm0 v) 18 = v 18 := by rw [wm0_keep _ (by decide) (by decide) (by decide) (by decide) (by decide)]
  have ew : (wm0 v) 22 = v 22 := by rw [wm0_keep _ (by decide) (by decide) (by decide) (by decide) (by decide)]
  obtain ⟨a1, a2, a3⟩ := wm1_at (wm0 v)
  rw [ek, el] at a1 a2 a3
  rw [ew] at a3
  refine ⟨?_, ?_, ?_⟩
  · rw [wm3_keep _ (by decide) (by decide) (by decide) (by decide) (by decide), wm2_keep _ (by decide) (by decide) (by decide) (by decide) (by decide), a1]
  · rw [wm3_keep _ (by decide) (by decide) (by decide) (by decide) (by decide), wm2_keep _ (by decide) (by decide) (by decide) (by decide) (by decide), a2]
  · rw [wm3_keep _ (by decide) (by decide) (by decide) (by decide) (by decide), wm2_keep _ (by decide) (by decide) (by decide) (by decide) (by decide), a3]

theorem wl_2 (v : Nat → Int32) : f_X2_workLoads v 15 = (if v 15 = -5 then -5 else if v 19 - nI 1 = 0 then -5 else v 15) ∧ f_X2_workLoads v 19 = (if v 15 = -5 then v 19 else if v 19 - nI 1 = 0 then nI 0 else v 19 - nI 1) ∧ f_X2_workLoads v 23 = (if v 15 = -5 then v 23 else if v 19 - nI 1 = 0 then nI 0 else v 23) := by
  rw [wl_eq]
  have ek : (wm1 (wm0 v)) 15 = v 15 := by rw [wm1_keep _ (by decide) (by decide) (by decide) (by decide) (by decide), wm0_keep _ (by decide) (by decide) (by decide) (by decide) (by decide)]
  have el : (wm1 (wm0 v)) 19 = v 19 := by rw [wm1_keep _ (by decide) (by decide) (by decide) (by decide) (by decide), wm0_keep _ (by decide) (by decide) (by decide) (by decide) (by decide)]
  have ew : (wm1 (wm0 v)) 23 = v 23 := by rw [wm1_keep _ (by decide) (by decide) (by decide) (by decide) (by decide), wm0_keep _ (by decide) (by decide) (by decide) (by decide) (by decide)]
  obtain ⟨a1, a2, a3⟩ := wm2_at (wm1 (wm0 v))
  rw [ek, el] at a1 a2 a3
  rw [ew] at a3
  refine ⟨?_, ?_, ?_⟩
  · rw [wm3_keep _ (by decide) (by decide) (by decide) (by decide) (by decide), a1]
  · rw [wm3_keep _ (by decide) (by decide) (by decide) (by decide) (by decide), a2]
  · rw [wm3_keep _ (by decide) (by decide) (by decide) (by decide) (by decide), a3]

theorem wl_3 (v : Nat → Int32) : f_X2_workLoads v 16 = (if v 16 = -5 then -5 else if v 20 - nI 1 = 0 then -5 else v 16) ∧ f_X2_workLoads v 20 = (if v 16 = -5 then v 20 else if v 20 - nI 1 = 0 then nI 0 else v 20 - nI 1) ∧ f_X2_workLoads v 24 = (if v 16 = -5 then v 24 else if v 20 - nI 1 = 0 then nI 0 else v 24) := by
  rw [wl_eq]
  have ek : (wm2 (wm1 (wm0 v))) 16 = v 16 := by rw [wm2_keep _ (by decide) (by decide) (by decide) (by decide) (by decide), wm1_keep _ (by decide) (by decide) (by decide) (by decide) (by decide), wm0_keep _ (by decide) (by decide) (by decide) (by decide) (by decide)]
  have el : (wm2 (wm1 (wm0 v))) 20 = v 20 := by rw [wm2_keep _ (by decide) (by decide) (by decide) (by decide) (by decide), wm1_keep _ (by decide) (by decide) (by decide) (by decide) (by decide), wm0_keep _ (by decide) (by decide) (by decide) (by decide) (by decide)]
  have ew : (wm2 (wm1 (wm0 v))) 24 = v 24 := by rw [wm2_keep _ (by decide) (by decide) (by decide) (by decide) (by decide), wm1_keep _ (by decide) (by decide) (by decide) (by decide) (by decide), wm0_keep _ (by decide) (by decide) (by decide) (by decide) (by decide)]
  obtain ⟨a1, a2, a3⟩ := wm3_at (wm2 (wm1 (wm0 v)))
  rw [ek, el] at a1 a2 a3
  rw [ew] at a3
  exact ⟨a1, a2, a3⟩

theorem wl_keep (v : Nat → Int32) {j : Nat} (h : j < 13 ∨ 25 ≤ j) (h4 : j ≠ 41) (h5 : j ≠ 44) : f_X2_workLoads v j = v j := by
  rw [wl_eq, wm3_keep _ (by omega) (by omega) (by omega) h4 h5, wm2_keep _ (by omega) (by omega) (by omega) h4 h5, wm1_keep _ (by omega) (by omega) (by omega) h4 h5, wm0_keep _ (by omega) (by omega) (by omega) h4 h5]

theorem hl_0 (v : Nat → Int32) : f_X2_holdLoads v 13 = (if v 13 = -5 then -5 else if v 21 + nI 1 = nI 3 then -5 else v 13) ∧ f_X2_holdLoads v 17 = (if v 13 = -5 then v 17 else if v 21 + nI 1 = nI 3 then nI 0 else v 17) ∧ f_X2_holdLoads v 21 = (if v 13 = -5 then v 21 else if v 21 + nI 1 = nI 3 then nI 0 else v 21 + nI 1) := by
  rw [hl_eq]
  have ek : (hm45 v) 13 = v 13 := by rw [(show hm45 v 13 = v 13 from rfl)]
  have el : (hm45 v) 17 = v 17 := by rw [(show hm45 v 17 = v 17 from rfl)]
  have ew : (hm45 v) 21 = v 21 := by rw [(show hm45 v 21 = v 21 from rfl)]
  obtain ⟨a1, a2, a3⟩ := hm0_at (hm45 v)
  rw [ek, ew] at a1 a3
  rw [ek, el, ew] at a2
  refine ⟨?_, ?_, ?_⟩
  · rw [hm3_keep _ (by decide) (by decide) (by decide) (by decide), hm2_keep _ (by decide) (by decide) (by decide) (by decide), hm1_keep _ (by decide) (by decide) (by decide) (by decide), a1]
  · rw [hm3_keep _ (by decide) (by decide) (by decide) (by decide), hm2_keep _ (by decide) (by decide) (by decide) (by decide), hm1_keep _ (by decide) (by decide) (by decide) (by decide), a2]
  · rw [hm3_keep _ (by decide) (by decide) (by decide) (by decide), hm2_keep _ (by decide) (by decide) (by decide) (by decide), hm1_keep _ (by decide) (by decide) (by decide) (by decide), a3]

theorem hl_1 (v : Nat → Int32) : f_X2_holdLoads v 14 = (if v 14 = -5 then -5 else if v 22 + nI 1 = nI 3 then -5 else v 14) ∧ f_X2_holdLoads v 18 = (if v 14 = -5 then v 18 else if v 22 + nI 1 = nI 3 then nI 0 else v 18) ∧ f_X2_holdLoads v 22 = (if v 14 = -5 then v 22 else if v 22 + nI 1 = nI 3 then nI 0 else v 22 + nI 1) := by
  rw [hl_eq]
  have ek : (hm0 (hm45 v)) 14 = v 14 := by rw [hm0_keep _ (by decide) (by decide) (by decide) (by decide), (show hm45 v 14 = v 14 from rfl)]
  have el : (hm0 (hm45 v)) 18 = v 18 := by rw [hm0_keep _ (by decide) (by decide) (by decide) (by decide), (show hm45 v 18 = v 18 from rfl)]
  have ew : (hm0 (hm45 v)) 22 = v 22 := by rw [hm0_keep _ (by decide) (by decide) (by decide) (by decide), (show hm45 v 22 = v 22 from rfl)]
  obtain ⟨a1, a2, a3⟩ := hm1_at (hm0 (hm45 v))
  rw [ek, ew] at a1 a3
  rw [ek, el, ew] at a2
  refine ⟨?_, ?_, ?_⟩
  · rw [hm3_keep _ (by decide) (by decide) (by decide) (by decide), hm2_keep _ (by decide) (by decide) (by decide) (by decide), a1]
  · rw [hm3_keep _ (by decide) (by decide) (by decide) (by decide), hm2_keep _ (by decide) (by decide) (by decide) (by decide), a2]
  · rw [hm3_keep _ (by decide) (by decide) (by decide) (by decide), hm2_keep _ (by decide) (by decide) (by decide) (by decide), a3]

theorem hl_2 (v : Nat → Int32) : f_X2_holdLoads v 15 = (if v 15 = -5 then -5 else if v 23 + nI 1 = nI 3 then -5 else v 15) ∧ f_X2_holdLoads v 19 = (if v 15 = -5 then v 19 else if v 23 + nI 1 = nI 3 then nI 0 else v 19) ∧ f_X2_holdLoads v 23 = (if v 15 = -5 then v 23 else if v 23 + nI 1 = nI 3 then nI 0 else v 23 + nI 1) := by
  rw [hl_eq]
  have ek : (hm1 (hm0 (hm45 v))) 15 = v 15 := by rw [hm1_keep _ (by decide) (by decide) (by decide) (by decide), hm0_keep _ (by decide) (by decide) (by decide) (by decide), (show hm45 v 15 = v 15 from rfl)]
  have el : (hm1 (hm0 (hm45 v))) 19 = v 19 := by rw [hm1_keep _ (by decide) (by decide) (by decide) (by decide), hm0_keep _ (by decide) (by decide) (by decide) (by decide), (show hm45 v 19 = v 19 from rfl)]
  have ew : (hm1 (hm0 (hm45 v))) 23 = v 23 := by rw [hm1_keep _ (by decide) (by decide) (by decide) (by decide), hm0_keep _ (by decide) (by decide) (by decide) (by decide), (show hm45 v 23 = v 23 from rfl)]
  obtain ⟨a1, a2, a3⟩ := hm2_at (hm1 (hm0 (hm45 v)))
  rw [ek, ew] at a1 a3
  rw [ek, el, ew] at a2
  refine ⟨?_, ?_, ?_⟩
  · rw [hm3_keep _ (by decide) (by decide) (by decide) (by decide), a1]
  · rw [hm3_keep _ (by decide) (by decide) (by decide) (by decide), a2]
  · rw [hm3_keep _ (by decide) (by decide) (by decide) (by decide), a3]

theorem hl_3 (v : Nat → Int32) : f_X2_holdLoads v 16 = (if v 16 = -5 then -5 else if v 24 + nI 1 = nI 3 then -5 else v 16) ∧ f_X2_holdLoads v 20 = (if v 16 = -5 then v 20 else if v 24 + nI 1 = nI 3 then nI 0 else v 20) ∧ f_X2_holdLoads v 24 = (if v 16 = -5 then v 24 else if v 24 + nI 1 = nI 3 then nI 0 else v 24 + nI 1) := by
  rw [hl_eq]
  have ek : (hm2 (hm1 (hm0 (hm45 v)))) 16 = v 16 := by rw [hm2_keep _ (by decide) (by decide) (by decide) (by decide), hm1_keep _ (by decide) (by decide) (by decide) (by decide), hm0_keep _ (by decide) (by decide) (by decide) (by decide), (show hm45 v 16 = v 16 from rfl)]
  have el : (hm2 (hm1 (hm0 (hm45 v)))) 20 = v 20 := by rw [hm2_keep _ (by decide) (by decide) (by decide) (by decide), hm1_keep _ (by decide) (by decide) (by decide) (by decide), hm0_keep _ (by decide) (by decide) (by decide) (by decide), (show hm45 v 20 = v 20 from rfl)]
  have ew : (hm2 (hm1 (hm0 (hm45 v)))) 24 = v 24 := by rw [hm2_keep _ (by decide) (by decide) (by decide) (by decide), hm1_keep _ (by decide) (by decide) (by decide) (by decide), hm0_keep _ (by decide) (by decide) (by decide) (by decide), (show hm45 v 24 = v 24 from rfl)]
  obtain ⟨a1, a2, a3⟩ := hm3_at (hm2 (hm1 (hm0 (hm45 v))))
  rw [ek, ew] at a1 a3
  rw [ek, el, ew] at a2
  exact ⟨a1, a2, a3⟩

theorem hl_keep (v : Nat → Int32) {j : Nat} (h : j < 13 ∨ 25 ≤ j) (h4 : j ≠ 42) (h5 : j ≠ 45) : f_X2_holdLoads v j = v j := by
  rw [hl_eq, hm3_keep _ (by omega) (by omega) (by omega) h4, hm2_keep _ (by omega) (by omega) (by omega) h4, hm1_keep _ (by omega) (by omega) (by omega) h4, hm0_keep _ (by omega) (by omega) (by omega) h4]
  exact pk_un h5
theorem hl_45 (v : Nat → Int32) : f_X2_holdLoads v 45 = v 45 + nI 1 := by
  rw [hl_eq, hm3_keep _ (by decide) (by decide) (by decide) (by decide), hm2_keep _ (by decide) (by decide) (by decide) (by decide), hm1_keep _ (by decide) (by decide) (by decide) (by decide), hm0_keep _ (by decide) (by decide) (by decide) (by decide)]
  rfl

theorem take_keep {p0 : Int32} {j : Nat} (h4 : j ≠ 4) (h5 : j ≠ 5) : ∀ (n : Nat) (v : Nat → Int32) (i : Nat), i ≤ p0.toNatClampNeg → p0.toNatClampNeg - i < n → s_X2_takeSteam_2 p0 n v i j = v j
  | 0, v, i, _, hn => absurd hn (Nat.not_lt_zero _)
  | n + 1, v, i, hi, hn => by
    have hz := natBig p0
    rw [s_X2_takeSteam_2]
    by_cases c : p0 ≤ nI i
    · rw [if_pos c]
    · have hg := ltNat c (by omega)
      rw [if_neg c]
      by_cases c2 : v 5 ≤ v 4
      · rw [if_pos c2, take_keep h4 h5 n _ (i + 1) hg (by omega), pk_un h4]
      · rw [if_neg c2, take_keep h4 h5 n _ (i + 1) hg (by omega), pk_un h5]
theorem takeS_keep {p0 : Int32} {j : Nat} (v : Nat → Int32) (h4 : j ≠ 4) (h5 : j ≠ 5) : f_X2_takeSteam v p0 j = v j := by
  unfold f_X2_takeSteam
  exact take_keep h4 h5 _ v 0 (Nat.zero_le _) (by omega)

theorem cool0_keep (v : Nat → Int32) {j : Nat} (h0 : j ≠ 0) (h4 : j ≠ 4) (h6 : j ≠ 6) (h8 : j ≠ 8) : cool0 v j = v j := by
  unfold cool0
  generalize f_X0_coolDown (v 0) (v 4) (v 6) (v 8) = r
  obtain ⟨bf, bp, bl, bs⟩ := r
  show upd (upd (upd (upd v 0 bf) 4 bp) 6 bl) 8 bs j = v j
  rw [pk_un h8, pk_un h6, pk_un h4, pk_un h0]

theorem cool1_keep (v : Nat → Int32) {j : Nat} (h0 : j ≠ 1) (h4 : j ≠ 5) (h6 : j ≠ 7) (h8 : j ≠ 9) : cool1 v j = v j := by
  unfold cool1
  generalize f_X0_coolDown (v 1) (v 5) (v 7) (v 9) = r
  obtain ⟨bf, bp, bl, bs⟩ := r
  show upd (upd (upd (upd v 1 bf) 5 bp) 7 bl) 9 bs j = v j
  rw [pk_un h8, pk_un h6, pk_un h4, pk_un h0]

/-- the state in a tick ahead of the loads -/
def preW (v : Nat → Int32) : Nat → Int32 := brn1 (brn0 (rat v))
theorem tick_eq (v : Nat → Int32) : f_X2_workTick v = if f_X2_need (preW v) ≤ f_X2_allPressure (preW v) then (nI 0, cool1 (cool0 (f_X2_workLoads (f_X2_takeSteam (preW v) (f_X2_need (preW v)))))) else (nI 1, cool1 (cool0 (f_X2_holdLoads (preW v)))) := by
  rw [tick_rat, brn0_eq, brn1_eq]
  show s_X2_workTick_83 (preW v) = _
  unfold s_X2_workTick_83
  by_cases c : f_X2_need (preW v) ≤ f_X2_allPressure (preW v)
  · rw [if_pos c, if_pos c]
    show s_X2_workTick_122_0 _ = _
    rw [cool_eq0]
  · rw [if_neg c, if_neg c]
    show s_X2_workTick_122_1 _ = _
    rw [cool_eq1]
theorem preW_keep (v : Nat → Int32) {j : Nat} (h : 11 ≤ j) (h12 : j ≠ 12) (h38 : j ≠ 38) (h39 : j ≠ 39) : preW v j = v j := by
  unfold preW
  rw [brn1_keep _ (by omega) (by omega) (by omega) (by omega) (by omega) h38, brn0_keep _ (by omega) (by omega) (by omega) (by omega) (by omega) h38, rat_keep _ h12 (by omega) h39]
theorem coolC_keep (v : Nat → Int32) {j : Nat} (h : 10 ≤ j) : cool1 (cool0 v) j = v j := by
  rw [cool1_keep _ (by omega) (by omega) (by omega) (by omega), cool0_keep _ (by omega) (by omega) (by omega) (by omega)]

