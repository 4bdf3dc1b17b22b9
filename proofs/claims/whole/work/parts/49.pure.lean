/-! what stands at the head of the model's reading loop -/
def muF (g : Nat → Int32) : Nat := if g 4 = 0 then 0 else 81 - (g 3).toNatClampNeg
def FOK (g : Nat → Int32) : Prop := ¬ g 3 < 0 ∧ g 2 ≤ nI 80 ∧ g 5 = nI (g 5).toNatClampNeg ∧ 2 * (g 5).toNatClampNeg ≤ (g 3).toNatClampNeg + 1
theorem RdL.cnt {g g' : Nat → Int32} {cm : Nat} (h : RdL g g') (hc : g 5 = nI cm) (hcm : cm ≤ 40) : g' 5 = nI (g' 5).toNatClampNeg ∧ (g' 4 = 0 → (g' 5).toNatClampNeg = cm) ∧ (¬ g' 4 = 0 → (g' 5).toNatClampNeg = cm + 1) := by
  obtain ⟨-, -, -, -, e, -⟩ := h
  by_cases c : g' 4 = 0
  · rw [if_pos c, hc] at e
    rw [e, nI_clamp (by omega)]
    exact ⟨rfl, fun _ => rfl, fun z => absurd c z⟩
  · rw [if_neg c, hc, nI_add] at e
    rw [e, nI_clamp (by omega)]
    exact ⟨rfl, fun z => absurd z c, fun _ => rfl⟩
theorem FOK.first {g T Y g' Y' : Nat → Int32} (h2 : g 2 ≤ nI 80) (hw : f_X7_reads (upd (upd (upd g 3 (nI 0)) 4 (nI 1)) 5 (nI 0)) T Y 0 = (g', Y')) : FOK g' := by
  have rd := reads_ok (g := upd (upd (upd g 3 (nI 0)) 4 (nI 1)) 5 (nI 0)) (show ¬ nI 0 < 0 by decide) h2 hw
  have rc := rd.cnt (cm := 0) rfl (by omega)
  refine ⟨rd.1, by rw [rd.2.1]; exact h2, rc.1, ?_⟩
  by_cases c : g' 4 = 0
  · rw [rc.2.1 c]; omega
  · rw [rc.2.2 c]
    have := rd.2.2.2.2.2 c
    omega
theorem FOK.stop {g : Nat → Int32} (h : FOK g) : FOK (upd (upd g 4 (nI 0)) 3 (g 3 + nI 0)) := by
  rw [nI0, Int32.add_zero]
  exact h
theorem FOK.at {g : Nat → Int32} (h : FOK g) (c : ¬ g 2 ≤ g 3) : vp_in (g 3) 80 := vinLt h.1 c h.2.1 (by decide)
theorem FOK.cm {g : Nat → Int32} (h : FOK g) (c : ¬ g 2 ≤ g 3) : (g 5).toNatClampNeg ≤ 40 := by
  have h1 := (atStep (h.at c)).2.2
  have h2 := h.2.2.2
  omega
theorem FOK.more {g T Y g' Y' : Nat → Int32} (h : FOK g) (c4 : ¬ g 4 = 0) (c : ¬ g 2 ≤ g 3) (hw : f_X7_reads (upd (upd g 4 (nI 1)) 3 (g 3 + nI 1)) T Y (g 5).toNatClampNeg = (g', Y')) : FOK g' ∧ muF g' < muF g := by
  have st := atStep (h.at c)
  have rd := reads_ok (g := upd (upd g 4 (nI 1)) 3 (g 3 + nI 1)) st.1 h.2.1 hw
  have rc := rd.cnt (cm := (g 5).toNatClampNeg) h.2.2.1 (h.cm c)
  obtain ⟨r1, r2, r3, r4, r5, r6⟩ := rd
  have r3 : (g 3 + nI 1).toNatClampNeg ≤ (g' 3).toNatClampNeg := r3
  have r6 : ¬ g' 4 = 0 → (g 3 + nI 1).toNatClampNeg + 1 ≤ (g' 3).toNatClampNeg := r6
  have hb := h.2.2.2
  obtain ⟨-, s2, s3⟩ := st
  refine ⟨⟨r1, by rw [r2]; exact h.2.1, rc.1, ?_⟩, ?_⟩
  · by_cases c : g' 4 = 0
    · rw [rc.2.1 c]; omega
    · rw [rc.2.2 c]
      have := r6 c
      omega
  · unfold muF
    rw [if_neg c4]
    by_cases c : g' 4 = 0
    · rw [if_pos c]; omega
    · rw [if_neg c]
      have := r6 c
      omega
theorem FOK.mu {g : Nat → Int32} (h : FOK g) (c4 : ¬ g 4 = 0) (c : ¬ g 2 ≤ g 3) : muF (upd (upd g 4 (nI 0)) 3 (g 3 + nI 0)) < muF g := by
  have st := atStep (h.at c)
  show (if nI 0 = 0 then 0 else _) < _
  rw [if_pos (show nI 0 = 0 from rfl)]
  unfold muF
  rw [if_neg c4]
  omega
theorem muF_lt (g : Nat → Int32) : muF g < 82 := by
  unfold muF
  by_cases c : g 4 = 0
  · rw [if_pos c]; omega
  · rw [if_neg c]; omega
