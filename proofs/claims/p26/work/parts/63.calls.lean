/-! the law's world, and what a call costs -/
abbrev AD : Type := Nat × (Nat → Nat) × (Nat → Nat) × (Nat → Nat) × (Nat → Nat) × (Nat → Nat) × Nat × Nat × Nat × Nat
abbrev SX : Type := (Nat → Int32) × (Nat → Int32) × (Nat → Int32) × (Nat → Int32) × (Nat → Int32) × (Nat → Int32) × (Nat → Int32) × (Nat → Int32) × (Nat → Nat → Nat) × Int32 × Int32 × Int32 × Int32 × (Nat → Int32)
abbrev WSt (G : GG) (d : AD) (nv nq : Nat → Int32) (hn : Nat) (vs qs : Nat → Nat → Int32) (x : SX) : List va_W := [SC d.1 d.2.1 d.2.2.1 d.2.2.2.1 d.2.2.2.2.1 d.2.2.2.2.2.1 d.2.2.2.2.2.2.1 d.2.2.2.2.2.2.2.1 0 (-5) (-5), LC G d.2.1 nv nq, LC G d.2.2.1 x.1 x.2.1, LC G d.2.2.2.1 x.2.2.1 x.2.2.2.1, LC G d.2.2.2.2.1 x.2.2.2.2.1 x.2.2.2.2.2.1, LC G d.2.2.2.2.2.1 x.2.2.2.2.2.2.1 x.2.2.2.2.2.2.2.1, HB G d.2.2.2.2.2.2.1 d.2.2.2.2.2.2.2.2.1 hn x.2.2.2.2.2.2.2.2.1 vs qs, OT G d.2.2.2.2.2.2.2.1 d.2.2.2.2.2.2.2.2.2 x.2.2.2.2.2.2.2.2.2.1 0 x.2.2.2.2.2.2.2.2.2.2.1 x.2.2.2.2.2.2.2.2.2.2.2.1 x.2.2.2.2.2.2.2.2.2.2.2.2.1 x.2.2.2.2.2.2.2.2.2.2.2.2.2]
def WD (G : GG) (A : Nat → Prop) (d : AD) (nv nq : Nat → Int32) (hn : Nat) (vs qs : Nat → Nat → Int32) (H : Heap) : Prop := ∃ x : SX, BW G A (WSt G d nv nq hn vs qs x) H
/-- what the history keeps behind an act that answers r -/
def HR (r : Int32) (hn : Nat) (nv nq : Nat → Int32) (hn' : Nat) (vs' qs' : Nat → Nat → Int32) : Prop := (r < 0 → hn' = hn) ∧ (¬ r < 0 → hn' = (if hn = 4 then 4 else hn + 1) ∧ 1 ≤ hn' ∧ vs' (hn' - 1) = nv ∧ qs' (hn' - 1) = nq) ∧ hn' ≤ 4
theorem rec_ok {r : Int32} {hn : Nat} {ys : Nat → Nat → Nat} {vs qs : Nat → Nat → Int32} {nv nq : Nat → Int32} (h4 : hn ≤ 4) : (f_X6_recorded nv nq hn ys vs qs r).1 = r ∧ HR r hn nv nq (f_X6_recorded nv nq hn ys vs qs r).2.1 (f_X6_recorded nv nq hn ys vs qs r).2.2.2.1 (f_X6_recorded nv nq hn ys vs qs r).2.2.2.2 := by
  by_cases c : r < 0
  · rw [recN c]
    exact ⟨rfl, fun _ => rfl, fun z => absurd c z, h4⟩
  · rw [recP c]
    obtain ⟨h1, h2, h3, h5⟩ := push_ok (xs := ys) (vs := vs) (qs := qs) (v := nv) (q := nq) h4
    exact ⟨rfl, fun z => absurd z c, fun _ => ⟨h1, h2.1, h3, h5⟩, h2.2⟩
theorem ea_setFire {nv nq : Nat → Int32} {hn : Nat} {ys : Nat → Nat → Nat} {vs qs : Nat → Nat → Int32} {p0 p1 : Int32} (h4 : hn ≤ 4) : f_X6_setFire nv nq hn ys vs qs p0 p1 = ((f_X2_changeFire nv p0 p1).1, (f_X2_changeFire nv p0 p1).2, nv, nq, (f_X6_recorded nv nq hn ys vs qs (f_X2_changeFire nv p0 p1).1).2.1, (f_X6_recorded nv nq hn ys vs qs (f_X2_changeFire nv p0 p1).1).2.2.1, (f_X6_recorded nv nq hn ys vs qs (f_X2_changeFire nv p0 p1).1).2.2.2.1, (f_X6_recorded nv nq hn ys vs qs (f_X2_changeFire nv p0 p1).1).2.2.2.2) := by
  have h1 := (rec_ok (r := (f_X2_changeFire nv p0 p1).1) (ys := ys) (vs := vs) (qs := qs) (nv := nv) (nq := nq) h4).1
  unfold f_X6_setFire
  generalize f_X2_changeFire nv p0 p1 = R at h1 ⊢
  obtain ⟨r2, a2⟩ := R
  dsimp only at h1 ⊢
  generalize f_X6_recorded nv nq hn ys vs qs r2 = S at h1 ⊢
  obtain ⟨s1, s2, s3, s4, s5⟩ := S
  dsimp only at h1 ⊢
  rw [h1]
theorem ea_fill {nv nq : Nat → Int32} {hn : Nat} {ys : Nat → Nat → Nat} {vs qs : Nat → Nat → Int32} {p0 p1 : Int32} (h4 : hn ≤ 4) : f_X6_fill nv nq hn ys vs qs p0 p1 = ((f_X2_letWaterIn nv p0 p1).1, (f_X2_letWaterIn nv p0 p1).2, nv, nq, (f_X6_recorded nv nq hn ys vs qs (f_X2_letWaterIn nv p0 p1).1).2.1, (f_X6_recorded nv nq hn ys vs qs (f_X2_letWaterIn nv p0 p1).1).2.2.1, (f_X6_recorded nv nq hn ys vs qs (f_X2_letWaterIn nv p0 p1).1).2.2.2.1, (f_X6_recorded nv nq hn ys vs qs (f_X2_letWaterIn nv p0 p1).1).2.2.2.2) := by
  have h1 := (rec_ok (r := (f_X2_letWaterIn nv p0 p1).1) (ys := ys) (vs := vs) (qs := qs) (nv := nv) (nq := nq) h4).1
  unfold f_X6_fill
  generalize f_X2_letWaterIn nv p0 p1 = R at h1 ⊢
  obtain ⟨r2, a2⟩ := R
  dsimp only at h1 ⊢
  generalize f_X6_recorded nv nq hn ys vs qs r2 = S at h1 ⊢
  obtain ⟨s1, s2, s3, s4, s5⟩ := S
  dsimp only at h1 ⊢
  rw [h1]
theorem ea_setRation {nv nq : Nat → Int32} {hn : Nat} {ys : Nat → Nat → Nat} {vs qs : Nat → Nat → Int32} {p0 : Int32} (h4 : hn ≤ 4) : f_X6_setRation nv nq hn ys vs qs p0 = ((f_X2_changeRation nv p0).1, (f_X2_changeRation nv p0).2, nv, nq, (f_X6_recorded nv nq hn ys vs qs (f_X2_changeRation nv p0).1).2.1, (f_X6_recorded nv nq hn ys vs qs (f_X2_changeRation nv p0).1).2.2.1, (f_X6_recorded nv nq hn ys vs qs (f_X2_changeRation nv p0).1).2.2.2.1, (f_X6_recorded nv nq hn ys vs qs (f_X2_changeRation nv p0).1).2.2.2.2) := by
  have h1 := (rec_ok (r := (f_X2_changeRation nv p0).1) (ys := ys) (vs := vs) (qs := qs) (nv := nv) (nq := nq) h4).1
  unfold f_X6_setRation
  generalize f_X2_changeRation nv p0 = R at h1 ⊢
  obtain ⟨r2, a2⟩ := R
  dsimp only at h1 ⊢
  generalize f_X6_recorded nv nq hn ys vs qs r2 = S at h1 ⊢
  obtain ⟨s1, s2, s3, s4, s5⟩ := S
  dsimp only at h1 ⊢
  rw [h1]
theorem ea_takeOut {nv nq : Nat → Int32} {hn : Nat} {ys : Nat → Nat → Nat} {vs qs : Nat → Nat → Int32} {p0 : Int32} (h4 : hn ≤ 4) : f_X6_takeOut nv nq hn ys vs qs p0 = ((f_X2_unload nv p0).1, (f_X2_unload nv p0).2, nv, nq, (f_X6_recorded nv nq hn ys vs qs (f_X2_unload nv p0).1).2.1, (f_X6_recorded nv nq hn ys vs qs (f_X2_unload nv p0).1).2.2.1, (f_X6_recorded nv nq hn ys vs qs (f_X2_unload nv p0).1).2.2.2.1, (f_X6_recorded nv nq hn ys vs qs (f_X2_unload nv p0).1).2.2.2.2) := by
  have h1 := (rec_ok (r := (f_X2_unload nv p0).1) (ys := ys) (vs := vs) (qs := qs) (nv := nv) (nq := nq) h4).1
  unfold f_X6_takeOut
  generalize f_X2_unload nv p0 = R at h1 ⊢
  obtain ⟨r2, a2⟩ := R
  dsimp only at h1 ⊢
  generalize f_X6_recorded nv nq hn ys vs qs r2 = S at h1 ⊢
  obtain ⟨s1, s2, s3, s4, s5⟩ := S
  dsimp only at h1 ⊢
  rw [h1]
theorem ea_queue {nv nq : Nat → Int32} {hn : Nat} {ys : Nat → Nat → Nat} {vs qs : Nat → Nat → Int32} {p0 : Int32} (h4 : hn ≤ 4) : f_X6_queue nv nq hn ys vs qs p0 = ((f_X2_addToLine nv nq p0).1, (f_X2_addToLine nv nq p0).2.1, (f_X2_addToLine nv nq p0).2.2, nv, nq, (f_X6_recorded nv nq hn ys vs qs (f_X2_addToLine nv nq p0).1).2.1, (f_X6_recorded nv nq hn ys vs qs (f_X2_addToLine nv nq p0).1).2.2.1, (f_X6_recorded nv nq hn ys vs qs (f_X2_addToLine nv nq p0).1).2.2.2.1, (f_X6_recorded nv nq hn ys vs qs (f_X2_addToLine nv nq p0).1).2.2.2.2) := by
  have h1 := (rec_ok (r := (f_X2_addToLine nv nq p0).1) (ys := ys) (vs := vs) (qs := qs) (nv := nv) (nq := nq) h4).1
  unfold f_X6_queue
  generalize f_X2_addToLine nv nq p0 = R at h1 ⊢
  obtain ⟨r2, a2, a3⟩ := R
  dsimp only at h1 ⊢
  generalize f_X6_recorded nv nq hn ys vs qs r2 = S at h1 ⊢
  obtain ⟨s1, s2, s3, s4, s5⟩ := S
  dsimp only at h1 ⊢
  rw [h1]
theorem ea_unqueue {nv nq : Nat → Int32} {hn : Nat} {ys : Nat → Nat → Nat} {vs qs : Nat → Nat → Int32} {p0 : Int32} (h4 : hn ≤ 4) : f_X6_unqueue nv nq hn ys vs qs p0 = ((f_X2_removeFromLine nv nq p0).1, (f_X2_removeFromLine nv nq p0).2.1, (f_X2_removeFromLine nv nq p0).2.2, nv, nq, (f_X6_recorded nv nq hn ys vs qs (f_X2_removeFromLine nv nq p0).1).2.1, (f_X6_recorded nv nq hn ys vs qs (f_X2_removeFromLine nv nq p0).1).2.2.1, (f_X6_recorded nv nq hn ys vs qs (f_X2_removeFromLine nv nq p0).1).2.2.2.1, (f_X6_recorded nv nq hn ys vs qs (f_X2_removeFromLine nv nq p0).1).2.2.2.2) := by
  have h1 := (rec_ok (r := (f_X2_removeFromLine nv nq p0).1) (ys := ys) (vs := vs) (qs := qs) (nv := nv) (nq := nq) h4).1
  unfold f_X6_unqueue
  generalize f_X2_removeFromLine nv nq p0 = R at h1 ⊢
  obtain ⟨r2, a2, a3⟩ := R
  dsimp only at h1 ⊢
  generalize f_X6_recorded nv nq hn ys vs qs r2 = S at h1 ⊢
  obtain ⟨s1, s2, s3, s4, s5⟩ := S
  dsimp only at h1 ⊢
  rw [h1]
theorem ea_start {nv nq yv yq : Nat → Int32} {hn : Nat} {ys : Nat → Nat → Nat} {vs qs : Nat → Nat → Int32} {p0 p1 : Int32} (h4 : hn ≤ 4) : f_X6_start nv nq yv yq hn ys vs qs p0 p1 = ((f_X2_startLoad nv nq yv yq p0 p1).1, (f_X2_startLoad nv nq yv yq p0 p1).2.1, nv, nq, (f_X2_startLoad nv nq yv yq p0 p1).2.2.1, (f_X2_startLoad nv nq yv yq p0 p1).2.2.2, (f_X6_recorded nv nq hn ys vs qs (f_X2_startLoad nv nq yv yq p0 p1).1).2.1, (f_X6_recorded nv nq hn ys vs qs (f_X2_startLoad nv nq yv yq p0 p1).1).2.2.1, (f_X6_recorded nv nq hn ys vs qs (f_X2_startLoad nv nq yv yq p0 p1).1).2.2.2.1, (f_X6_recorded nv nq hn ys vs qs (f_X2_startLoad nv nq yv yq p0 p1).1).2.2.2.2) := by
  have h1 := (rec_ok (r := (f_X2_startLoad nv nq yv yq p0 p1).1) (ys := ys) (vs := vs) (qs := qs) (nv := nv) (nq := nq) h4).1
  unfold f_X6_start
  generalize f_X2_startLoad nv nq yv yq p0 p1 = R at h1 ⊢
  obtain ⟨r2, a2, a3, a4⟩ := R
  dsimp only at h1 ⊢
  generalize f_X6_recorded nv nq hn ys vs qs r2 = S at h1 ⊢
  obtain ⟨s1, s2, s3, s4, s5⟩ := S
  dsimp only at h1 ⊢
  rw [h1]
theorem ea_run {nv nq yv yq : Nat → Int32} {hn : Nat} {ys : Nat → Nat → Nat} {vs qs : Nat → Nat → Int32} {p0 : Int32} (h4 : hn ≤ 4) : f_X6_run nv nq yv yq hn ys vs qs p0 = ((f_X2_letPass nv nq yv yq p0).1, (f_X2_letPass nv nq yv yq p0).2.1, (f_X2_letPass nv nq yv yq p0).2.2.1, nv, nq, (f_X2_letPass nv nq yv yq p0).2.2.2.1, (f_X2_letPass nv nq yv yq p0).2.2.2.2, (f_X6_recorded nv nq hn ys vs qs (f_X2_letPass nv nq yv yq p0).1).2.1, (f_X6_recorded nv nq hn ys vs qs (f_X2_letPass nv nq yv yq p0).1).2.2.1, (f_X6_recorded nv nq hn ys vs qs (f_X2_letPass nv nq yv yq p0).1).2.2.2.1, (f_X6_recorded nv nq hn ys vs qs (f_X2_letPass nv nq yv yq p0).1).2.2.2.2) := by
  have h1 := (rec_ok (r := (f_X2_letPass nv nq yv yq p0).1) (ys := ys) (vs := vs) (qs := qs) (nv := nv) (nq := nq) h4).1
  unfold f_X6_run
  generalize f_X2_letPass nv nq yv yq p0 = R at h1 ⊢
  obtain ⟨r2, a2, a3, a4, a5⟩ := R
  dsimp only at h1 ⊢
  generalize f_X6_recorded nv nq hn ys vs qs r2 = S at h1 ⊢
  obtain ⟨s1, s2, s3, s4, s5⟩ := S
  dsimp only at h1 ⊢
  rw [h1]
theorem here0 {T : Nat → Int32} : f_X4_here (nI 0) 0 T = -1 := by
  unfold f_X4_here
  rw [if_neg (show ¬ nI 0 < 0 by decide), if_pos (show (0 : Int32) ≤ nI 0 by decide)]
theorem acc0 {T : Nat → Int32} {k : Int32} (h : ¬ (-1 : Int32) = k) : f_X4_accept (nI 0) 0 T k = (nI 0, nI 0) := by
  unfold f_X4_accept
  rw [here0, if_neg h]
theorem ro0 {T : Nat → Int32} {tg tv : Int32} : f_X4_readOrder (nI 0) 0 tg tv T = (nI 0, nI 0, -1, tg, tv) := by
  unfold f_X4_readOrder
  rw [acc0 (show ¬ (-1 : Int32) = nI 102 by decide)]
  dsimp only
  rw [if_pos nI0, acc0 (show ¬ (-1 : Int32) = nI 119 by decide)]
  dsimp only
  rw [if_pos nI0, acc0 (show ¬ (-1 : Int32) = nI 109 by decide)]
  dsimp only
  rw [if_pos nI0, acc0 (show ¬ (-1 : Int32) = nI 108 by decide)]
  dsimp only
  rw [if_pos nI0, acc0 (show ¬ (-1 : Int32) = nI 116 by decide)]
  dsimp only
  rw [if_pos nI0, here0]
theorem co0 {T : Nat → Int32} {tr tg tv : Int32} : f_X4_countOrders 0 tr tg tv T = (-100, nI 0, -1, tg, tv) := by
  unfold f_X4_countOrders
  rw [s_X4_countOrders_6, if_neg (show ¬ nI 80 < nI 1 by decide), ro0]
  dsimp only
  rw [if_pos nI0]
  rfl
theorem pf0 {sn se : Int32} {nv nq bv bq yv yq : Nat → Int32} {hn : Nat} {xs : Nat → Nat → Nat} {vs qs : Nat → Nat → Int32} {tr tg tv : Int32} {T : Nat → Int32} : f_X6_perform sn se nv nq bv bq yv yq hn xs vs qs 0 tr tg tv T = (-100, sn, se, nv, nq, bv, bq, yv, yq, hn, xs, vs, qs, nI 0, -1, tg, tv) := by
  unfold f_X6_perform
  rw [co0]
  dsimp only
  rw [if_neg (show ¬ (0 : Int32) ≤ -100 by decide)]
theorem rs0 {nv nq bv bq zv zq : Nat → Int32} {hn : Nat} {xs : Nat → Nat → Nat} {vs qs : Nat → Nat → Int32} : f_X6_restore 0 nv nq bv bq zv zq hn xs vs qs = ((-5), nv, nq, bv, bq, hn, xs, vs, qs) := if_pos rfl
section CALLS
variable {p : Program} {l : Launch} {e : Env} {R : Room} {s : State} {m : MethodId} {args : Array Value} {below : List Frame} {meth : Method} {c : Code} {H : Heap} {locs : List Loc} {cells slots : Nat} {Q : State → Prop}
variable {pc : Nat} {ls : Array Slot} {rest : List Value} {A : Nat → Prop} {H0 : Heap} {G : GG} {cc : ByteArray} {nL : Nat} {ret0 : Option FieldType} {d : AD} {nv nq : Nat → Int32} {hn : Nat} {vs qs : Nat → Nat → Int32}
theorem k_setFire (X : Cx p s m args meth c cc nL wsB RL ret0) (hK : KN G s) (hA : ∀ q : Nat, H0.size ≤ q → A q) (hW : WD G A d nv nq hn vs qs H) (hS : va_S A H0 H locs) {p0 p1 : Int32} (h4 : hn ≤ 4) (hsize : ls.size = nL) (hR : (rest.map fun v => v.category).sum ≤ 8) (hrm : 4 + 1 ≤ R.frames ∧ 8 + (3 + 11) + 86 ≤ R.locals) (hf : cells ≤ R.cells ∧ slots ≤ R.slots) (hdg : decode cc pc = .ok (.invokevirtual 9, 3))
    (kk : ∀ (hn' : Nat) (vs' qs' : Nat → Nat → Int32) (H1 : Heap) (locs1 : List Loc), HR (f_X2_changeFire nv p0 p1).1 hn nv nq hn' vs' qs' → WD G A d (f_X2_changeFire nv p0 p1).2 nq hn' vs' qs' H1 → va_S A H0 H1 locs1 → W p l e R s m args below meth c H1 locs1 cells slots Q (F0 m (pc + 3) ls (.int (f_X2_changeFire nv p0 p1).1 :: rest))) : W p l e R s m args below meth c H locs cells slots Q (F0 m pc ls (.int p1 :: .int p0 :: .ref d.1 :: rest)) := by
  obtain ⟨⟨bv, bq, av, aq, yv, yq, zv, zq, ys, tp, tr, tg, tv, T⟩, hW⟩ := hW
  refine gcallB_I (bc := [SC d.1 d.2.1 d.2.2.1 d.2.2.2.1 d.2.2.2.2.1 d.2.2.2.2.2.1 d.2.2.2.2.2.2.1 d.2.2.2.2.2.2.2.1 0 (-5) (-5), LC G d.2.1 nv nq, LC G d.2.2.1 bv bq, HB G d.2.2.2.2.2.2.1 d.2.2.2.2.2.2.2.2.1 hn ys vs qs]) (runB_V (As := [.int p0, .int p1]) (rest := rest) (bc := [SC d.1 d.2.1 d.2.2.1 d.2.2.2.1 d.2.2.2.2.1 d.2.2.2.2.2.1 d.2.2.2.2.2.2.1 d.2.2.2.2.2.2.2.1 0 (-5) (-5), LC G d.2.1 nv nq, LC G d.2.2.1 bv bq, HB G d.2.2.2.2.2.2.1 d.2.2.2.2.2.2.2.2.1 hn ys vs qs]) X hK hW (c_X6_setFire l G d.1 d.2.1 d.2.2.1 d.2.2.2.1 d.2.2.2.2.1 d.2.2.2.2.2.1 d.2.2.2.2.2.2.1 d.2.2.2.2.2.2.2.1 d.2.2.2.2.2.2.2.2.1 0 (-5) (-5) nv nq bv bq hn ys vs qs H.size p0 p1 h4) (cwV 2 X.2.2.2.2.2.1 gB_setFire rfl rfl rfl cd_X6_setFire hrm) [0, 1, 2, 6] rfl rfl rfl 0 0 rfl (ci := 6) rfl rfl rfl rfl hsize rfl hR hdg hf) hW hS hA [0, 1, 2, 6] rfl rfl rfl (fun u => [SC d.1 d.2.1 d.2.2.1 d.2.2.2.1 d.2.2.2.2.1 d.2.2.2.2.2.1 d.2.2.2.2.2.2.1 d.2.2.2.2.2.2.2.1 0 (-5) (-5), LC G d.2.1 u.1 nq, LC G d.2.2.1 u.2.1 u.2.2.1, HB G d.2.2.2.2.2.2.1 d.2.2.2.2.2.2.2.2.1 u.2.2.2.1 u.2.2.2.2.1 u.2.2.2.2.2.1 u.2.2.2.2.2.2]) (fun _ => rfl) (fun _ => rfl) (fun r u H1 locs1 hw hW1 hS1 => ?_)
  rw [ea_setFire h4] at hw
  obtain ⟨rfl, rfl⟩ := Prod.mk.inj hw
  exact kk _ _ _ H1 locs1 (rec_ok h4).2 ⟨(_, _, _, _, _, _, _, _, _, _, _, _, _, _), hW1⟩ hS1
theorem k_fill (X : Cx p s m args meth c cc nL wsB RL ret0) (hK : KN G s) (hA : ∀ q : Nat, H0.size ≤ q → A q) (hW : WD G A d nv nq hn vs qs H) (hS : va_S A H0 H locs) {p0 p1 : Int32} (h4 : hn ≤ 4) (hsize : ls.size = nL) (hR : (rest.map fun v => v.category).sum ≤ 8) (hrm : 4 + 1 ≤ R.frames ∧ 8 + (3 + 11) + 86 ≤ R.locals) (hf : cells ≤ R.cells ∧ slots ≤ R.slots) (hdg : decode cc pc = .ok (.invokevirtual 15, 3))
    (kk : ∀ (hn' : Nat) (vs' qs' : Nat → Nat → Int32) (H1 : Heap) (locs1 : List Loc), HR (f_X2_letWaterIn nv p0 p1).1 hn nv nq hn' vs' qs' → WD G A d (f_X2_letWaterIn nv p0 p1).2 nq hn' vs' qs' H1 → va_S A H0 H1 locs1 → W p l e R s m args below meth c H1 locs1 cells slots Q (F0 m (pc + 3) ls (.int (f_X2_letWaterIn nv p0 p1).1 :: rest))) : W p l e R s m args below meth c H locs cells slots Q (F0 m pc ls (.int p1 :: .int p0 :: .ref d.1 :: rest)) := by
  obtain ⟨⟨bv, bq, av, aq, yv, yq, zv, zq, ys, tp, tr, tg, tv, T⟩, hW⟩ := hW
  refine gcallB_I (bc := [SC d.1 d.2.1 d.2.2.1 d.2.2.2.1 d.2.2.2.2.1 d.2.2.2.2.2.1 d.2.2.2.2.2.2.1 d.2.2.2.2.2.2.2.1 0 (-5) (-5), LC G d.2.1 nv nq, LC G d.2.2.1 bv bq, HB G d.2.2.2.2.2.2.1 d.2.2.2.2.2.2.2.2.1 hn ys vs qs]) (runB_V (As := [.int p0, .int p1]) (rest := rest) (bc := [SC d.1 d.2.1 d.2.2.1 d.2.2.2.1 d.2.2.2.2.1 d.2.2.2.2.2.1 d.2.2.2.2.2.2.1 d.2.2.2.2.2.2.2.1 0 (-5) (-5), LC G d.2.1 nv nq, LC G d.2.2.1 bv bq, HB G d.2.2.2.2.2.2.1 d.2.2.2.2.2.2.2.2.1 hn ys vs qs]) X hK hW (c_X6_fill l G d.1 d.2.1 d.2.2.1 d.2.2.2.1 d.2.2.2.2.1 d.2.2.2.2.2.1 d.2.2.2.2.2.2.1 d.2.2.2.2.2.2.2.1 d.2.2.2.2.2.2.2.2.1 0 (-5) (-5) nv nq bv bq hn ys vs qs H.size p0 p1 h4) (cwV 2 X.2.2.2.2.2.1 gB_fill rfl rfl rfl cd_X6_fill hrm) [0, 1, 2, 6] rfl rfl rfl 0 0 rfl (ci := 6) rfl rfl rfl rfl hsize rfl hR hdg hf) hW hS hA [0, 1, 2, 6] rfl rfl rfl (fun u => [SC d.1 d.2.1 d.2.2.1 d.2.2.2.1 d.2.2.2.2.1 d.2.2.2.2.2.1 d.2.2.2.2.2.2.1 d.2.2.2.2.2.2.2.1 0 (-5) (-5), LC G d.2.1 u.1 nq, LC G d.2.2.1 u.2.1 u.2.2.1, HB G d.2.2.2.2.2.2.1 d.2.2.2.2.2.2.2.2.1 u.2.2.2.1 u.2.2.2.2.1 u.2.2.2.2.2.1 u.2.2.2.2.2.2]) (fun _ => rfl) (fun _ => rfl) (fun r u H1 locs1 hw hW1 hS1 => ?_)
  rw [ea_fill h4] at hw
  obtain ⟨rfl, rfl⟩ := Prod.mk.inj hw
  exact kk _ _ _ H1 locs1 (rec_ok h4).2 ⟨(_, _, _, _, _, _, _, _, _, _, _, _, _, _), hW1⟩ hS1
theorem k_setRation (X : Cx p s m args meth c cc nL wsB RL ret0) (hK : KN G s) (hA : ∀ q : Nat, H0.size ≤ q → A q) (hW : WD G A d nv nq hn vs qs H) (hS : va_S A H0 H locs) {p0 : Int32} (h4 : hn ≤ 4) (hsize : ls.size = nL) (hR : (rest.map fun v => v.category).sum ≤ 8) (hrm : 4 + 1 ≤ R.frames ∧ 8 + (2 + 11) + 86 ≤ R.locals) (hf : cells ≤ R.cells ∧ slots ≤ R.slots) (hdg : decode cc pc = .ok (.invokevirtual 18, 3))
    (kk : ∀ (hn' : Nat) (vs' qs' : Nat → Nat → Int32) (H1 : Heap) (locs1 : List Loc), HR (f_X2_changeRation nv p0).1 hn nv nq hn' vs' qs' → WD G A d (f_X2_changeRation nv p0).2 nq hn' vs' qs' H1 → va_S A H0 H1 locs1 → W p l e R s m args below meth c H1 locs1 cells slots Q (F0 m (pc + 3) ls (.int (f_X2_changeRation nv p0).1 :: rest))) : W p l e R s m args below meth c H locs cells slots Q (F0 m pc ls (.int p0 :: .ref d.1 :: rest)) := by
  obtain ⟨⟨bv, bq, av, aq, yv, yq, zv, zq, ys, tp, tr, tg, tv, T⟩, hW⟩ := hW
  refine gcallB_I (bc := [SC d.1 d.2.1 d.2.2.1 d.2.2.2.1 d.2.2.2.2.1 d.2.2.2.2.2.1 d.2.2.2.2.2.2.1 d.2.2.2.2.2.2.2.1 0 (-5) (-5), LC G d.2.1 nv nq, LC G d.2.2.1 bv bq, HB G d.2.2.2.2.2.2.1 d.2.2.2.2.2.2.2.2.1 hn ys vs qs]) (runB_V (As := [.int p0]) (rest := rest) (bc := [SC d.1 d.2.1 d.2.2.1 d.2.2.2.1 d.2.2.2.2.1 d.2.2.2.2.2.1 d.2.2.2.2.2.2.1 d.2.2.2.2.2.2.2.1 0 (-5) (-5), LC G d.2.1 nv nq, LC G d.2.2.1 bv bq, HB G d.2.2.2.2.2.2.1 d.2.2.2.2.2.2.2.2.1 hn ys vs qs]) X hK hW (c_X6_setRation l G d.1 d.2.1 d.2.2.1 d.2.2.2.1 d.2.2.2.2.1 d.2.2.2.2.2.1 d.2.2.2.2.2.2.1 d.2.2.2.2.2.2.2.1 d.2.2.2.2.2.2.2.2.1 0 (-5) (-5) nv nq bv bq hn ys vs qs H.size p0 h4) (cwV 1 X.2.2.2.2.2.1 gB_setRation rfl rfl rfl cd_X6_setRation hrm) [0, 1, 2, 6] rfl rfl rfl 0 0 rfl (ci := 6) rfl rfl rfl rfl hsize rfl hR hdg hf) hW hS hA [0, 1, 2, 6] rfl rfl rfl (fun u => [SC d.1 d.2.1 d.2.2.1 d.2.2.2.1 d.2.2.2.2.1 d.2.2.2.2.2.1 d.2.2.2.2.2.2.1 d.2.2.2.2.2.2.2.1 0 (-5) (-5), LC G d.2.1 u.1 nq, LC G d.2.2.1 u.2.1 u.2.2.1, HB G d.2.2.2.2.2.2.1 d.2.2.2.2.2.2.2.2.1 u.2.2.2.1 u.2.2.2.2.1 u.2.2.2.2.2.1 u.2.2.2.2.2.2]) (fun _ => rfl) (fun _ => rfl) (fun r u H1 locs1 hw hW1 hS1 => ?_)
  rw [ea_setRation h4] at hw
  obtain ⟨rfl, rfl⟩ := Prod.mk.inj hw
  exact kk _ _ _ H1 locs1 (rec_ok h4).2 ⟨(_, _, _, _, _, _, _, _, _, _, _, _, _, _), hW1⟩ hS1
theorem k_start (X : Cx p s m args meth c cc nL wsB RL ret0) (hK : KN G s) (hA : ∀ q : Nat, H0.size ≤ q → A q) (hW : WD G A d nv nq hn vs qs H) (hS : va_S A H0 H locs) {p0 p1 : Int32} (h4 : hn ≤ 4) (hsize : ls.size = nL) (hR : (rest.map fun v => v.category).sum ≤ 8) (hrm : 5 + 1 ≤ R.frames ∧ 8 + (3 + 11) + 137 ≤ R.locals) (hf : cells ≤ R.cells ∧ slots ≤ R.slots) (hdg : decode cc pc = .ok (.invokevirtual 22, 3))
    (kk : ∀ (yv yq : Nat → Int32) (hn' : Nat) (vs' qs' : Nat → Nat → Int32) (H1 : Heap) (locs1 : List Loc), HR (f_X2_startLoad nv nq yv yq p0 p1).1 hn nv nq hn' vs' qs' → WD G A d (f_X2_startLoad nv nq yv yq p0 p1).2.1 nq hn' vs' qs' H1 → va_S A H0 H1 locs1 → W p l e R s m args below meth c H1 locs1 cells slots Q (F0 m (pc + 3) ls (.int (f_X2_startLoad nv nq yv yq p0 p1).1 :: rest))) : W p l e R s m args below meth c H locs cells slots Q (F0 m pc ls (.int p1 :: .int p0 :: .ref d.1 :: rest)) := by
  obtain ⟨⟨bv, bq, av, aq, yv, yq, zv, zq, ys, tp, tr, tg, tv, T⟩, hW⟩ := hW
  refine gcallB_I (bc := [SC d.1 d.2.1 d.2.2.1 d.2.2.2.1 d.2.2.2.2.1 d.2.2.2.2.2.1 d.2.2.2.2.2.2.1 d.2.2.2.2.2.2.2.1 0 (-5) (-5), LC G d.2.1 nv nq, LC G d.2.2.1 bv bq, LC G d.2.2.2.2.1 yv yq, HB G d.2.2.2.2.2.2.1 d.2.2.2.2.2.2.2.2.1 hn ys vs qs]) (runB_V (As := [.int p0, .int p1]) (rest := rest) (bc := [SC d.1 d.2.1 d.2.2.1 d.2.2.2.1 d.2.2.2.2.1 d.2.2.2.2.2.1 d.2.2.2.2.2.2.1 d.2.2.2.2.2.2.2.1 0 (-5) (-5), LC G d.2.1 nv nq, LC G d.2.2.1 bv bq, LC G d.2.2.2.2.1 yv yq, HB G d.2.2.2.2.2.2.1 d.2.2.2.2.2.2.2.2.1 hn ys vs qs]) X hK hW (c_X6_start l G d.1 d.2.1 d.2.2.1 d.2.2.2.1 d.2.2.2.2.1 d.2.2.2.2.2.1 d.2.2.2.2.2.2.1 d.2.2.2.2.2.2.2.1 d.2.2.2.2.2.2.2.2.1 0 (-5) (-5) nv nq bv bq yv yq hn ys vs qs H.size p0 p1 h4) (cwV 2 X.2.2.2.2.2.1 gB_start rfl rfl rfl cd_X6_start hrm) [0, 1, 2, 4, 6] rfl rfl rfl 0 0 rfl (ci := 6) rfl rfl rfl rfl hsize rfl hR hdg hf) hW hS hA [0, 1, 2, 4, 6] rfl rfl rfl (fun u => [SC d.1 d.2.1 d.2.2.1 d.2.2.2.1 d.2.2.2.2.1 d.2.2.2.2.2.1 d.2.2.2.2.2.2.1 d.2.2.2.2.2.2.2.1 0 (-5) (-5), LC G d.2.1 u.1 nq, LC G d.2.2.1 u.2.1 u.2.2.1, LC G d.2.2.2.2.1 u.2.2.2.1 u.2.2.2.2.1, HB G d.2.2.2.2.2.2.1 d.2.2.2.2.2.2.2.2.1 u.2.2.2.2.2.1 u.2.2.2.2.2.2.1 u.2.2.2.2.2.2.2.1 u.2.2.2.2.2.2.2.2]) (fun _ => rfl) (fun _ => rfl) (fun r u H1 locs1 hw hW1 hS1 => ?_)
  rw [ea_start h4] at hw
  obtain ⟨rfl, rfl⟩ := Prod.mk.inj hw
  exact kk yv yq _ _ _ H1 locs1 (rec_ok h4).2 ⟨(_, _, _, _, _, _, _, _, _, _, _, _, _, _), hW1⟩ hS1
theorem k_queue (X : Cx p s m args meth c cc nL wsB RL ret0) (hK : KN G s) (hA : ∀ q : Nat, H0.size ≤ q → A q) (hW : WD G A d nv nq hn vs qs H) (hS : va_S A H0 H locs) {p0 : Int32} (h4 : hn ≤ 4) (hsize : ls.size = nL) (hR : (rest.map fun v => v.category).sum ≤ 8) (hrm : 4 + 1 ≤ R.frames ∧ 8 + (2 + 11) + 86 ≤ R.locals) (hf : cells ≤ R.cells ∧ slots ≤ R.slots) (hdg : decode cc pc = .ok (.invokevirtual 25, 3))
    (kk : ∀ (hn' : Nat) (vs' qs' : Nat → Nat → Int32) (H1 : Heap) (locs1 : List Loc), HR (f_X2_addToLine nv nq p0).1 hn nv nq hn' vs' qs' → WD G A d (f_X2_addToLine nv nq p0).2.1 (f_X2_addToLine nv nq p0).2.2 hn' vs' qs' H1 → va_S A H0 H1 locs1 → W p l e R s m args below meth c H1 locs1 cells slots Q (F0 m (pc + 3) ls (.int (f_X2_addToLine nv nq p0).1 :: rest))) : W p l e R s m args below meth c H locs cells slots Q (F0 m pc ls (.int p0 :: .ref d.1 :: rest)) := by
  obtain ⟨⟨bv, bq, av, aq, yv, yq, zv, zq, ys, tp, tr, tg, tv, T⟩, hW⟩ := hW
  refine gcallB_I (bc := [SC d.1 d.2.1 d.2.2.1 d.2.2.2.1 d.2.2.2.2.1 d.2.2.2.2.2.1 d.2.2.2.2.2.2.1 d.2.2.2.2.2.2.2.1 0 (-5) (-5), LC G d.2.1 nv nq, LC G d.2.2.1 bv bq, HB G d.2.2.2.2.2.2.1 d.2.2.2.2.2.2.2.2.1 hn ys vs qs]) (runB_V (As := [.int p0]) (rest := rest) (bc := [SC d.1 d.2.1 d.2.2.1 d.2.2.2.1 d.2.2.2.2.1 d.2.2.2.2.2.1 d.2.2.2.2.2.2.1 d.2.2.2.2.2.2.2.1 0 (-5) (-5), LC G d.2.1 nv nq, LC G d.2.2.1 bv bq, HB G d.2.2.2.2.2.2.1 d.2.2.2.2.2.2.2.2.1 hn ys vs qs]) X hK hW (c_X6_queue l G d.1 d.2.1 d.2.2.1 d.2.2.2.1 d.2.2.2.2.1 d.2.2.2.2.2.1 d.2.2.2.2.2.2.1 d.2.2.2.2.2.2.2.1 d.2.2.2.2.2.2.2.2.1 0 (-5) (-5) nv nq bv bq hn ys vs qs H.size p0 h4) (cwV 1 X.2.2.2.2.2.1 gB_queue rfl rfl rfl cd_X6_queue hrm) [0, 1, 2, 6] rfl rfl rfl 0 0 rfl (ci := 6) rfl rfl rfl rfl hsize rfl hR hdg hf) hW hS hA [0, 1, 2, 6] rfl rfl rfl (fun u => [SC d.1 d.2.1 d.2.2.1 d.2.2.2.1 d.2.2.2.2.1 d.2.2.2.2.2.1 d.2.2.2.2.2.2.1 d.2.2.2.2.2.2.2.1 0 (-5) (-5), LC G d.2.1 u.1 u.2.1, LC G d.2.2.1 u.2.2.1 u.2.2.2.1, HB G d.2.2.2.2.2.2.1 d.2.2.2.2.2.2.2.2.1 u.2.2.2.2.1 u.2.2.2.2.2.1 u.2.2.2.2.2.2.1 u.2.2.2.2.2.2.2]) (fun _ => rfl) (fun _ => rfl) (fun r u H1 locs1 hw hW1 hS1 => ?_)
  rw [ea_queue h4] at hw
  obtain ⟨rfl, rfl⟩ := Prod.mk.inj hw
  exact kk _ _ _ H1 locs1 (rec_ok h4).2 ⟨(_, _, _, _, _, _, _, _, _, _, _, _, _, _), hW1⟩ hS1
theorem k_unqueue (X : Cx p s m args meth c cc nL wsB RL ret0) (hK : KN G s) (hA : ∀ q : Nat, H0.size ≤ q → A q) (hW : WD G A d nv nq hn vs qs H) (hS : va_S A H0 H locs) {p0 : Int32} (h4 : hn ≤ 4) (hsize : ls.size = nL) (hR : (rest.map fun v => v.category).sum ≤ 8) (hrm : 4 + 1 ≤ R.frames ∧ 8 + (2 + 11) + 86 ≤ R.locals) (hf : cells ≤ R.cells ∧ slots ≤ R.slots) (hdg : decode cc pc = .ok (.invokevirtual 28, 3))
    (kk : ∀ (hn' : Nat) (vs' qs' : Nat → Nat → Int32) (H1 : Heap) (locs1 : List Loc), HR (f_X2_removeFromLine nv nq p0).1 hn nv nq hn' vs' qs' → WD G A d (f_X2_removeFromLine nv nq p0).2.1 (f_X2_removeFromLine nv nq p0).2.2 hn' vs' qs' H1 → va_S A H0 H1 locs1 → W p l e R s m args below meth c H1 locs1 cells slots Q (F0 m (pc + 3) ls (.int (f_X2_removeFromLine nv nq p0).1 :: rest))) : W p l e R s m args below meth c H locs cells slots Q (F0 m pc ls (.int p0 :: .ref d.1 :: rest)) := by
  obtain ⟨⟨bv, bq, av, aq, yv, yq, zv, zq, ys, tp, tr, tg, tv, T⟩, hW⟩ := hW
  refine gcallB_I (bc := [SC d.1 d.2.1 d.2.2.1 d.2.2.2.1 d.2.2.2.2.1 d.2.2.2.2.2.1 d.2.2.2.2.2.2.1 d.2.2.2.2.2.2.2.1 0 (-5) (-5), LC G d.2.1 nv nq, LC G d.2.2.1 bv bq, HB G d.2.2.2.2.2.2.1 d.2.2.2.2.2.2.2.2.1 hn ys vs qs]) (runB_V (As := [.int p0]) (rest := rest) (bc := [SC d.1 d.2.1 d.2.2.1 d.2.2.2.1 d.2.2.2.2.1 d.2.2.2.2.2.1 d.2.2.2.2.2.2.1 d.2.2.2.2.2.2.2.1 0 (-5) (-5), LC G d.2.1 nv nq, LC G d.2.2.1 bv bq, HB G d.2.2.2.2.2.2.1 d.2.2.2.2.2.2.2.2.1 hn ys vs qs]) X hK hW (c_X6_unqueue l G d.1 d.2.1 d.2.2.1 d.2.2.2.1 d.2.2.2.2.1 d.2.2.2.2.2.1 d.2.2.2.2.2.2.1 d.2.2.2.2.2.2.2.1 d.2.2.2.2.2.2.2.2.1 0 (-5) (-5) nv nq bv bq hn ys vs qs H.size p0 h4) (cwV 1 X.2.2.2.2.2.1 gB_unqueue rfl rfl rfl cd_X6_unqueue hrm) [0, 1, 2, 6] rfl rfl rfl 0 0 rfl (ci := 6) rfl rfl rfl rfl hsize rfl hR hdg hf) hW hS hA [0, 1, 2, 6] rfl rfl rfl (fun u => [SC d.1 d.2.1 d.2.2.1 d.2.2.2.1 d.2.2.2.2.1 d.2.2.2.2.2.1 d.2.2.2.2.2.2.1 d.2.2.2.2.2.2.2.1 0 (-5) (-5), LC G d.2.1 u.1 u.2.1, LC G d.2.2.1 u.2.2.1 u.2.2.2.1, HB G d.2.2.2.2.2.2.1 d.2.2.2.2.2.2.2.2.1 u.2.2.2.2.1 u.2.2.2.2.2.1 u.2.2.2.2.2.2.1 u.2.2.2.2.2.2.2]) (fun _ => rfl) (fun _ => rfl) (fun r u H1 locs1 hw hW1 hS1 => ?_)
  rw [ea_unqueue h4] at hw
  obtain ⟨rfl, rfl⟩ := Prod.mk.inj hw
  exact kk _ _ _ H1 locs1 (rec_ok h4).2 ⟨(_, _, _, _, _, _, _, _, _, _, _, _, _, _), hW1⟩ hS1
theorem k_takeOut (X : Cx p s m args meth c cc nL wsB RL ret0) (hK : KN G s) (hA : ∀ q : Nat, H0.size ≤ q → A q) (hW : WD G A d nv nq hn vs qs H) (hS : va_S A H0 H locs) {p0 : Int32} (h4 : hn ≤ 4) (hsize : ls.size = nL) (hR : (rest.map fun v => v.category).sum ≤ 8) (hrm : 4 + 1 ≤ R.frames ∧ 8 + (2 + 11) + 86 ≤ R.locals) (hf : cells ≤ R.cells ∧ slots ≤ R.slots) (hdg : decode cc pc = .ok (.invokevirtual 31, 3))
    (kk : ∀ (hn' : Nat) (vs' qs' : Nat → Nat → Int32) (H1 : Heap) (locs1 : List Loc), HR (f_X2_unload nv p0).1 hn nv nq hn' vs' qs' → WD G A d (f_X2_unload nv p0).2 nq hn' vs' qs' H1 → va_S A H0 H1 locs1 → W p l e R s m args below meth c H1 locs1 cells slots Q (F0 m (pc + 3) ls (.int (f_X2_unload nv p0).1 :: rest))) : W p l e R s m args below meth c H locs cells slots Q (F0 m pc ls (.int p0 :: .ref d.1 :: rest)) := by
  obtain ⟨⟨bv, bq, av, aq, yv, yq, zv, zq, ys, tp, tr, tg, tv, T⟩, hW⟩ := hW
  refine gcallB_I (bc := [SC d.1 d.2.1 d.2.2.1 d.2.2.2.1 d.2.2.2.2.1 d.2.2.2.2.2.1 d.2.2.2.2.2.2.1 d.2.2.2.2.2.2.2.1 0 (-5) (-5), LC G d.2.1 nv nq, LC G d.2.2.1 bv bq, HB G d.2.2.2.2.2.2.1 d.2.2.2.2.2.2.2.2.1 hn ys vs qs]) (runB_V (As := [.int p0]) (rest := rest) (bc := [SC d.1 d.2.1 d.2.2.1 d.2.2.2.1 d.2.2.2.2.1 d.2.2.2.2.2.1 d.2.2.2.2.2.2.1 d.2.2.2.2.2.2.2.1 0 (-5) (-5), LC G d.2.1 nv nq, LC G d.2.2.1 bv bq, HB G d.2.2.2.2.2.2.1 d.2.2.2.2.2.2.2.2.1 hn ys vs qs]) X hK hW (c_X6_takeOut l G d.1 d.2.1 d.2.2.1 d.2.2.2.1 d.2.2.2.2.1 d.2.2.2.2.2.1 d.2.2.2.2.2.2.1 d.2.2.2.2.2.2.2.1 d.2.2.2.2.2.2.2.2.1 0 (-5) (-5) nv nq bv bq hn ys vs qs H.size p0 h4) (cwV 1 X.2.2.2.2.2.1 gB_takeOut rfl rfl rfl cd_X6_takeOut hrm) [0, 1, 2, 6] rfl rfl rfl 0 0 rfl (ci := 6) rfl rfl rfl rfl hsize rfl hR hdg hf) hW hS hA [0, 1, 2, 6] rfl rfl rfl (fun u => [SC d.1 d.2.1 d.2.2.1 d.2.2.2.1 d.2.2.2.2.1 d.2.2.2.2.2.1 d.2.2.2.2.2.2.1 d.2.2.2.2.2.2.2.1 0 (-5) (-5), LC G d.2.1 u.1 nq, LC G d.2.2.1 u.2.1 u.2.2.1, HB G d.2.2.2.2.2.2.1 d.2.2.2.2.2.2.2.2.1 u.2.2.2.1 u.2.2.2.2.1 u.2.2.2.2.2.1 u.2.2.2.2.2.2]) (fun _ => rfl) (fun _ => rfl) (fun r u H1 locs1 hw hW1 hS1 => ?_)
  rw [ea_takeOut h4] at hw
  obtain ⟨rfl, rfl⟩ := Prod.mk.inj hw
  exact kk _ _ _ H1 locs1 (rec_ok h4).2 ⟨(_, _, _, _, _, _, _, _, _, _, _, _, _, _), hW1⟩ hS1
theorem k_run (X : Cx p s m args meth c cc nL wsB RL ret0) (hK : KN G s) (hA : ∀ q : Nat, H0.size ≤ q → A q) (hW : WD G A d nv nq hn vs qs H) (hS : va_S A H0 H locs) {p0 : Int32} (h4 : hn ≤ 4) (hsize : ls.size = nL) (hR : (rest.map fun v => v.category).sum ≤ 8) (hrm : 6 + 1 ≤ R.frames ∧ 8 + (2 + 11) + 159 ≤ R.locals) (hf : cells ≤ R.cells ∧ slots ≤ R.slots) (hdg : decode cc pc = .ok (.invokevirtual 34, 3))
    (kk : ∀ (yv yq : Nat → Int32) (hn' : Nat) (vs' qs' : Nat → Nat → Int32) (H1 : Heap) (locs1 : List Loc), HR (f_X2_letPass nv nq yv yq p0).1 hn nv nq hn' vs' qs' → WD G A d (f_X2_letPass nv nq yv yq p0).2.1 (f_X2_letPass nv nq yv yq p0).2.2.1 hn' vs' qs' H1 → va_S A H0 H1 locs1 → W p l e R s m args below meth c H1 locs1 cells slots Q (F0 m (pc + 3) ls (.int (f_X2_letPass nv nq yv yq p0).1 :: rest))) : W p l e R s m args below meth c H locs cells slots Q (F0 m pc ls (.int p0 :: .ref d.1 :: rest)) := by
  obtain ⟨⟨bv, bq, av, aq, yv, yq, zv, zq, ys, tp, tr, tg, tv, T⟩, hW⟩ := hW
  refine gcallB_I (bc := [SC d.1 d.2.1 d.2.2.1 d.2.2.2.1 d.2.2.2.2.1 d.2.2.2.2.2.1 d.2.2.2.2.2.2.1 d.2.2.2.2.2.2.2.1 0 (-5) (-5), LC G d.2.1 nv nq, LC G d.2.2.1 bv bq, LC G d.2.2.2.2.1 yv yq, HB G d.2.2.2.2.2.2.1 d.2.2.2.2.2.2.2.2.1 hn ys vs qs]) (runB_V (As := [.int p0]) (rest := rest) (bc := [SC d.1 d.2.1 d.2.2.1 d.2.2.2.1 d.2.2.2.2.1 d.2.2.2.2.2.1 d.2.2.2.2.2.2.1 d.2.2.2.2.2.2.2.1 0 (-5) (-5), LC G d.2.1 nv nq, LC G d.2.2.1 bv bq, LC G d.2.2.2.2.1 yv yq, HB G d.2.2.2.2.2.2.1 d.2.2.2.2.2.2.2.2.1 hn ys vs qs]) X hK hW (c_X6_run l G d.1 d.2.1 d.2.2.1 d.2.2.2.1 d.2.2.2.2.1 d.2.2.2.2.2.1 d.2.2.2.2.2.2.1 d.2.2.2.2.2.2.2.1 d.2.2.2.2.2.2.2.2.1 0 (-5) (-5) nv nq bv bq yv yq hn ys vs qs H.size p0 h4) (cwV 1 X.2.2.2.2.2.1 gB_run rfl rfl rfl cd_X6_run hrm) [0, 1, 2, 4, 6] rfl rfl rfl 0 0 rfl (ci := 6) rfl rfl rfl rfl hsize rfl hR hdg hf) hW hS hA [0, 1, 2, 4, 6] rfl rfl rfl (fun u => [SC d.1 d.2.1 d.2.2.1 d.2.2.2.1 d.2.2.2.2.1 d.2.2.2.2.2.1 d.2.2.2.2.2.2.1 d.2.2.2.2.2.2.2.1 0 (-5) (-5), LC G d.2.1 u.1 u.2.1, LC G d.2.2.1 u.2.2.1 u.2.2.2.1, LC G d.2.2.2.2.1 u.2.2.2.2.1 u.2.2.2.2.2.1, HB G d.2.2.2.2.2.2.1 d.2.2.2.2.2.2.2.2.1 u.2.2.2.2.2.2.1 u.2.2.2.2.2.2.2.1 u.2.2.2.2.2.2.2.2.1 u.2.2.2.2.2.2.2.2.2]) (fun _ => rfl) (fun _ => rfl) (fun r u H1 locs1 hw hW1 hS1 => ?_)
  rw [ea_run h4] at hw
  obtain ⟨rfl, rfl⟩ := Prod.mk.inj hw
  exact kk yv yq _ _ _ H1 locs1 (rec_ok h4).2 ⟨(_, _, _, _, _, _, _, _, _, _, _, _, _, _), hW1⟩ hS1
theorem k_perform (X : Cx p s m args meth c cc nL wsB RL ret0) (hK : KN G s) (hA : ∀ q : Nat, H0.size ≤ q → A q) (hW : WD G A d nv nq hn vs qs H) (hS : va_S A H0 H locs) (h4 : hn ≤ 4) (hsize : ls.size = nL) (hR : (rest.map fun v => v.category).sum ≤ 8) (hrm : 7 + 1 ≤ R.frames ∧ 8 + (4 + 11) + 179 ≤ R.locals) (hf : cells ≤ R.cells ∧ slots ≤ R.slots) (hdg : decode cc pc = .ok (.invokevirtual 66, 3))
    (kk : ∀ (H1 : Heap) (locs1 : List Loc), WD G A d nv nq hn vs qs H1 → va_S A H0 H1 locs1 → W p l e R s m args below meth c H1 locs1 cells slots Q (F0 m (pc + 3) ls (.int (-100) :: rest))) : W p l e R s m args below meth c H locs cells slots Q (F0 m pc ls (.ref d.1 :: rest)) := by
  obtain ⟨⟨bv, bq, av, aq, yv, yq, zv, zq, ys, tp, tr, tg, tv, T⟩, hW⟩ := hW
  refine gcallB_I (bc := [SC d.1 d.2.1 d.2.2.1 d.2.2.2.1 d.2.2.2.2.1 d.2.2.2.2.2.1 d.2.2.2.2.2.2.1 d.2.2.2.2.2.2.2.1 0 (-5) (-5), LC G d.2.1 nv nq, LC G d.2.2.1 bv bq, LC G d.2.2.2.2.1 yv yq, HB G d.2.2.2.2.2.2.1 d.2.2.2.2.2.2.2.2.1 hn ys vs qs, OT G d.2.2.2.2.2.2.2.1 d.2.2.2.2.2.2.2.2.2 tp 0 tr tg tv T]) (runB_V (As := []) (rest := rest) (bc := [SC d.1 d.2.1 d.2.2.1 d.2.2.2.1 d.2.2.2.2.1 d.2.2.2.2.2.1 d.2.2.2.2.2.2.1 d.2.2.2.2.2.2.2.1 0 (-5) (-5), LC G d.2.1 nv nq, LC G d.2.2.1 bv bq, LC G d.2.2.2.2.1 yv yq, HB G d.2.2.2.2.2.2.1 d.2.2.2.2.2.2.2.2.1 hn ys vs qs, OT G d.2.2.2.2.2.2.2.1 d.2.2.2.2.2.2.2.2.2 tp 0 tr tg tv T]) X hK hW (c_X6_perform l G d.1 d.2.1 d.2.2.1 d.2.2.2.1 d.2.2.2.2.1 d.2.2.2.2.2.1 d.2.2.2.2.2.2.1 d.2.2.2.2.2.2.2.1 d.2.2.2.2.2.2.2.2.1 d.2.2.2.2.2.2.2.2.2 0 (-5) (-5) nv nq bv bq yv yq hn ys vs qs tp 0 tr tg tv T H.size h4) (cwV 0 X.2.2.2.2.2.1 gB_perform rfl rfl rfl cd_X6_perform hrm) [0, 1, 2, 4, 6, 7] rfl rfl rfl 0 0 rfl (ci := 6) rfl rfl rfl rfl hsize rfl hR hdg hf) hW hS hA [0, 1, 2, 4, 6, 7] rfl rfl rfl (fun u => [SC d.1 d.2.1 d.2.2.1 d.2.2.2.1 d.2.2.2.2.1 d.2.2.2.2.2.1 d.2.2.2.2.2.2.1 d.2.2.2.2.2.2.2.1 0 u.1 u.2.1, LC G d.2.1 u.2.2.1 u.2.2.2.1, LC G d.2.2.1 u.2.2.2.2.1 u.2.2.2.2.2.1, LC G d.2.2.2.2.1 u.2.2.2.2.2.2.1 u.2.2.2.2.2.2.2.1, HB G d.2.2.2.2.2.2.1 d.2.2.2.2.2.2.2.2.1 u.2.2.2.2.2.2.2.2.1 u.2.2.2.2.2.2.2.2.2.1 u.2.2.2.2.2.2.2.2.2.2.1 u.2.2.2.2.2.2.2.2.2.2.2.1, OT G d.2.2.2.2.2.2.2.1 d.2.2.2.2.2.2.2.2.2 u.2.2.2.2.2.2.2.2.2.2.2.2.1 0 u.2.2.2.2.2.2.2.2.2.2.2.2.2.1 u.2.2.2.2.2.2.2.2.2.2.2.2.2.2.1 u.2.2.2.2.2.2.2.2.2.2.2.2.2.2.2 T]) (fun _ => rfl) (fun _ => rfl) (fun r u H1 locs1 hw hW1 hS1 => ?_)
  rw [pf0] at hw
  obtain ⟨rfl, rfl⟩ := Prod.mk.inj hw
  exact kk H1 locs1 ⟨(_, _, _, _, _, _, _, _, _, _, _, _, _, _), hW1⟩ hS1
theorem k_stopped (X : Cx p s m args meth c cc nL wsB RL ret0) (hK : KN G s) (hA : ∀ q : Nat, H0.size ≤ q → A q) (hW : WD G A d nv nq hn vs qs H) (hS : va_S A H0 H locs) {p0 : Int32} (hsize : ls.size = nL) (hR : (rest.map fun v => v.category).sum ≤ 8) (hrm : 0 + 1 ≤ R.frames ∧ 8 + (2 + 11) + 0 ≤ R.locals) (hf : cells ≤ R.cells ∧ slots ≤ R.slots) (hdg : decode cc pc = .ok (.invokevirtual 63, 3))
    (kk : ∀ (H1 : Heap) (locs1 : List Loc), WD G A d nv nq hn vs qs H1 → va_S A H0 H1 locs1 → W p l e R s m args below meth c H1 locs1 cells slots Q (F0 m (pc + 3) ls (.int (f_X6_stopped (-5) (-5) p0) :: rest))) : W p l e R s m args below meth c H locs cells slots Q (F0 m pc ls (.int p0 :: .ref d.1 :: rest)) := by
  obtain ⟨⟨bv, bq, av, aq, yv, yq, zv, zq, ys, tp, tr, tg, tv, T⟩, hW⟩ := hW
  refine gcallB_I (bc := [SC d.1 d.2.1 d.2.2.1 d.2.2.2.1 d.2.2.2.2.1 d.2.2.2.2.2.1 d.2.2.2.2.2.2.1 d.2.2.2.2.2.2.2.1 0 (-5) (-5)]) (runB_V (As := [.int p0]) (rest := rest) (bc := [SC d.1 d.2.1 d.2.2.1 d.2.2.2.1 d.2.2.2.2.1 d.2.2.2.2.2.1 d.2.2.2.2.2.2.1 d.2.2.2.2.2.2.2.1 0 (-5) (-5)]) X hK hW (c_X6_stopped l G d.1 d.2.1 d.2.2.1 d.2.2.2.1 d.2.2.2.2.1 d.2.2.2.2.2.1 d.2.2.2.2.2.2.1 d.2.2.2.2.2.2.2.1 0 (-5) (-5) H.size p0) (cwV 1 X.2.2.2.2.2.1 gB_stopped rfl rfl rfl cd_X6_stopped hrm) [0] rfl rfl rfl 0 0 rfl (ci := 6) rfl rfl rfl rfl hsize rfl hR hdg hf) hW hS hA [0] rfl rfl rfl (fun _ => [SC d.1 d.2.1 d.2.2.1 d.2.2.2.1 d.2.2.2.2.1 d.2.2.2.2.2.1 d.2.2.2.2.2.2.1 d.2.2.2.2.2.2.2.1 0 (-5) (-5)]) (fun _ => rfl) (fun _ => rfl) (fun r u H1 locs1 hw hW1 hS1 => ?_)
  subst hw
  exact kk H1 locs1 ⟨(bv, bq, av, aq, yv, yq, zv, zq, ys, tp, tr, tg, tv, T), hW1⟩ hS1
theorem k_undo (X : Cx p s m args meth c cc nL wsB RL ret0) (hK : KN G s) (hA : ∀ q : Nat, H0.size ≤ q → A q) (hW : WD G A d nv nq hn vs qs H) (hS : va_S A H0 H locs) (h4 : hn ≤ 4) (hsize : ls.size = nL) (hR : (rest.map fun v => v.category).sum ≤ 8) (hrm : 3 + 1 ≤ R.frames ∧ 8 + (1 + 11) + 65 ≤ R.locals) (hf : cells ≤ R.cells ∧ slots ≤ R.slots) (hdg : decode cc pc = .ok (.invokevirtual 57, 3))
    (kk : ∀ (r : Int32) (u : (Nat → Int32) × (Nat → Int32) × Nat) (H1 : Heap) (locs1 : List Loc), f_X6_undo nv nq hn vs qs = (r, u) → WD G A d u.1 u.2.1 u.2.2 vs qs H1 → va_S A H0 H1 locs1 → W p l e R s m args below meth c H1 locs1 cells slots Q (F0 m (pc + 3) ls (.int r :: rest))) : W p l e R s m args below meth c H locs cells slots Q (F0 m pc ls (.ref d.1 :: rest)) := by
  obtain ⟨⟨bv, bq, av, aq, yv, yq, zv, zq, ys, tp, tr, tg, tv, T⟩, hW⟩ := hW
  refine gcallB_I (bc := [SC d.1 d.2.1 d.2.2.1 d.2.2.2.1 d.2.2.2.2.1 d.2.2.2.2.2.1 d.2.2.2.2.2.2.1 d.2.2.2.2.2.2.2.1 0 (-5) (-5), LC G d.2.1 nv nq, HB G d.2.2.2.2.2.2.1 d.2.2.2.2.2.2.2.2.1 hn ys vs qs]) (runB_V (As := []) (rest := rest) (bc := [SC d.1 d.2.1 d.2.2.1 d.2.2.2.1 d.2.2.2.2.1 d.2.2.2.2.2.1 d.2.2.2.2.2.2.1 d.2.2.2.2.2.2.2.1 0 (-5) (-5), LC G d.2.1 nv nq, HB G d.2.2.2.2.2.2.1 d.2.2.2.2.2.2.2.2.1 hn ys vs qs]) X hK hW (c_X6_undo l G d.1 d.2.1 d.2.2.1 d.2.2.2.1 d.2.2.2.2.1 d.2.2.2.2.2.1 d.2.2.2.2.2.2.1 d.2.2.2.2.2.2.2.1 d.2.2.2.2.2.2.2.2.1 0 (-5) (-5) nv nq hn ys vs qs H.size h4) (cwV 0 X.2.2.2.2.2.1 gB_undo rfl rfl rfl cd_X6_undo hrm) [0, 1, 6] rfl rfl rfl 0 0 rfl (ci := 6) rfl rfl rfl rfl hsize rfl hR hdg hf) hW hS hA [0, 1, 6] rfl rfl rfl (fun u => [SC d.1 d.2.1 d.2.2.1 d.2.2.2.1 d.2.2.2.2.1 d.2.2.2.2.2.1 d.2.2.2.2.2.2.1 d.2.2.2.2.2.2.2.1 0 (-5) (-5), LC G d.2.1 u.1 u.2.1, HB G d.2.2.2.2.2.2.1 d.2.2.2.2.2.2.2.2.1 u.2.2 ys vs qs]) (fun _ => rfl) (fun _ => rfl) (fun r u H1 locs1 hw hW1 hS1 => ?_)
  exact kk r u H1 locs1 hw ⟨(bv, bq, av, aq, yv, yq, zv, zq, ys, tp, tr, tg, tv, T), hW1⟩ hS1
theorem k_restore (X : Cx p s m args meth c cc nL wsB RL ret0) (hK : KN G s) (hA : ∀ q : Nat, H0.size ≤ q → A q) (hW : WD G A d nv nq hn vs qs H) (hS : va_S A H0 H locs) (h4 : hn ≤ 4) (hsize : ls.size = nL) (hR : (rest.map fun v => v.category).sum ≤ 8) (hrm : 4 + 1 ≤ R.frames ∧ 8 + (1 + 11) + 86 ≤ R.locals) (hf : cells ≤ R.cells ∧ slots ≤ R.slots) (hdg : decode cc pc = .ok (.invokevirtual 60, 3))
    (kk : ∀ (H1 : Heap) (locs1 : List Loc), WD G A d nv nq hn vs qs H1 → va_S A H0 H1 locs1 → W p l e R s m args below meth c H1 locs1 cells slots Q (F0 m (pc + 3) ls (.int (-5) :: rest))) : W p l e R s m args below meth c H locs cells slots Q (F0 m pc ls (.ref d.1 :: rest)) := by
  obtain ⟨⟨bv, bq, av, aq, yv, yq, zv, zq, ys, tp, tr, tg, tv, T⟩, hW⟩ := hW
  refine gcallB_I (bc := [SC d.1 d.2.1 d.2.2.1 d.2.2.2.1 d.2.2.2.2.1 d.2.2.2.2.2.1 d.2.2.2.2.2.2.1 d.2.2.2.2.2.2.2.1 0 (-5) (-5), LC G d.2.1 nv nq, LC G d.2.2.1 bv bq, LC G d.2.2.2.2.2.1 zv zq, HB G d.2.2.2.2.2.2.1 d.2.2.2.2.2.2.2.2.1 hn ys vs qs]) (runB_V (As := []) (rest := rest) (bc := [SC d.1 d.2.1 d.2.2.1 d.2.2.2.1 d.2.2.2.2.1 d.2.2.2.2.2.1 d.2.2.2.2.2.2.1 d.2.2.2.2.2.2.2.1 0 (-5) (-5), LC G d.2.1 nv nq, LC G d.2.2.1 bv bq, LC G d.2.2.2.2.2.1 zv zq, HB G d.2.2.2.2.2.2.1 d.2.2.2.2.2.2.2.2.1 hn ys vs qs]) X hK hW (c_X6_restore l G d.1 d.2.1 d.2.2.1 d.2.2.2.1 d.2.2.2.2.1 d.2.2.2.2.2.1 d.2.2.2.2.2.2.1 d.2.2.2.2.2.2.2.1 d.2.2.2.2.2.2.2.2.1 0 (-5) (-5) nv nq bv bq zv zq hn ys vs qs H.size h4) (cwV 0 X.2.2.2.2.2.1 gB_restore rfl rfl rfl cd_X6_restore hrm) [0, 1, 2, 5, 6] rfl rfl rfl 0 0 rfl (ci := 6) rfl rfl rfl rfl hsize rfl hR hdg hf) hW hS hA [0, 1, 2, 5, 6] rfl rfl rfl (fun u => [SC d.1 d.2.1 d.2.2.1 d.2.2.2.1 d.2.2.2.2.1 d.2.2.2.2.2.1 d.2.2.2.2.2.2.1 d.2.2.2.2.2.2.2.1 0 (-5) (-5), LC G d.2.1 u.1 u.2.1, LC G d.2.2.1 u.2.2.1 u.2.2.2.1, LC G d.2.2.2.2.2.1 zv zq, HB G d.2.2.2.2.2.2.1 d.2.2.2.2.2.2.2.2.1 u.2.2.2.2.1 u.2.2.2.2.2.1 u.2.2.2.2.2.2.1 u.2.2.2.2.2.2.2]) (fun _ => rfl) (fun _ => rfl) (fun r u H1 locs1 hw hW1 hS1 => ?_)
  rw [rs0] at hw
  obtain ⟨rfl, rfl⟩ := Prod.mk.inj hw
  exact kk H1 locs1 ⟨(_, _, _, _, _, _, _, _, _, _, _, _, _, _), hW1⟩ hS1
theorem k_boiler (X : Cx p s m args meth c cc nL wsB RL ret0) (hK : KN G s) (hA : ∀ q : Nat, H0.size ≤ q → A q) (hW : WD G A d nv nq hn vs qs H) (hS : va_S A H0 H locs) {p0 p1 : Int32} (hsize : ls.size = nL) (hR : (rest.map fun v => v.category).sum ≤ 8) (hrm : 1 + 1 ≤ R.frames ∧ 8 + (4 + 11) + 21 ≤ R.locals) (hf : cells ≤ R.cells ∧ slots ≤ R.slots) (hdg : decode cc pc = .ok (.invokevirtual 43, 3))
    (kk : ∀ (H1 : Heap) (locs1 : List Loc), WD G A d nv nq hn vs qs H1 → va_S A H0 H1 locs1 → W p l e R s m args below meth c H1 locs1 cells slots Q (F0 m (pc + 3) ls (.int (f_X6_boiler nv p0 p1) :: rest))) : W p l e R s m args below meth c H locs cells slots Q (F0 m pc ls (.int p1 :: .int p0 :: .ref d.1 :: rest)) := by
  obtain ⟨⟨bv, bq, av, aq, yv, yq, zv, zq, ys, tp, tr, tg, tv, T⟩, hW⟩ := hW
  refine gcallB_I (bc := [SC d.1 d.2.1 d.2.2.1 d.2.2.2.1 d.2.2.2.2.1 d.2.2.2.2.2.1 d.2.2.2.2.2.2.1 d.2.2.2.2.2.2.2.1 0 (-5) (-5), LC G d.2.1 nv nq]) (runB_V (As := [.int p0, .int p1]) (rest := rest) (bc := [SC d.1 d.2.1 d.2.2.1 d.2.2.2.1 d.2.2.2.2.1 d.2.2.2.2.2.1 d.2.2.2.2.2.2.1 d.2.2.2.2.2.2.2.1 0 (-5) (-5), LC G d.2.1 nv nq]) X hK hW (c_X6_boiler l G d.1 d.2.1 d.2.2.1 d.2.2.2.1 d.2.2.2.2.1 d.2.2.2.2.2.1 d.2.2.2.2.2.2.1 d.2.2.2.2.2.2.2.1 0 (-5) (-5) nv nq H.size p0 p1) (cwV 2 X.2.2.2.2.2.1 gB_boiler rfl rfl rfl cd_X6_boiler hrm) [0, 1] rfl rfl rfl 0 0 rfl (ci := 6) rfl rfl rfl rfl hsize rfl hR hdg hf) hW hS hA [0, 1] rfl rfl rfl (fun _ => [SC d.1 d.2.1 d.2.2.1 d.2.2.2.1 d.2.2.2.2.1 d.2.2.2.2.2.1 d.2.2.2.2.2.2.1 d.2.2.2.2.2.2.2.1 0 (-5) (-5), LC G d.2.1 nv nq]) (fun _ => rfl) (fun _ => rfl) (fun r u H1 locs1 hw hW1 hS1 => ?_)
  subst hw
  exact kk H1 locs1 ⟨(bv, bq, av, aq, yv, yq, zv, zq, ys, tp, tr, tg, tv, T), hW1⟩ hS1
theorem k_machine (X : Cx p s m args meth c cc nL wsB RL ret0) (hK : KN G s) (hA : ∀ q : Nat, H0.size ≤ q → A q) (hW : WD G A d nv nq hn vs qs H) (hS : va_S A H0 H locs) {p0 p1 : Int32} (hsize : ls.size = nL) (hR : (rest.map fun v => v.category).sum ≤ 8) (hrm : 1 + 1 ≤ R.frames ∧ 8 + (4 + 11) + 21 ≤ R.locals) (hf : cells ≤ R.cells ∧ slots ≤ R.slots) (hdg : decode cc pc = .ok (.invokevirtual 40, 3))
    (kk : ∀ (H1 : Heap) (locs1 : List Loc), WD G A d nv nq hn vs qs H1 → va_S A H0 H1 locs1 → W p l e R s m args below meth c H1 locs1 cells slots Q (F0 m (pc + 3) ls (.int (f_X6_machine nv p0 p1) :: rest))) : W p l e R s m args below meth c H locs cells slots Q (F0 m pc ls (.int p1 :: .int p0 :: .ref d.1 :: rest)) := by
  obtain ⟨⟨bv, bq, av, aq, yv, yq, zv, zq, ys, tp, tr, tg, tv, T⟩, hW⟩ := hW
  refine gcallB_I (bc := [SC d.1 d.2.1 d.2.2.1 d.2.2.2.1 d.2.2.2.2.1 d.2.2.2.2.2.1 d.2.2.2.2.2.2.1 d.2.2.2.2.2.2.2.1 0 (-5) (-5), LC G d.2.1 nv nq]) (runB_V (As := [.int p0, .int p1]) (rest := rest) (bc := [SC d.1 d.2.1 d.2.2.1 d.2.2.2.1 d.2.2.2.2.1 d.2.2.2.2.2.1 d.2.2.2.2.2.2.1 d.2.2.2.2.2.2.2.1 0 (-5) (-5), LC G d.2.1 nv nq]) X hK hW (c_X6_machine l G d.1 d.2.1 d.2.2.1 d.2.2.2.1 d.2.2.2.2.1 d.2.2.2.2.2.1 d.2.2.2.2.2.2.1 d.2.2.2.2.2.2.2.1 0 (-5) (-5) nv nq H.size p0 p1) (cwV 2 X.2.2.2.2.2.1 gB_machine rfl rfl rfl cd_X6_machine hrm) [0, 1] rfl rfl rfl 0 0 rfl (ci := 6) rfl rfl rfl rfl hsize rfl hR hdg hf) hW hS hA [0, 1] rfl rfl rfl (fun _ => [SC d.1 d.2.1 d.2.2.1 d.2.2.2.1 d.2.2.2.2.1 d.2.2.2.2.2.1 d.2.2.2.2.2.2.1 d.2.2.2.2.2.2.2.1 0 (-5) (-5), LC G d.2.1 nv nq]) (fun _ => rfl) (fun _ => rfl) (fun r u H1 locs1 hw hW1 hS1 => ?_)
  subst hw
  exact kk H1 locs1 ⟨(bv, bq, av, aq, yv, yq, zv, zq, ys, tp, tr, tg, tv, T), hW1⟩ hS1
theorem k_line (X : Cx p s m args meth c cc nL wsB RL ret0) (hK : KN G s) (hA : ∀ q : Nat, H0.size ≤ q → A q) (hW : WD G A d nv nq hn vs qs H) (hS : va_S A H0 H locs) {p0 : Int32} (hsize : ls.size = nL) (hR : (rest.map fun v => v.category).sum ≤ 8) (hrm : 1 + 1 ≤ R.frames ∧ 8 + (2 + 11) + 21 ≤ R.locals) (hf : cells ≤ R.cells ∧ slots ≤ R.slots) (hdg : decode cc pc = .ok (.invokevirtual 46, 3))
    (kk : ∀ (H1 : Heap) (locs1 : List Loc), WD G A d nv nq hn vs qs H1 → va_S A H0 H1 locs1 → W p l e R s m args below meth c H1 locs1 cells slots Q (F0 m (pc + 3) ls (.int (f_X6_line nv nq p0) :: rest))) : W p l e R s m args below meth c H locs cells slots Q (F0 m pc ls (.int p0 :: .ref d.1 :: rest)) := by
  obtain ⟨⟨bv, bq, av, aq, yv, yq, zv, zq, ys, tp, tr, tg, tv, T⟩, hW⟩ := hW
  refine gcallB_I (bc := [SC d.1 d.2.1 d.2.2.1 d.2.2.2.1 d.2.2.2.2.1 d.2.2.2.2.2.1 d.2.2.2.2.2.2.1 d.2.2.2.2.2.2.2.1 0 (-5) (-5), LC G d.2.1 nv nq]) (runB_V (As := [.int p0]) (rest := rest) (bc := [SC d.1 d.2.1 d.2.2.1 d.2.2.2.1 d.2.2.2.2.1 d.2.2.2.2.2.1 d.2.2.2.2.2.2.1 d.2.2.2.2.2.2.2.1 0 (-5) (-5), LC G d.2.1 nv nq]) X hK hW (c_X6_line l G d.1 d.2.1 d.2.2.1 d.2.2.2.1 d.2.2.2.2.1 d.2.2.2.2.2.1 d.2.2.2.2.2.2.1 d.2.2.2.2.2.2.2.1 0 (-5) (-5) nv nq H.size p0) (cwV 1 X.2.2.2.2.2.1 gB_line rfl rfl rfl cd_X6_line hrm) [0, 1] rfl rfl rfl 0 0 rfl (ci := 6) rfl rfl rfl rfl hsize rfl hR hdg hf) hW hS hA [0, 1] rfl rfl rfl (fun _ => [SC d.1 d.2.1 d.2.2.1 d.2.2.2.1 d.2.2.2.2.1 d.2.2.2.2.2.1 d.2.2.2.2.2.2.1 d.2.2.2.2.2.2.2.1 0 (-5) (-5), LC G d.2.1 nv nq]) (fun _ => rfl) (fun _ => rfl) (fun r u H1 locs1 hw hW1 hS1 => ?_)
  subst hw
  exact kk H1 locs1 ⟨(bv, bq, av, aq, yv, yq, zv, zq, ys, tp, tr, tg, tv, T), hW1⟩ hS1
theorem k_reason (X : Cx p s m args meth c cc nL wsB RL ret0) (hK : KN G s) (hA : ∀ q : Nat, H0.size ≤ q → A q) (hW : WD G A d nv nq hn vs qs H) (hS : va_S A H0 H locs) {p0 : Int32} (hsize : ls.size = nL) (hR : (rest.map fun v => v.category).sum ≤ 8) (hrm : 4 + 1 ≤ R.frames ∧ 8 + (2 + 11) + 112 ≤ R.locals) (hf : cells ≤ R.cells ∧ slots ≤ R.slots) (hdg : decode cc pc = .ok (.invokevirtual 49, 3))
    (kk : ∀ (yv yq : Nat → Int32) (H1 : Heap) (locs1 : List Loc), WD G A d nv nq hn vs qs H1 → va_S A H0 H1 locs1 → W p l e R s m args below meth c H1 locs1 cells slots Q (F0 m (pc + 3) ls (.int (f_X6_reason nv nq yv yq p0).1 :: rest))) : W p l e R s m args below meth c H locs cells slots Q (F0 m pc ls (.int p0 :: .ref d.1 :: rest)) := by
  obtain ⟨⟨bv, bq, av, aq, yv, yq, zv, zq, ys, tp, tr, tg, tv, T⟩, hW⟩ := hW
  refine gcallB_I (bc := [SC d.1 d.2.1 d.2.2.1 d.2.2.2.1 d.2.2.2.2.1 d.2.2.2.2.2.1 d.2.2.2.2.2.2.1 d.2.2.2.2.2.2.2.1 0 (-5) (-5), LC G d.2.1 nv nq, LC G d.2.2.2.2.1 yv yq]) (runB_V (As := [.int p0]) (rest := rest) (bc := [SC d.1 d.2.1 d.2.2.1 d.2.2.2.1 d.2.2.2.2.1 d.2.2.2.2.2.1 d.2.2.2.2.2.2.1 d.2.2.2.2.2.2.2.1 0 (-5) (-5), LC G d.2.1 nv nq, LC G d.2.2.2.2.1 yv yq]) X hK hW (c_X6_reason l G d.1 d.2.1 d.2.2.1 d.2.2.2.1 d.2.2.2.2.1 d.2.2.2.2.2.1 d.2.2.2.2.2.2.1 d.2.2.2.2.2.2.2.1 0 (-5) (-5) nv nq yv yq H.size p0) (cwV 1 X.2.2.2.2.2.1 gB_reason rfl rfl rfl cd_X6_reason hrm) [0, 1, 4] rfl rfl rfl 0 0 rfl (ci := 6) rfl rfl rfl rfl hsize rfl hR hdg hf) hW hS hA [0, 1, 4] rfl rfl rfl (fun u => [SC d.1 d.2.1 d.2.2.1 d.2.2.2.1 d.2.2.2.2.1 d.2.2.2.2.2.1 d.2.2.2.2.2.2.1 d.2.2.2.2.2.2.2.1 0 (-5) (-5), LC G d.2.1 nv nq, LC G d.2.2.2.2.1 u.1 u.2]) (fun _ => rfl) (fun _ => rfl) (fun r u H1 locs1 hw hW1 hS1 => ?_)
  have hw := congrArg Prod.fst hw
  have hw : _ = r := hw
  subst hw
  exact kk yv yq H1 locs1 ⟨(_, _, _, _, _, _, _, _, _, _, _, _, _, _), hW1⟩ hS1
theorem k_doneIn (X : Cx p s m args meth c cc nL wsB RL ret0) (hK : KN G s) (hA : ∀ q : Nat, H0.size ≤ q → A q) (hW : WD G A d nv nq hn vs qs H) (hS : va_S A H0 H locs) (hsize : ls.size = nL) (hR : (rest.map fun v => v.category).sum ≤ 8) (hrm : 5 + 1 ≤ R.frames ∧ 8 + (2 + 11) + 135 ≤ R.locals) (hf : cells ≤ R.cells ∧ slots ≤ R.slots) (hdg : decode cc pc = .ok (.invokevirtual 52, 3))
    (kk : ∀ (yv yq : Nat → Int32) (H1 : Heap) (locs1 : List Loc), WD G A d nv nq hn vs qs H1 → va_S A H0 H1 locs1 → W p l e R s m args below meth c H1 locs1 cells slots Q (F0 m (pc + 3) ls (.int (f_X6_doneIn nv nq yv yq).1 :: rest))) : W p l e R s m args below meth c H locs cells slots Q (F0 m pc ls (.ref d.1 :: rest)) := by
  obtain ⟨⟨bv, bq, av, aq, yv, yq, zv, zq, ys, tp, tr, tg, tv, T⟩, hW⟩ := hW
  refine gcallB_I (bc := [SC d.1 d.2.1 d.2.2.1 d.2.2.2.1 d.2.2.2.2.1 d.2.2.2.2.2.1 d.2.2.2.2.2.2.1 d.2.2.2.2.2.2.2.1 0 (-5) (-5), LC G d.2.1 nv nq, LC G d.2.2.2.1 av aq, LC G d.2.2.2.2.1 yv yq]) (runB_V (As := []) (rest := rest) (bc := [SC d.1 d.2.1 d.2.2.1 d.2.2.2.1 d.2.2.2.2.1 d.2.2.2.2.2.1 d.2.2.2.2.2.2.1 d.2.2.2.2.2.2.2.1 0 (-5) (-5), LC G d.2.1 nv nq, LC G d.2.2.2.1 av aq, LC G d.2.2.2.2.1 yv yq]) X hK hW (c_X6_doneIn l G d.1 d.2.1 d.2.2.1 d.2.2.2.1 d.2.2.2.2.1 d.2.2.2.2.2.1 d.2.2.2.2.2.2.1 d.2.2.2.2.2.2.2.1 0 (-5) (-5) nv nq av aq yv yq H.size ) (cwV 0 X.2.2.2.2.2.1 gB_doneIn rfl rfl rfl cd_X6_doneIn hrm) [0, 1, 3, 4] rfl rfl rfl 0 0 rfl (ci := 6) rfl rfl rfl rfl hsize rfl hR hdg hf) hW hS hA [0, 1, 3, 4] rfl rfl rfl (fun u => [SC d.1 d.2.1 d.2.2.1 d.2.2.2.1 d.2.2.2.2.1 d.2.2.2.2.2.1 d.2.2.2.2.2.2.1 d.2.2.2.2.2.2.2.1 0 (-5) (-5), LC G d.2.1 nv nq, LC G d.2.2.2.1 u.1 u.2.1, LC G d.2.2.2.2.1 u.2.2.1 u.2.2.2]) (fun _ => rfl) (fun _ => rfl) (fun r u H1 locs1 hw hW1 hS1 => ?_)
  have hw := congrArg Prod.fst hw
  have hw : _ = r := hw
  subst hw
  exact kk yv yq H1 locs1 ⟨(_, _, _, _, _, _, _, _, _, _, _, _, _, _), hW1⟩ hS1
theorem k_ifFires (X : Cx p s m args meth c cc nL wsB RL ret0) (hK : KN G s) (hA : ∀ q : Nat, H0.size ≤ q → A q) (hW : WD G A d nv nq hn vs qs H) (hS : va_S A H0 H locs) {p0 p1 p2 p3 : Int32} (hsize : ls.size = nL) (hR : (rest.map fun v => v.category).sum ≤ 8) (hrm : 6 + 1 ≤ R.frames ∧ 8 + (5 + 11) + 159 ≤ R.locals) (hf : cells ≤ R.cells ∧ slots ≤ R.slots) (hdg : decode cc pc = .ok (.invokevirtual 75, 3))
    (kk : ∀ (av aq yv yq : Nat → Int32) (H1 : Heap) (locs1 : List Loc), WD G A d nv nq hn vs qs H1 → va_S A H0 H1 locs1 → W p l e R s m args below meth c H1 locs1 cells slots Q (F0 m (pc + 3) ls (.int (f_X6_ifFires nv nq av aq yv yq p0 p1 p2 p3).1 :: rest))) : W p l e R s m args below meth c H locs cells slots Q (F0 m pc ls (.int p3 :: .int p2 :: .int p1 :: .int p0 :: .ref d.1 :: rest)) := by
  obtain ⟨⟨bv, bq, av, aq, yv, yq, zv, zq, ys, tp, tr, tg, tv, T⟩, hW⟩ := hW
  refine gcallB_I (bc := [SC d.1 d.2.1 d.2.2.1 d.2.2.2.1 d.2.2.2.2.1 d.2.2.2.2.2.1 d.2.2.2.2.2.2.1 d.2.2.2.2.2.2.2.1 0 (-5) (-5), LC G d.2.1 nv nq, LC G d.2.2.2.1 av aq, LC G d.2.2.2.2.1 yv yq]) (runB_V (As := [.int p0, .int p1, .int p2, .int p3]) (rest := rest) (bc := [SC d.1 d.2.1 d.2.2.1 d.2.2.2.1 d.2.2.2.2.1 d.2.2.2.2.2.1 d.2.2.2.2.2.2.1 d.2.2.2.2.2.2.2.1 0 (-5) (-5), LC G d.2.1 nv nq, LC G d.2.2.2.1 av aq, LC G d.2.2.2.2.1 yv yq]) X hK hW (c_X6_ifFires l G d.1 d.2.1 d.2.2.1 d.2.2.2.1 d.2.2.2.2.1 d.2.2.2.2.2.1 d.2.2.2.2.2.2.1 d.2.2.2.2.2.2.2.1 0 (-5) (-5) nv nq av aq yv yq H.size p0 p1 p2 p3) (cwV 4 X.2.2.2.2.2.1 gB_ifFires rfl rfl rfl cd_X6_ifFires hrm) [0, 1, 3, 4] rfl rfl rfl 0 0 rfl (ci := 6) rfl rfl rfl rfl hsize rfl hR hdg hf) hW hS hA [0, 1, 3, 4] rfl rfl rfl (fun u => [SC d.1 d.2.1 d.2.2.1 d.2.2.2.1 d.2.2.2.2.1 d.2.2.2.2.2.1 d.2.2.2.2.2.2.1 d.2.2.2.2.2.2.2.1 0 (-5) (-5), LC G d.2.1 nv nq, LC G d.2.2.2.1 u.1 u.2.1, LC G d.2.2.2.2.1 u.2.2.1 u.2.2.2]) (fun _ => rfl) (fun _ => rfl) (fun r u H1 locs1 hw hW1 hS1 => ?_)
  have hw := congrArg Prod.fst hw
  have hw : _ = r := hw
  subst hw
  exact kk av aq yv yq H1 locs1 ⟨(_, _, _, _, _, _, _, _, _, _, _, _, _, _), hW1⟩ hS1
theorem k_bestFires (X : Cx p s m args meth c cc nL wsB RL ret0) (hK : KN G s) (hA : ∀ q : Nat, H0.size ≤ q → A q) (hW : WD G A d nv nq hn vs qs H) (hS : va_S A H0 H locs) {p0 : Int32} (hsize : ls.size = nL) (hR : (rest.map fun v => v.category).sum ≤ 8) (hrm : 6 + 1 ≤ R.frames ∧ 8 + (8 + 11) + 159 ≤ R.locals) (hf : cells ≤ R.cells ∧ slots ≤ R.slots) (hdg : decode cc pc = .ok (.invokevirtual 87, 3))
    (kk : ∀ (av aq yv yq : Nat → Int32) (H1 : Heap) (locs1 : List Loc), WD G A d nv nq hn vs qs H1 → va_S A H0 H1 locs1 → W p l e R s m args below meth c H1 locs1 cells slots Q (F0 m (pc + 3) ls (.int (f_X6_bestFires nv nq av aq yv yq p0).1 :: rest))) : W p l e R s m args below meth c H locs cells slots Q (F0 m pc ls (.int p0 :: .ref d.1 :: rest)) := by
  obtain ⟨⟨bv, bq, av, aq, yv, yq, zv, zq, ys, tp, tr, tg, tv, T⟩, hW⟩ := hW
  refine gcallB_I (bc := [SC d.1 d.2.1 d.2.2.1 d.2.2.2.1 d.2.2.2.2.1 d.2.2.2.2.2.1 d.2.2.2.2.2.2.1 d.2.2.2.2.2.2.2.1 0 (-5) (-5), LC G d.2.1 nv nq, LC G d.2.2.2.1 av aq, LC G d.2.2.2.2.1 yv yq]) (runB_V (As := [.int p0]) (rest := rest) (bc := [SC d.1 d.2.1 d.2.2.1 d.2.2.2.1 d.2.2.2.2.1 d.2.2.2.2.2.1 d.2.2.2.2.2.2.1 d.2.2.2.2.2.2.2.1 0 (-5) (-5), LC G d.2.1 nv nq, LC G d.2.2.2.1 av aq, LC G d.2.2.2.2.1 yv yq]) X hK hW (c_X6_bestFires l G d.1 d.2.1 d.2.2.1 d.2.2.2.1 d.2.2.2.2.1 d.2.2.2.2.2.1 d.2.2.2.2.2.2.1 d.2.2.2.2.2.2.2.1 0 (-5) (-5) nv nq av aq yv yq H.size p0) (cwV 1 X.2.2.2.2.2.1 gB_bestFires rfl rfl rfl cd_X6_bestFires hrm) [0, 1, 3, 4] rfl rfl rfl 0 0 rfl (ci := 6) rfl rfl rfl rfl hsize rfl hR hdg hf) hW hS hA [0, 1, 3, 4] rfl rfl rfl (fun u => [SC d.1 d.2.1 d.2.2.1 d.2.2.2.1 d.2.2.2.2.1 d.2.2.2.2.2.1 d.2.2.2.2.2.2.1 d.2.2.2.2.2.2.2.1 0 (-5) (-5), LC G d.2.1 nv nq, LC G d.2.2.2.1 u.1 u.2.1, LC G d.2.2.2.2.1 u.2.2.1 u.2.2.2]) (fun _ => rfl) (fun _ => rfl) (fun r u H1 locs1 hw hW1 hS1 => ?_)
  have hw := congrArg Prod.fst hw
  have hw : _ = r := hw
  subst hw
  exact kk av aq yv yq H1 locs1 ⟨(_, _, _, _, _, _, _, _, _, _, _, _, _, _), hW1⟩ hS1
theorem k_count (X : Cx p s m args meth c cc nL wsB RL ret0) (hK : KN G s) (hA : ∀ q : Nat, H0.size ≤ q → A q) (hW : WD G A d nv nq hn vs qs H) (hS : va_S A H0 H locs) {p0 : Int32} (hsize : ls.size = nL) (hR : (rest.map fun v => v.category).sum ≤ 8) (hrm : 3 + 1 ≤ R.frames ∧ 8 + (2 + 11) + 66 ≤ R.locals) (hf : cells ≤ R.cells ∧ slots ≤ R.slots) (hdg : decode cc pc = .ok (.invokevirtual 37, 3))
    (kk : ∀ (H1 : Heap) (locs1 : List Loc), WD G A d nv nq hn vs qs H1 → va_S A H0 H1 locs1 → W p l e R s m args below meth c H1 locs1 cells slots Q (F0 m (pc + 3) ls (.int (f_X6_count nv hn 0 p0) :: rest))) : W p l e R s m args below meth c H locs cells slots Q (F0 m pc ls (.int p0 :: .ref d.1 :: rest)) := by
  obtain ⟨⟨bv, bq, av, aq, yv, yq, zv, zq, ys, tp, tr, tg, tv, T⟩, hW⟩ := hW
  refine gcallB_I (bc := [SC d.1 d.2.1 d.2.2.1 d.2.2.2.1 d.2.2.2.2.1 d.2.2.2.2.2.1 d.2.2.2.2.2.2.1 d.2.2.2.2.2.2.2.1 0 (-5) (-5), LC G d.2.1 nv nq, HB G d.2.2.2.2.2.2.1 d.2.2.2.2.2.2.2.2.1 hn ys vs qs, OT G d.2.2.2.2.2.2.2.1 d.2.2.2.2.2.2.2.2.2 tp 0 tr tg tv T]) (runB_V (As := [.int p0]) (rest := rest) (bc := [SC d.1 d.2.1 d.2.2.1 d.2.2.2.1 d.2.2.2.2.1 d.2.2.2.2.2.1 d.2.2.2.2.2.2.1 d.2.2.2.2.2.2.2.1 0 (-5) (-5), LC G d.2.1 nv nq, HB G d.2.2.2.2.2.2.1 d.2.2.2.2.2.2.2.2.1 hn ys vs qs, OT G d.2.2.2.2.2.2.2.1 d.2.2.2.2.2.2.2.2.2 tp 0 tr tg tv T]) X hK hW (c_X6_count l G d.1 d.2.1 d.2.2.1 d.2.2.2.1 d.2.2.2.2.1 d.2.2.2.2.2.1 d.2.2.2.2.2.2.1 d.2.2.2.2.2.2.2.1 d.2.2.2.2.2.2.2.2.1 d.2.2.2.2.2.2.2.2.2 0 (-5) (-5) nv nq hn ys vs qs tp 0 tr tg tv T H.size p0) (cwV 1 X.2.2.2.2.2.1 gB_count rfl rfl rfl cd_X6_count hrm) [0, 1, 6, 7] rfl rfl rfl 0 0 rfl (ci := 6) rfl rfl rfl rfl hsize rfl hR hdg hf) hW hS hA [0, 1, 6, 7] rfl rfl rfl (fun _ => [SC d.1 d.2.1 d.2.2.1 d.2.2.2.1 d.2.2.2.2.1 d.2.2.2.2.2.1 d.2.2.2.2.2.2.1 d.2.2.2.2.2.2.2.1 0 (-5) (-5), LC G d.2.1 nv nq, HB G d.2.2.2.2.2.2.1 d.2.2.2.2.2.2.2.2.1 hn ys vs qs, OT G d.2.2.2.2.2.2.2.1 d.2.2.2.2.2.2.2.2.2 tp 0 tr tg tv T]) (fun _ => rfl) (fun _ => rfl) (fun r u H1 locs1 hw hW1 hS1 => ?_)
  subst hw
  exact kk H1 locs1 ⟨(bv, bq, av, aq, yv, yq, zv, zq, ys, tp, tr, tg, tv, T), hW1⟩ hS1
end CALLS
theorem cnt0 {nv : Nat → Int32} {hn : Nat} : f_X6_count nv hn 0 (nI 0) = nv 12 := by
  unfold f_X6_count f_X2_account
  rw [if_neg (show ¬ nI 0 = nI 14 by decide), if_neg (show ¬ nI 0 = nI 15 by decide), if_pos rfl]
theorem cnt1 {nv : Nat → Int32} {hn : Nat} : f_X6_count nv hn 0 (nI 1) = nv 10 := by
  unfold f_X6_count f_X2_account
  rw [if_neg (show ¬ nI 1 = nI 14 by decide), if_neg (show ¬ nI 1 = nI 15 by decide), if_neg (show ¬ nI 1 = nI 0 by decide), if_pos rfl]
theorem cnt2 {nv : Nat → Int32} {hn : Nat} : f_X6_count nv hn 0 (nI 2) = nv 38 := by
  unfold f_X6_count f_X2_account
  rw [if_neg (show ¬ nI 2 = nI 14 by decide), if_neg (show ¬ nI 2 = nI 15 by decide), if_neg (show ¬ nI 2 = nI 0 by decide), if_neg (show ¬ nI 2 = nI 1 by decide), if_pos rfl]
theorem cnt3 {nv : Nat → Int32} {hn : Nat} : f_X6_count nv hn 0 (nI 3) = nv 39 := by
  unfold f_X6_count f_X2_account
  rw [if_neg (show ¬ nI 3 = nI 14 by decide), if_neg (show ¬ nI 3 = nI 15 by decide), if_neg (show ¬ nI 3 = nI 0 by decide), if_neg (show ¬ nI 3 = nI 1 by decide), if_neg (show ¬ nI 3 = nI 2 by decide), if_pos rfl]
theorem cnt4 {nv : Nat → Int32} {hn : Nat} : f_X6_count nv hn 0 (nI 4) = nv 11 := by
  unfold f_X6_count f_X2_account
  rw [if_neg (show ¬ nI 4 = nI 14 by decide), if_neg (show ¬ nI 4 = nI 15 by decide), if_neg (show ¬ nI 4 = nI 0 by decide), if_neg (show ¬ nI 4 = nI 1 by decide), if_neg (show ¬ nI 4 = nI 2 by decide), if_neg (show ¬ nI 4 = nI 3 by decide), if_pos rfl]
theorem cnt6 {nv : Nat → Int32} {hn : Nat} : f_X6_count nv hn 0 (nI 6) = nv 25 := by
  unfold f_X6_count f_X2_account
  rw [if_neg (show ¬ nI 6 = nI 14 by decide), if_neg (show ¬ nI 6 = nI 15 by decide), if_neg (show ¬ nI 6 = nI 0 by decide), if_neg (show ¬ nI 6 = nI 1 by decide), if_neg (show ¬ nI 6 = nI 2 by decide), if_neg (show ¬ nI 6 = nI 3 by decide), if_neg (show ¬ nI 6 = nI 4 by decide), if_neg (show ¬ nI 6 = nI 5 by decide), if_pos rfl]
theorem cnt7 {nv : Nat → Int32} {hn : Nat} : f_X6_count nv hn 0 (nI 7) = nv 40 := by
  unfold f_X6_count f_X2_account
  rw [if_neg (show ¬ nI 7 = nI 14 by decide), if_neg (show ¬ nI 7 = nI 15 by decide), if_neg (show ¬ nI 7 = nI 0 by decide), if_neg (show ¬ nI 7 = nI 1 by decide), if_neg (show ¬ nI 7 = nI 2 by decide), if_neg (show ¬ nI 7 = nI 3 by decide), if_neg (show ¬ nI 7 = nI 4 by decide), if_neg (show ¬ nI 7 = nI 5 by decide), if_neg (show ¬ nI 7 = nI 6 by decide), if_pos rfl]
theorem cnt8 {nv : Nat → Int32} {hn : Nat} : f_X6_count nv hn 0 (nI 8) = nv 41 := by
  unfold f_X6_count f_X2_account
  rw [if_neg (show ¬ nI 8 = nI 14 by decide), if_neg (show ¬ nI 8 = nI 15 by decide), if_neg (show ¬ nI 8 = nI 0 by decide), if_neg (show ¬ nI 8 = nI 1 by decide), if_neg (show ¬ nI 8 = nI 2 by decide), if_neg (show ¬ nI 8 = nI 3 by decide), if_neg (show ¬ nI 8 = nI 4 by decide), if_neg (show ¬ nI 8 = nI 5 by decide), if_neg (show ¬ nI 8 = nI 6 by decide), if_neg (show ¬ nI 8 = nI 7 by decide), if_pos rfl]
theorem cnt9 {nv : Nat → Int32} {hn : Nat} : f_X6_count nv hn 0 (nI 9) = nv 42 := by
  unfold f_X6_count f_X2_account
  rw [if_neg (show ¬ nI 9 = nI 14 by decide), if_neg (show ¬ nI 9 = nI 15 by decide), if_neg (show ¬ nI 9 = nI 0 by decide), if_neg (show ¬ nI 9 = nI 1 by decide), if_neg (show ¬ nI 9 = nI 2 by decide), if_neg (show ¬ nI 9 = nI 3 by decide), if_neg (show ¬ nI 9 = nI 4 by decide), if_neg (show ¬ nI 9 = nI 5 by decide), if_neg (show ¬ nI 9 = nI 6 by decide), if_neg (show ¬ nI 9 = nI 7 by decide), if_neg (show ¬ nI 9 = nI 8 by decide), if_pos rfl]
theorem cnt10 {nv : Nat → Int32} {hn : Nat} : f_X6_count nv hn 0 (nI 10) = nv 43 := by
  unfold f_X6_count f_X2_account
  rw [if_neg (show ¬ nI 10 = nI 14 by decide), if_neg (show ¬ nI 10 = nI 15 by decide), if_neg (show ¬ nI 10 = nI 0 by decide), if_neg (show ¬ nI 10 = nI 1 by decide), if_neg (show ¬ nI 10 = nI 2 by decide), if_neg (show ¬ nI 10 = nI 3 by decide), if_neg (show ¬ nI 10 = nI 4 by decide), if_neg (show ¬ nI 10 = nI 5 by decide), if_neg (show ¬ nI 10 = nI 6 by decide), if_neg (show ¬ nI 10 = nI 7 by decide), if_neg (show ¬ nI 10 = nI 8 by decide), if_neg (show ¬ nI 10 = nI 9 by decide), if_pos rfl]
theorem cnt11 {nv : Nat → Int32} {hn : Nat} : f_X6_count nv hn 0 (nI 11) = nv 44 := by
  unfold f_X6_count f_X2_account
  rw [if_neg (show ¬ nI 11 = nI 14 by decide), if_neg (show ¬ nI 11 = nI 15 by decide), if_neg (show ¬ nI 11 = nI 0 by decide), if_neg (show ¬ nI 11 = nI 1 by decide), if_neg (show ¬ nI 11 = nI 2 by decide), if_neg (show ¬ nI 11 = nI 3 by decide), if_neg (show ¬ nI 11 = nI 4 by decide), if_neg (show ¬ nI 11 = nI 5 by decide), if_neg (show ¬ nI 11 = nI 6 by decide), if_neg (show ¬ nI 11 = nI 7 by decide), if_neg (show ¬ nI 11 = nI 8 by decide), if_neg (show ¬ nI 11 = nI 9 by decide), if_neg (show ¬ nI 11 = nI 10 by decide), if_pos rfl]
theorem cnt12 {nv : Nat → Int32} {hn : Nat} : f_X6_count nv hn 0 (nI 12) = f_X2_allPressure nv := by
  unfold f_X6_count f_X2_account
  rw [if_neg (show ¬ nI 12 = nI 14 by decide), if_neg (show ¬ nI 12 = nI 15 by decide), if_neg (show ¬ nI 12 = nI 0 by decide), if_neg (show ¬ nI 12 = nI 1 by decide), if_neg (show ¬ nI 12 = nI 2 by decide), if_neg (show ¬ nI 12 = nI 3 by decide), if_neg (show ¬ nI 12 = nI 4 by decide), if_neg (show ¬ nI 12 = nI 5 by decide), if_neg (show ¬ nI 12 = nI 6 by decide), if_neg (show ¬ nI 12 = nI 7 by decide), if_neg (show ¬ nI 12 = nI 8 by decide), if_neg (show ¬ nI 12 = nI 9 by decide), if_neg (show ¬ nI 12 = nI 10 by decide), if_neg (show ¬ nI 12 = nI 11 by decide), if_pos rfl]
theorem cnt13 {nv : Nat → Int32} {hn : Nat} : f_X6_count nv hn 0 (nI 13) = nv 45 := by
  unfold f_X6_count f_X2_account
  rw [if_neg (show ¬ nI 13 = nI 14 by decide), if_neg (show ¬ nI 13 = nI 15 by decide), if_neg (show ¬ nI 13 = nI 0 by decide), if_neg (show ¬ nI 13 = nI 1 by decide), if_neg (show ¬ nI 13 = nI 2 by decide), if_neg (show ¬ nI 13 = nI 3 by decide), if_neg (show ¬ nI 13 = nI 4 by decide), if_neg (show ¬ nI 13 = nI 5 by decide), if_neg (show ¬ nI 13 = nI 6 by decide), if_neg (show ¬ nI 13 = nI 7 by decide), if_neg (show ¬ nI 13 = nI 8 by decide), if_neg (show ¬ nI 13 = nI 9 by decide), if_neg (show ¬ nI 13 = nI 10 by decide), if_neg (show ¬ nI 13 = nI 11 by decide), if_neg (show ¬ nI 13 = nI 12 by decide), if_pos rfl]
theorem cnt5 {nv : Nat → Int32} {hn : Nat} : f_X6_count nv hn 0 (nI 5) = nI (lds nv) := by
  unfold f_X6_count f_X2_account
  rw [if_neg (show ¬ nI 5 = nI 14 by decide), if_neg (show ¬ nI 5 = nI 15 by decide), if_neg (show ¬ nI 5 = nI 0 by decide), if_neg (show ¬ nI 5 = nI 1 by decide), if_neg (show ¬ nI 5 = nI 2 by decide), if_neg (show ¬ nI 5 = nI 3 by decide), if_neg (show ¬ nI 5 = nI 4 by decide), if_pos rfl]
  exact loads_sum nv
theorem cnt14 {nv : Nat → Int32} {hn : Nat} : f_X6_count nv hn 0 (nI 14) = nI hn := by
  unfold f_X6_count
  rw [if_pos rfl]
theorem cnt16 {nv : Nat → Int32} {hn : Nat} : f_X6_count nv hn 0 (nI 16) = -2 := by
  unfold f_X6_count f_X2_account
  rw [if_neg (show ¬ nI 16 = nI 14 by decide), if_neg (show ¬ nI 16 = nI 15 by decide), if_neg (show ¬ nI 16 = nI 0 by decide), if_neg (show ¬ nI 16 = nI 1 by decide), if_neg (show ¬ nI 16 = nI 2 by decide), if_neg (show ¬ nI 16 = nI 3 by decide), if_neg (show ¬ nI 16 = nI 4 by decide), if_neg (show ¬ nI 16 = nI 5 by decide), if_neg (show ¬ nI 16 = nI 6 by decide), if_neg (show ¬ nI 16 = nI 7 by decide), if_neg (show ¬ nI 16 = nI 8 by decide), if_neg (show ¬ nI 16 = nI 9 by decide), if_neg (show ¬ nI 16 = nI 10 by decide), if_neg (show ¬ nI 16 = nI 11 by decide), if_neg (show ¬ nI 16 = nI 12 by decide), if_neg (show ¬ nI 16 = nI 13 by decide)]
theorem boil {nv : Nat → Int32} {b w : Nat} (hb : b < 2) (hw : w < 5) : f_X6_boiler nv (nI b) (nI w) = nv (b + 2 * w) := by
  rcases (show b = 0 ∨ b = 1 by omega) with rfl | rfl <;> rcases (show w = 0 ∨ w = 1 ∨ w = 2 ∨ w = 3 ∨ w = 4 by omega) with rfl | rfl | rfl | rfl | rfl <;> unfold f_X6_boiler <;> rfl
theorem mach {nv : Nat → Int32} {i w : Nat} (hi : i < 4) (hw : w < 3) : f_X6_machine nv (nI i) (nI w) = nv (13 + i + 4 * w) := by
  rcases at4 hi with rfl | rfl | rfl | rfl <;> rcases (show w = 0 ∨ w = 1 ∨ w = 2 by omega) with rfl | rfl | rfl <;> unfold f_X6_machine <;> rfl
