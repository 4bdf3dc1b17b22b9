/-! each act of the class is the model's act, and what holds between the calls holds behind it -/
theorem recN {bv bq : Nat → Int32} {hn : Nat} {xs : Nat → Nat → Nat} {vs qs : Nat → Nat → Int32} {r : Int32} (h : r < 0) : f_X6_recorded bv bq hn xs vs qs r = (r, hn, xs, vs, qs) := if_pos h
theorem recP {bv bq : Nat → Int32} {hn : Nat} {xs : Nat → Nat → Nat} {vs qs : Nat → Nat → Int32} {r : Int32} (h : ¬ r < 0) : f_X6_recorded bv bq hn xs vs qs r = (r, (f_X1_push hn xs vs qs bv bq).1, (f_X1_push hn xs vs qs bv bq).2.1, (f_X1_push hn xs vs qs bv bq).2.2.1, (f_X1_push hn xs vs qs bv bq).2.2.2) := if_neg h
theorem m1_lt : (-1 : Int32) < 0 := by decide
theorem m2_lt : (-2 : Int32) < 0 := by decide
theorem m4_lt : (-4 : Int32) < 0 := by decide
theorem IS.f0 {v q : Nat → Int32} (h : IS v q) : 0 ≤ v 0 ∧ 0 ≤ v 1 := h.1.1.1.2.1
theorem IS.w0 {v q : Nat → Int32} (h : IS v q) : 0 ≤ v 2 ∧ 0 ≤ v 3 := h.1.1.1.2.2.1
theorem IS.r0 {v q : Nat → Int32} (h : IS v q) : 0 ≤ v 11 := h.1.1.1.2.2.2.2
theorem Rl.at {hs sn se tl : Int32} {nv nq zv zq g M : Nat → Int32} {hn : Nat} {vs qs : Nat → Nat → Int32} (h : Rl hs sn se nv nq zv zq hn vs qs tl g M) : At M 0 nv nq := h.2.2.1
theorem Rl.is {hs sn se tl : Int32} {nv nq zv zq g M : Nat → Int32} {hn : Nat} {vs qs : Nat → Nat → Int32} (h : Rl hs sn se nv nq zv zq hn vs qs tl g M) : IS nv nq := h.2.2.2.1
theorem Rl.m06 {hs sn se tl : Int32} {nv nq zv zq g M : Nat → Int32} {hn : Nat} {vs qs : Nat → Nat → Int32} (h : Rl hs sn se nv nq zv zq hn vs qs tl g M) : At (cpyM M 0 6 46) (46 * 6) nv nq := h.at.cpy06
theorem Rl.rec0 {hs sn se tl : Int32} {nv nq zv zq g M : Nat → Int32} {hn : Nat} {vs qs : Nat → Nat → Int32} (h : Rl hs sn se nv nq zv zq hn vs qs tl g M) : At (f_X7_records g M hn).2 0 nv nq := h.at.fr (fun j _ h2 => rec_keep h.1 (by omega))
theorem eq_setFire {hs sn se tl : Int32} {nv nq zv zq g M : Nat → Int32} {hn : Nat} {xs : Nat → Nat → Nat} {vs qs : Nat → Nat → Int32} {p0 p1 : Int32} (hR : Rl hs sn se nv nq zv zq hn vs qs tl g M) : (f_X6_setFire nv nq hn xs vs qs p0 p1).1 = (f_X7_setFire g M p0 p1 hn).1 ∧ Rl hs sn se (f_X6_setFire nv nq hn xs vs qs p0 p1).2.1 nq zv zq (f_X6_setFire nv nq hn xs vs qs p0 p1).2.2.2.2.1 (f_X6_setFire nv nq hn xs vs qs p0 p1).2.2.2.2.2.2.1 (f_X6_setFire nv nq hn xs vs qs p0 p1).2.2.2.2.2.2.2 tl (f_X7_setFire g M p0 p1 hn).2.1 (f_X7_setFire g M p0 p1 hn).2.2 := by
  have h := settle_rl (xs := xs) hR (sets_at (x := 6) (p0 := p0) (p1 := p1) hR.m06 hR.is) (fun z => ⟨cf_neg hR.is.f0.1 hR.is.f0.2 z, rfl⟩)
  exact h
theorem eq_fill {hs sn se tl : Int32} {nv nq zv zq g M : Nat → Int32} {hn : Nat} {xs : Nat → Nat → Nat} {vs qs : Nat → Nat → Int32} {p0 p1 : Int32} (hR : Rl hs sn se nv nq zv zq hn vs qs tl g M) : (f_X6_fill nv nq hn xs vs qs p0 p1).1 = (f_X7_fill g M p0 p1 hn).1 ∧ Rl hs sn se (f_X6_fill nv nq hn xs vs qs p0 p1).2.1 nq zv zq (f_X6_fill nv nq hn xs vs qs p0 p1).2.2.2.2.1 (f_X6_fill nv nq hn xs vs qs p0 p1).2.2.2.2.2.2.1 (f_X6_fill nv nq hn xs vs qs p0 p1).2.2.2.2.2.2.2 tl (f_X7_fill g M p0 p1 hn).2.1 (f_X7_fill g M p0 p1 hn).2.2 := by
  have h := settle_rl (xs := xs) hR (fills_at (x := 6) (p0 := p0) (p1 := p1) hR.m06 hR.is) (fun z => ⟨lw_neg hR.is.w0.1 hR.is.w0.2 hR.is.2.2.1.1 hR.is.2.2.1.2 z, rfl⟩)
  exact h
theorem eq_start {hs sn se tl : Int32} {nv nq zv zq g M : Nat → Int32} {hn : Nat} {xs : Nat → Nat → Nat} {vs qs : Nat → Nat → Int32} {p0 p1 : Int32} {yv yq : Nat → Int32} (hR : Rl hs sn se nv nq zv zq hn vs qs tl g M) : (f_X6_start nv nq yv yq hn xs vs qs p0 p1).1 = (f_X7_start g M p0 p1 hn).1 ∧ Rl hs sn se (f_X6_start nv nq yv yq hn xs vs qs p0 p1).2.1 nq zv zq (f_X6_start nv nq yv yq hn xs vs qs p0 p1).2.2.2.2.2.2.1 (f_X6_start nv nq yv yq hn xs vs qs p0 p1).2.2.2.2.2.2.2.2.1 (f_X6_start nv nq yv yq hn xs vs qs p0 p1).2.2.2.2.2.2.2.2.2 tl (f_X7_start g M p0 p1 hn).2.1 (f_X7_start g M p0 p1 hn).2.2 := by
  have h := settle_rl (xs := xs) hR (starts_at (x := 6) (p0 := p0) (p1 := p1) (ov := yv) (oq := yq) (by omega) hR.m06 hR.is) (fun z => ⟨sl_neg z, rfl⟩)
  exact h
theorem eq_queue {hs sn se tl : Int32} {nv nq zv zq g M : Nat → Int32} {hn : Nat} {xs : Nat → Nat → Nat} {vs qs : Nat → Nat → Int32} {p0 : Int32} (hR : Rl hs sn se nv nq zv zq hn vs qs tl g M) : (f_X6_queue nv nq hn xs vs qs p0).1 = (f_X7_queue g M p0 hn).1 ∧ Rl hs sn se (f_X6_queue nv nq hn xs vs qs p0).2.1 (f_X6_queue nv nq hn xs vs qs p0).2.2.1 zv zq (f_X6_queue nv nq hn xs vs qs p0).2.2.2.2.2.1 (f_X6_queue nv nq hn xs vs qs p0).2.2.2.2.2.2.2.1 (f_X6_queue nv nq hn xs vs qs p0).2.2.2.2.2.2.2.2 tl (f_X7_queue g M p0 hn).2.1 (f_X7_queue g M p0 hn).2.2 := by
  obtain ⟨n, h1, h2, -⟩ := hR.is.1.2
  have h := settle_rl (xs := xs) hR (queues_at (x := 6) (p0 := p0) hR.m06 hR.is) (fun z => al_neg h2 h1 z)
  exact h
theorem eq_run {hs sn se tl : Int32} {nv nq zv zq g M : Nat → Int32} {hn : Nat} {xs : Nat → Nat → Nat} {vs qs : Nat → Nat → Int32} {p0 : Int32} {yv yq : Nat → Int32} (hR : Rl hs sn se nv nq zv zq hn vs qs tl g M) : (f_X6_run nv nq yv yq hn xs vs qs p0).1 = (f_X7_run g M p0 hn).1 ∧ Rl hs sn se (f_X6_run nv nq yv yq hn xs vs qs p0).2.1 (f_X6_run nv nq yv yq hn xs vs qs p0).2.2.1 zv zq (f_X6_run nv nq yv yq hn xs vs qs p0).2.2.2.2.2.2.2.1 (f_X6_run nv nq yv yq hn xs vs qs p0).2.2.2.2.2.2.2.2.2.1 (f_X6_run nv nq yv yq hn xs vs qs p0).2.2.2.2.2.2.2.2.2.2 tl (f_X7_run g M p0 hn).2.1 (f_X7_run g M p0 hn).2.2 := by
  have h := settle_rl (xs := xs) hR (runs_at (x := 6) (p0 := p0) (ov := yv) (oq := yq) (by omega) hR.m06 hR.is) (fun z => lp_neg z)
  exact h
theorem eq_setRation {hs sn se tl : Int32} {nv nq zv zq g M : Nat → Int32} {hn : Nat} {xs : Nat → Nat → Nat} {vs qs : Nat → Nat → Int32} {p0 : Int32} (hR : Rl hs sn se nv nq zv zq hn vs qs tl g M) : (f_X6_setRation nv nq hn xs vs qs p0).1 = (f_X7_setRation g M p0 hn).1 ∧ Rl hs sn se (f_X6_setRation nv nq hn xs vs qs p0).2.1 nq zv zq (f_X6_setRation nv nq hn xs vs qs p0).2.2.2.2.1 (f_X6_setRation nv nq hn xs vs qs p0).2.2.2.2.2.2.1 (f_X6_setRation nv nq hn xs vs qs p0).2.2.2.2.2.2.2 tl (f_X7_setRation g M p0 hn).2.1 (f_X7_setRation g M p0 hn).2.2 := by
  unfold f_X6_setRation f_X7_setRation f_X2_changeRation
  rw [in_eq p0]
  by_cases c : f_X6_isWithin p0 (nI 0) (nI 200) = 0
  · rw [if_pos c, if_pos c]
    dsimp only
    rw [recN m2_lt]
    exact ⟨rfl, hR⟩
  · rw [if_neg c, if_neg c]
    have e : M 11 = nv 11 := hR.at.p11
    rw [e]
    by_cases c2 : p0 = nv 11
    · rw [if_pos c2, if_pos c2.symm]
      dsimp only
      rw [recN (show (-5 : Int32) < 0 by decide)]
      exact ⟨rfl, hR⟩
    · rw [if_neg c2, if_neg (fun z => c2 z.symm)]
      dsimp only
      rw [recP (nneg hR.is.r0)]
      have e2 : (f_X7_records g M hn).2 11 = nv 11 := (rec_keep hR.1 (by omega)).trans e
      refine ⟨e2.symm, direct_rl (xs := xs) hR (v' := upd nv 11 p0) (q' := nq) (AtF.plainU (b := 0) (M0 := (f_X7_records g M hn).2) ⟨hR.rec0, Fr_rf⟩ (j := 11) (by omega) p0).1 ⟨hR.is.1.of (fun j h1 h2 => pk_un (by omega)) hR.is.f0 hR.is.w0 rfl ?_, hR.is.2.of rfl rfl rfl rfl rfl rfl rfl⟩ (fun j h1 _ => pk_un (by omega))⟩
      rw [pk_us]
      exact inGe (x := p0) c
set_option maxHeartbeats 4000000 in
theorem empt_at {M0 M : Nat → Int32} {b : Nat} {v q : Nat → Int32} {i : Nat} (h : AtF M0 M b v q) (hi : i < 4) : AtF M0 (f_X7_empties M b i) b (upd (upd (upd v (13 + i) (-5)) (17 + i) (nI 0)) (21 + i) (nI 0)) q := by
  obtain ⟨hA, hF⟩ := h
  have h4 : i = 0 ∨ i = 1 ∨ i = 2 ∨ i = 3 := by omega
  unfold f_X7_empties
  rcases h4 with rfl | rfl | rfl | rfl
  · refine ⟨?_, Fr_upd (Fr_upd (Fr_upd hF (by omega)) (by omega)) (by omega)⟩
    apply At46 <;> simp [upd, Nat.add_assoc, nI0, ek5, hA.pb, hA.p1, hA.p2, hA.p3, hA.p4, hA.p5, hA.p6, hA.p7, hA.p8, hA.p9, hA.p10, hA.p11, hA.p12, hA.p13, hA.p14, hA.p15, hA.p16, hA.p17, hA.p18, hA.p19, hA.p20, hA.p21, hA.p22, hA.p23, hA.p24, hA.p25, hA.p26, hA.p27, hA.p28, hA.p29, hA.p30, hA.p31, hA.p32, hA.p33, hA.p34, hA.p35, hA.p36, hA.p37, hA.p38, hA.p39, hA.p40, hA.p41, hA.p42, hA.p43, hA.p44, hA.p45]
  · refine ⟨?_, Fr_upd (Fr_upd (Fr_upd hF (by omega)) (by omega)) (by omega)⟩
    apply At46 <;> simp [upd, Nat.add_assoc, nI0, ek5, hA.pb, hA.p1, hA.p2, hA.p3, hA.p4, hA.p5, hA.p6, hA.p7, hA.p8, hA.p9, hA.p10, hA.p11, hA.p12, hA.p13, hA.p14, hA.p15, hA.p16, hA.p17, hA.p18, hA.p19, hA.p20, hA.p21, hA.p22, hA.p23, hA.p24, hA.p25, hA.p26, hA.p27, hA.p28, hA.p29, hA.p30, hA.p31, hA.p32, hA.p33, hA.p34, hA.p35, hA.p36, hA.p37, hA.p38, hA.p39, hA.p40, hA.p41, hA.p42, hA.p43, hA.p44, hA.p45]
  · refine ⟨?_, Fr_upd (Fr_upd (Fr_upd hF (by omega)) (by omega)) (by omega)⟩
    apply At46 <;> simp [upd, Nat.add_assoc, nI0, ek5, hA.pb, hA.p1, hA.p2, hA.p3, hA.p4, hA.p5, hA.p6, hA.p7, hA.p8, hA.p9, hA.p10, hA.p11, hA.p12, hA.p13, hA.p14, hA.p15, hA.p16, hA.p17, hA.p18, hA.p19, hA.p20, hA.p21, hA.p22, hA.p23, hA.p24, hA.p25, hA.p26, hA.p27, hA.p28, hA.p29, hA.p30, hA.p31, hA.p32, hA.p33, hA.p34, hA.p35, hA.p36, hA.p37, hA.p38, hA.p39, hA.p40, hA.p41, hA.p42, hA.p43, hA.p44, hA.p45]
  · refine ⟨?_, Fr_upd (Fr_upd (Fr_upd hF (by omega)) (by omega)) (by omega)⟩
    apply At46 <;> simp [upd, Nat.add_assoc, nI0, ek5, hA.pb, hA.p1, hA.p2, hA.p3, hA.p4, hA.p5, hA.p6, hA.p7, hA.p8, hA.p9, hA.p10, hA.p11, hA.p12, hA.p13, hA.p14, hA.p15, hA.p16, hA.p17, hA.p18, hA.p19, hA.p20, hA.p21, hA.p22, hA.p23, hA.p24, hA.p25, hA.p26, hA.p27, hA.p28, hA.p29, hA.p30, hA.p31, hA.p32, hA.p33, hA.p34, hA.p35, hA.p36, hA.p37, hA.p38, hA.p39, hA.p40, hA.p41, hA.p42, hA.p43, hA.p44, hA.p45]
def outV (v : Nat → Int32) (i : Nat) : Nat → Int32 := upd (upd (upd (upd v (13 + i) (-5)) (17 + i) (nI 0)) (21 + i) (nI 0)) 43 (v 43 + nI 1)
theorem unload_i {v : Nat → Int32} {i : Nat} (hi : i < 4) : f_X2_unload v (nI i) = if f_X3_isEmpty (v (13 + i)) = 0 then (v (17 + i), outV v i) else (-4, v) := by
  rcases at4 hi with rfl | rfl | rfl | rfl
  · unfold f_X2_unload
    rw [if_pos rfl]
    rfl
  · unfold f_X2_unload
    rw [if_neg (show ¬ nI 1 = nI 0 by decide), if_pos rfl]
    rfl
  · unfold f_X2_unload
    rw [if_neg (show ¬ nI 2 = nI 0 by decide), if_neg (show ¬ nI 2 = nI 1 by decide), if_pos rfl]
    rfl
  · unfold f_X2_unload
    rw [if_neg (show ¬ nI 3 = nI 0 by decide), if_neg (show ¬ nI 3 = nI 1 by decide), if_neg (show ¬ nI 3 = nI 2 by decide), if_pos rfl]
    rfl
theorem out_keep {v : Nat → Int32} {i j : Nat} (hi : i < 4) (hj : j < 13 ∨ (25 ≤ j ∧ j ≠ 43)) : outV v i j = v j := by
  unfold outV
  rw [pk_un (by omega), pk_un (by omega), pk_un (by omega), pk_un (by omega)]
theorem out_is {v q : Nat → Int32} {i : Nat} (hi : i < 4) (h : IS v q) : IS (outV v i) q := by
  obtain ⟨⟨⟨hT, hM⟩, n, h1, h2, h3⟩, hB⟩ := h
  have hM2 : InvM (outV v i) := by
    rcases at4 hi with rfl | rfl | rfl | rfl
    · exact ⟨Or.inl ⟨rfl, rfl, rfl⟩, hM.2.1.of rfl rfl rfl, hM.2.2.1.of rfl rfl rfl, hM.2.2.2.of rfl rfl rfl⟩
    · exact ⟨hM.1.of rfl rfl rfl, Or.inl ⟨rfl, rfl, rfl⟩, hM.2.2.1.of rfl rfl rfl, hM.2.2.2.of rfl rfl rfl⟩
    · exact ⟨hM.1.of rfl rfl rfl, hM.2.1.of rfl rfl rfl, Or.inl ⟨rfl, rfl, rfl⟩, hM.2.2.2.of rfl rfl rfl⟩
    · exact ⟨hM.1.of rfl rfl rfl, hM.2.1.of rfl rfl rfl, hM.2.2.1.of rfl rfl rfl, Or.inl ⟨rfl, rfl, rfl⟩⟩
  have K := fun j (hj : j < 13 ∨ (25 ≤ j ∧ j ≠ 43)) => out_keep (v := v) hi hj
  exact ⟨⟨⟨hT.of hM2.ks (K 0 (by omega)) (K 1 (by omega)) (K 2 (by omega)) (K 3 (by omega)) (K 10 (by omega)) (K 11 (by omega)), hM2⟩, n, h1, (K 25 (by omega)).trans h2, h3⟩, hB.of (K 0 (by omega)) (K 1 (by omega)) (K 2 (by omega)) (K 3 (by omega)) (K 12 (by omega)) (K 41 (by omega)) (K 38 (by omega))⟩
theorem left_nn {v : Nat → Int32} (h : InvM v) {i : Nat} (hi : i < 4) : ¬ v (17 + i) < 0 := by
  rcases h.mi hi with ⟨-, e, -⟩ | ⟨-, ⟨n, h1, h2, e⟩, -⟩
  · rw [e]; decide
  · rw [e]; exact nI_pos (by omega)
theorem eq_takeOut {hs sn se tl : Int32} {nv nq zv zq g M : Nat → Int32} {hn : Nat} {xs : Nat → Nat → Nat} {vs qs : Nat → Nat → Int32} {p0 : Int32} (hR : Rl hs sn se nv nq zv zq hn vs qs tl g M) : (f_X6_takeOut nv nq hn xs vs qs p0).1 = (f_X7_takeOut g M p0 hn).1 ∧ Rl hs sn se (f_X6_takeOut nv nq hn xs vs qs p0).2.1 nq zv zq (f_X6_takeOut nv nq hn xs vs qs p0).2.2.2.2.1 (f_X6_takeOut nv nq hn xs vs qs p0).2.2.2.2.2.2.1 (f_X6_takeOut nv nq hn xs vs qs p0).2.2.2.2.2.2.2 tl (f_X7_takeOut g M p0 hn).2.1 (f_X7_takeOut g M p0 hn).2.2 := by
  unfold f_X6_takeOut f_X7_takeOut
  by_cases c0 : f_X7_in p0 (nI 0) (nI 3) = 0
  · rw [if_pos c0]
    have hne : ∀ i, i < 4 → ¬ p0 = nI i := fun i hi z => in_of (i := i) (n := 3) (by omega) (by decide) (by rw [← z]; exact c0)
    unfold f_X2_unload
    rw [if_neg (hne 0 (by omega)), if_neg (hne 1 (by omega)), if_neg (hne 2 (by omega)), if_neg (hne 3 (by omega))]
    dsimp only
    rw [recN m1_lt]
    exact ⟨rfl, hR⟩
  · rw [if_neg c0]
    obtain ⟨i, hi, e⟩ := in_nat c0 (by decide)
    subst e
    rw [unload_i (by omega), nI_clamp (by omega)]
    have ek0 : M (13 + i) = ek (nv (13 + i)) := hR.at.kind (by omega) (by omega)
    have hk : Kd (nv (13 + i)) := (hR.is.1.1.2.mi (by omega)).kd
    rw [ek0]
    by_cases c1 : f_X3_isEmpty (nv (13 + i)) = 0
    · rw [if_pos c1, if_pos ((ek_ge hk).mpr (emp_ne.mp c1))]
      dsimp only
      rw [recP (left_nn hR.is.1.1.2 (by omega))]
      have e2 : (f_X7_records g M hn).2 (17 + i) = nv (17 + i) := hR.rec0.plain (j := 17 + i) (by omega) (by omega)
      have h1 := empt_at (M0 := (f_X7_records g M hn).2) (i := i) ⟨hR.rec0, Fr_rf⟩ (by omega)
      have e43 : (f_X7_empties (f_X7_records g M hn).2 0 i) 43 = nv 43 := by
        have e : (f_X7_empties (f_X7_records g M hn).2 0 i) 43 = _ := h1.1.p43
        rw [e, pk_un (by omega), pk_un (by omega), pk_un (by omega)]
      have h2 := h1.plainU (j := 43) (by omega) (nv 43 + nI 1)
      rw [e43]
      exact ⟨e2.symm, direct_rl (xs := xs) hR (v' := outV nv i) (q' := nq) h2.1 (out_is (by omega) hR.is) (fun j h3 _ => h2.2 j (Or.inr (by omega)))⟩
    · rw [if_neg c1, if_neg (fun z => c1 (emp_ne.mpr ((ek_ge hk).mp z)))]
      dsimp only
      rw [recN m4_lt]
      exact ⟨rfl, hR⟩
theorem uq_m {g M : Nat → Int32} {p0 : Int32} {ns : Nat} : f_X7_unqueue g M p0 ns = if (f_X7_in p0 (nI 0) ((M 25) - (nI 1))) = 0 then ((-1), g, M) else ((f_X7_leaves (f_X7_records g M ns).2 0 p0.toNatClampNeg ((M 25).toNatClampNeg)).1, (f_X7_records g M ns).1, (f_X7_leaves (f_X7_records g M ns).2 0 p0.toNatClampNeg ((M 25).toNatClampNeg)).2) := rfl
theorem eq_unqueue {hs sn se tl : Int32} {nv nq zv zq g M : Nat → Int32} {hn : Nat} {xs : Nat → Nat → Nat} {vs qs : Nat → Nat → Int32} {p0 : Int32} (hR : Rl hs sn se nv nq zv zq hn vs qs tl g M) : (f_X6_unqueue nv nq hn xs vs qs p0).1 = (f_X7_unqueue g M p0 hn).1 ∧ Rl hs sn se (f_X6_unqueue nv nq hn xs vs qs p0).2.1 (f_X6_unqueue nv nq hn xs vs qs p0).2.2.1 zv zq (f_X6_unqueue nv nq hn xs vs qs p0).2.2.2.2.2.1 (f_X6_unqueue nv nq hn xs vs qs p0).2.2.2.2.2.2.2.1 (f_X6_unqueue nv nq hn xs vs qs p0).2.2.2.2.2.2.2.2 tl (f_X7_unqueue g M p0 hn).2.1 (f_X7_unqueue g M p0 hn).2.2 := by
  obtain ⟨n, hn1, hn2, hn3⟩ := hR.is.1.2
  have e25 : M 25 = nI n := hR.at.p25.trans hn2
  rw [uq_m]
  unfold f_X6_unqueue f_X2_removeFromLine f_X5_remove
  rw [e25, hn2]
  have bad : f_X7_in p0 (nI 0) (nI n - nI 1) = 0 → (p0 < 0 ∨ ¬ p0 < nI n) := by
    intro c
    by_cases c1 : p0 < 0
    · exact Or.inl c1
    · refine Or.inr (fun c2 => ?_)
      have e := natOf c1
      rw [e, nI_ltI (natBig p0) (by omega)] at c2
      rw [e, pk_sub (by omega)] at c
      exact in_of (i := p0.toNatClampNeg) (n := n - 1) (by omega) (by omega) c
  by_cases c : f_X7_in p0 (nI 0) (nI n - nI 1) = 0
  · rw [if_pos c]
    rcases bad c with c1 | c1
    · rw [if_pos c1]
      dsimp only
      rw [recN m1_lt, upd_id hn2]
      exact ⟨rfl, hR⟩
    · by_cases c2 : p0 < 0
      · rw [if_pos c2]
        dsimp only
        rw [recN m1_lt, upd_id hn2]
        exact ⟨rfl, hR⟩
      · rw [if_neg c2, if_neg c1]
        dsimp only
        rw [recN m1_lt, upd_id hn2]
        exact ⟨rfl, hR⟩
  · have hlt := inLen (k := n) c rfl hn1
    have h0 : ¬ p0 < 0 := inNat0 c
    have e := natOf h0
    generalize p0.toNatClampNeg = j at e hlt
    subst e
    rw [if_neg c, if_neg h0, if_pos ((nI_ltI (by omega) (by omega)).mpr hlt), nI_clamp (by omega)]
    have ek1 : f_X5_kindAt (nI n) nq (nI j) = nq j := by
      unfold f_X5_kindAt
      rw [if_neg h0, if_neg (fun z => by have := (nI_leI (by omega) (by omega)).mp z; omega), if_neg (fun z => by have := (nI_leI (by decide) (by omega)).mp z; omega), nI_clamp (by omega)]
    rw [ek1]
    have hL : (f_X7_records g M hn).2 (0 + 26 + j) = nq j := hR.rec0.lineP (j := j) (by omega) (by omega)
    unfold f_X7_leaves
    rw [hL]
    obtain ⟨g1, g2, g3, g4, g5⟩ := leaves_rm (M0 := (f_X7_records g M hn).2) (b := 0) (kd := nq j) hn2 hn1 13 (f_X7_records g M hn).2 nq j ⟨hR.rec0, Fr_rf⟩ hlt (by omega)
    dsimp only
    rw [g2, g3]
    have hq : ¬ nq j < 0 := by
      rcases hn3 j hlt with z | z | z <;> rw [z] <;> decide
    rw [recP hq]
    refine ⟨g1.symm, direct_rl (xs := xs) hR g4.1 ⟨⟨hR.is.1.1.of25 _, n - 1, by omega, ?_, fun m hm => g5 hn3 m (by omega)⟩, hR.is.2.of rfl rfl rfl rfl rfl rfl rfl⟩ (fun k h1 _ => g4.2 k (Or.inr (by omega)))⟩
    rw [pk_us, pk_sub (by omega)]
theorem eq_restore {hs sn se tl : Int32} {nv nq zv zq g M : Nat → Int32} {hn : Nat} {xs : Nat → Nat → Nat} {vs qs : Nat → Nat → Int32} {bv bq : Nat → Int32} (hR : Rl hs sn se nv nq zv zq hn vs qs tl g M) : (f_X6_restore hs nv nq bv bq zv zq hn xs vs qs).1 = (f_X7_restore g M hn).1 ∧ Rl hs sn se (f_X6_restore hs nv nq bv bq zv zq hn xs vs qs).2.1 (f_X6_restore hs nv nq bv bq zv zq hn xs vs qs).2.2.1 zv zq (f_X6_restore hs nv nq bv bq zv zq hn xs vs qs).2.2.2.2.2.1 (f_X6_restore hs nv nq bv bq zv zq hn xs vs qs).2.2.2.2.2.2.2.1 (f_X6_restore hs nv nq bv bq zv zq hn xs vs qs).2.2.2.2.2.2.2.2 tl (f_X7_restore g M hn).2.1 (f_X7_restore g M hn).2.2 := by
  obtain ⟨h4, h0, hA, hI, hH, hK, hS, hT⟩ := id hR
  unfold f_X6_restore f_X7_restore
  rcases hK with ⟨e1, e2⟩ | ⟨e1, e2, hz, hzi⟩
  · rw [if_pos (show hs = 0 from e1), if_pos (show g 1 = 0 from e2)]
    exact ⟨rfl, hR⟩
  · rw [if_neg (show ¬ hs = 0 by rw [e1]; decide), if_neg (show ¬ g 1 = 0 by rw [e2]; decide)]
    dsimp only
    obtain ⟨t, w, c, h1, h2, h3, e12, e41, e38⟩ := hzi.2.2.2
    have hzz : At (f_X7_records g M hn).2 (46 * 5) zv zq := hz.fr (fun j h1 h2 => rec_keep h4 (by omega))
    have hc : At (cpyM (f_X7_records g M hn).2 5 0 46) 0 zv zq := cpy_at (x := 5) (y := 0) hzz
    rw [recP (show ¬ zv 12 < 0 by rw [e12]; exact nI_pos (by omega))]
    have ez : (cpyM (f_X7_records g M hn).2 5 0 46) 12 = zv 12 := hc.p12
    exact ⟨ez.symm, direct_rl (xs := xs) hR hc hzi (fun j h5 _ => cpy_fr (by omega))⟩
theorem eq_undo {hs sn se tl : Int32} {nv nq zv zq g M : Nat → Int32} {hn : Nat} {vs qs : Nat → Nat → Int32} (hR : Rl hs sn se nv nq zv zq hn vs qs tl g M) : (f_X6_undo nv nq hn vs qs).1 = (f_X7_undo g M hn).1 ∧ Rl hs sn se (f_X6_undo nv nq hn vs qs).2.1 (f_X6_undo nv nq hn vs qs).2.2.1 zv zq (f_X6_undo nv nq hn vs qs).2.2.2 vs qs tl (f_X7_undo g M hn).2.1 (f_X7_undo g M hn).2.2 := by
  obtain ⟨h4, h0, hA, hI, hH, hK, hS, hT⟩ := id hR
  unfold f_X6_undo f_X7_undo f_X1_takeBack
  by_cases c : hn = 0
  · subst c
    rw [if_pos rfl, if_pos (show g 0 = 0 from h0)]
    exact ⟨rfl, hR⟩
  · rw [if_neg c, if_neg (show ¬ g 0 = 0 by rw [h0]; exact nI_ne0 (by omega) (by omega))]
    dsimp only
    have hp := hH (hn - 1) (by omega)
    rw [show hn - 1 + 1 = hn by omega] at hp
    refine ⟨by rw [h0, pk_sub (by omega)], by omega, by rw [pk_us, h0, pk_sub (by omega)], cpy_at (y := 0) hp.1, hp.2, fun i hi => ⟨(hH i (by omega)).1.cpyK (by omega), (hH i (by omega)).2⟩, ?_, ?_, ?_⟩
    · unfold RlK
      rw [pk_un (by omega)]
      rcases hK with h | ⟨h1, h2, h3, h5⟩
      · exact Or.inl h
      · exact Or.inr ⟨h1, h2, h3.cpyK (by omega), h5⟩
    · unfold RlS
      rw [pk_un (by omega), pk_un (by omega)]
      exact hS
    · unfold RlT
      rw [pk_un (by omega)]
      exact hT
theorem eq_keep {hs sn se tl : Int32} {nv nq zv zq g M : Nat → Int32} {hn : Nat} {vs qs : Nat → Nat → Int32} (hR : Rl hs sn se nv nq zv zq hn vs qs tl g M) : (f_X6_keep nv nq).1 = (f_X7_keep g M).1 ∧ Rl (f_X6_keep nv nq).2.1 sn se nv nq (f_X6_keep nv nq).2.2.1 (f_X6_keep nv nq).2.2.2 hn vs qs tl (f_X7_keep g M).2.1 (f_X7_keep g M).2.2 := by
  obtain ⟨h4, h0, hA, hI, hH, hK, hS, hT⟩ := id hR
  unfold f_X6_keep f_X7_keep
  have hc : At (cpyM M 0 5 46) 0 nv nq := hA.cpyK (by omega)
  have e12 : (cpyM M 0 5 46) 12 = nv 12 := hc.p12
  dsimp only
  refine ⟨e12.symm, h4, by rw [pk_un (by omega)]; exact h0, hc, hI, fun i hi => ⟨(hH i hi).1.cpyK (by omega), (hH i hi).2⟩, Or.inr ⟨rfl, pk_us, cpy_at (x := 0) (y := 5) hA, hI⟩, ?_, ?_⟩
  · unfold RlS
    rw [pk_un (by omega), pk_un (by omega)]
    exact hS
  · unfold RlT
    rw [pk_un (by omega)]
    exact hT
theorem RlS.u2 {g : Nat → Int32} {sn se x : Int32} (h : RlS g sn se) : RlS (upd g 2 x) sn se := by
  unfold RlS
  rw [pk_un (by omega), pk_un (by omega)]
  exact h
theorem RlK.u2 {g M zv zq : Nat → Int32} {hs x : Int32} (h : RlK g M zv zq hs) : RlK (upd g 2 x) M zv zq hs := by
  unfold RlK
  rw [pk_un (by omega)]
  exact h
theorem eq_type {hs sn se tl : Int32} {nv nq zv zq g M : Nat → Int32} {hn : Nat} {vs qs : Nat → Nat → Int32} {T : Nat → Int32} {p0 : Int32} (hR : Rl hs sn se nv nq zv zq hn vs qs tl g M) : (f_X6_type tl T p0).1 = (f_X7_type g T p0).1 ∧ (f_X6_type tl T p0).2.2 = (f_X7_type g T p0).2.2 ∧ Rl hs sn se nv nq zv zq hn vs qs (f_X6_type tl T p0).2.1 (f_X7_type g T p0).2.1 M := by
  obtain ⟨h4, h0, hA, hI, hH, hK, hS, n, hn8, e1, e2⟩ := id hR
  unfold f_X6_type f_X7_type f_X4_add
  rw [e1, e2, if_neg (nI_pos (by omega))]
  by_cases c : n = 80
  · subst c
    rw [if_neg (Int32.lt_irrefl), if_pos rfl]
    exact ⟨rfl, rfl, h4, h0, hA, hI, hH, hK, hS, 80, Nat.le_refl _, rfl, e2⟩
  · rw [if_pos ((nI_ltI (by omega) (by decide)).mpr (by omega)), if_neg (fun z => c ((nI_eq (by omega) (by decide)).mp z))]
    dsimp only
    refine ⟨rfl, rfl, h4, by rw [pk_un (by omega)]; exact h0, hA, hI, hH, hK.u2, hS.u2, n + 1, by omega, nI_add _ _, ?_⟩
    rw [pk_us, nI_add]
theorem eq_clearText {hs sn se tl : Int32} {nv nq zv zq g M : Nat → Int32} {hn : Nat} {vs qs : Nat → Nat → Int32} (hR : Rl hs sn se nv nq zv zq hn vs qs tl g M) : (f_X6_clearText tl).1 = (f_X7_clearText g).1 ∧ Rl hs sn se nv nq zv zq hn vs qs (f_X6_clearText tl).2 (f_X7_clearText g).2 M := by
  obtain ⟨h4, h0, hA, hI, hH, hK, hS, n, hn8, e1, e2⟩ := id hR
  unfold f_X6_clearText f_X7_clearText f_X4_empty
  dsimp only
  exact ⟨e1.trans e2.symm, h4, (pk_un (by omega)).trans h0, hA, hI, hH, hK.u2, hS.u2, 0, by omega, rfl, pk_us⟩
theorem eq_stopped {hs sn se tl : Int32} {nv nq zv zq g M : Nat → Int32} {hn : Nat} {vs qs : Nat → Nat → Int32} {p0 : Int32} (hR : Rl hs sn se nv nq zv zq hn vs qs tl g M) : f_X6_stopped sn se p0 = f_X7_stopped g p0 := by
  have hS := hR.2.2.2.2.2.2.1
  unfold f_X6_stopped f_X7_stopped
  by_cases c0 : p0 = nI 0
  · subst c0
    rw [if_pos rfl, if_neg (show ¬ f_X7_in (nI 0) (nI 0) (nI 1) = 0 by decide)]
    rcases hS with ⟨h1, h2, -⟩ | ⟨h1, h2, -⟩
    · rw [if_neg (fun z => nneg z h1), h2]
    · rw [if_pos (Int32.not_lt.mp h1), if_pos (show nI 0 = 0 from rfl), h2]
  · rw [if_neg c0]
    by_cases c1 : p0 = nI 1
    · subst c1
      rw [if_pos rfl, if_neg (show ¬ f_X7_in (nI 1) (nI 0) (nI 1) = 0 by decide)]
      rcases hS with ⟨h1, -, h2⟩ | ⟨h1, -, h2⟩
      · rw [if_neg (fun z => nneg z h1), h2]
      · rw [if_pos (Int32.not_lt.mp h1), if_neg (show ¬ nI 1 = 0 by decide), h2]
    · rw [if_neg c1]
      rcases two_cases p0 with z | z | ⟨z, -, -⟩
      · exact absurd z c0
      · exact absurd z c1
      · rw [if_pos z]
