/-! the law's start, and the claim -/
theorem arr_int {args : Array Value} {s : State} (h : (Cond.arrayClass .int).before args s = true) : ∃ cA : ClassId, ArrOfT s cA .int ∧ va_RA s cA .int := by
  obtain ⟨c, k, comp, h1, h2, h3⟩ := Cond.arrayClass_spec h
  exact ⟨c, fun n z => ⟨fun k h => (by cases h), k, h2, comp, h3⟩, h1⟩
theorem arr_char {args : Array Value} {s : State} (h : (Cond.arrayClass .char).before args s = true) : ∃ cA : ClassId, ArrOfT s cA .char ∧ va_RA s cA .char := by
  obtain ⟨c, k, comp, h1, h2, h3⟩ := Cond.arrayClass_spec h
  exact ⟨c, fun n z => ⟨fun k h => (by cases h), k, h2, comp, h3⟩, h1⟩
theorem arr_obj {args : Array Value} {s : State} {C : String} (h : (Cond.arrayOver (.object C)).before args s = true) : ∃ cA : ClassId, ArrOfT s cA (.object C) ∧ va_RA s cA (.object C) := by
  obtain ⟨comp, c, k, h1, h2, h3, h4, h5⟩ := Cond.arrayOver_spec h
  exact ⟨c, fun n z => ⟨fun k h => (by cases h), k, h3, comp, h4⟩, k, comp, h3, h4, h1, h5⟩
theorem ka_of {args : Array Value} {s : State} (hts : ∀ w ∈ lw_tbl, w.before args s = true) : ∃ G : GG, KA G s := by
  obtain ⟨c0, i0, hn0⟩ := u_known (C := RX0) (T := TX0) (N := 5) (n := 5) hts inX0 (hts (.instantiable RX0 5) (wsB_in _ (by decide +kernel)))
  obtain ⟨c1, i1, hn1⟩ := u_known (C := RX1) (T := TX1) (N := 2) (n := 2) hts inX1 (hts (.instantiable RX1 2) (wsB_in _ (by decide +kernel)))
  obtain ⟨c2, i2, hn2⟩ := u_known (C := RX2) (T := TX2) (N := 14) (n := 14) hts inX2 (hts (.instantiable RX2 14) (wsB_in _ (by decide +kernel)))
  obtain ⟨c3, i3, hn3⟩ := u_known (C := RX3) (T := TX3) (N := 3) (n := 3) hts inX3 (hts (.instantiable RX3 3) (wsB_in _ (by decide +kernel)))
  obtain ⟨c4, i4, hn4⟩ := u_known (C := RX4) (T := TX4) (N := 6) (n := 6) hts inX4 (hts (.instantiable RX4 6) (wsB_in _ (by decide +kernel)))
  obtain ⟨c5, i5, hn5⟩ := u_known (C := RX5) (T := TX5) (N := 2) (n := 2) hts inX5 (hts (.instantiable RX5 2) (wsB_in _ (by decide +kernel)))
  obtain ⟨c6, i6, hn6⟩ := u_known (C := RX6) (T := TX6) (N := 10) (n := 10) hts inX6 (hts (.instantiable RX6 10) (wsB_in _ (by decide +kernel)))
  obtain ⟨a0, p0, q0⟩ := arr_int (hts (.arrayClass .int) (wsB_in _ (by decide +kernel)))
  obtain ⟨a1, p1, q1⟩ := arr_char (hts (.arrayClass .char) (wsB_in _ (by decide +kernel)))
  have o2 := hts (.arrayOver (.object "SteamRations$Boiler")) (by decide +kernel)
  have o3 := hts (.arrayOver (.object "SteamRations$Machine")) (by decide +kernel)
  have o4 := hts (.arrayOver (.object "SteamRations$Laundry")) (by decide +kernel)
  obtain ⟨a2, p2, q2⟩ := arr_obj o2
  obtain ⟨a3, p3, q3⟩ := arr_obj o3
  obtain ⟨a4, p4, q4⟩ := arr_obj o4
  refine ⟨((fun k => match k with | 0 => c0 | 1 => c1 | 2 => c2 | 3 => c3 | 4 => c4 | 5 => c5 | _ => c6, fun k => match k with | 0 => i0 | 1 => i1 | 2 => i2 | 3 => i3 | 4 => i4 | 5 => i5 | _ => i6), fun k => match k with | 0 => a0 | 1 => a1 | 2 => a2 | 3 => a3 | _ => a4), ⟨⟨?_, ?_⟩, ?_⟩, va_AO.of o2, va_AO.of o3, va_AO.of o4⟩
  · intro k q hq
    match k, hq with
    | 0, hq => cases hq; exact hn0
    | 1, hq => cases hq; exact hn1
    | 2, hq => cases hq; exact hn2
    | 3, hq => cases hq; exact hn3
    | 4, hq => cases hq; exact hn4
    | 5, hq => cases hq; exact hn5
    | 6, hq => cases hq; exact hn6
    | k + 7, hq => simp [vwCl] at hq
  · intro k q hq
    match k, hq with
    | 0, hq => cases hq; exact ⟨p0, q0⟩
    | 1, hq => cases hq; exact ⟨p1, q1⟩
    | 2, hq => cases hq; exact ⟨p2, q2⟩
    | 3, hq => cases hq; exact ⟨p3, q3⟩
    | 4, hq => cases hq; exact ⟨p4, q4⟩
    | k + 5, hq => simp [TYG] at hq
  · exact ⟨va_Nw.of rfl (hts (.methodLinkNest RX2 100 yX6_isWithin RX6) (by decide +kernel)), va_Nw.of rfl (hts (.methodLinkNest RX3 21 yX6_ticksOf RX6) (by decide +kernel)), va_Nw.of rfl (hts (.methodLinkNest RX2 155 yX6_ticksOf RX6) (by decide +kernel)), va_Nw.of rfl (hts (.methodLinkNest RX2 188 yX6_steamOf RX6) (by decide +kernel)), va_Nw.of rfl (hts (.methodLinkNest RX2 191 yX6_worthOf RX6) (by decide +kernel)), va_Nw.of rfl (hts (.methodLinkNest RX4 57 yX6_isWithin RX6) (by decide +kernel))⟩
theorem def_X6 : ∀ j, j < 10 → defaultValue (tyX6 j) = vp_V [.null, .null, .null, .null, .null, .null, .null, .int 0, .int 0, .int 0] j := by
  intro j hj
  rcases (show j = 0 ∨ j = 1 ∨ j = 2 ∨ j = 3 ∨ j = 4 ∨ j = 5 ∨ j = 6 ∨ j = 7 ∨ j = 8 ∨ j = 9 by omega) with rfl | rfl | rfl | rfl | rfl | rfl | rfl | rfl | rfl | rfl <;> rfl
set_option maxHeartbeats 8000000 in
set_option maxRecDepth 100000 in
theorem whole_start {p : Program} {e : Env} {s : State} {m : MethodId} {below : List Frame} {meth : Method} {c : Code} (l : Launch) (hflags : l.flags = flags0) {b L : Nat} {xs : Nat → Int32} (hL : L ≤ 260) (C0 : lw_At p s m meth c b L xs) : W p l e room_1 s m #[Value.ref b] below meth c s.heap [] 0 0 (lw_Z below #[Value.ref b] s) (entryFrame m ([Value.ref b] : List Value).toArray 19) := by
  obtain ⟨hx, hb, hr, hml, hown, hts0, hX, hbl, hlocks, hgv⟩ := id C0
  have hts : ∀ w ∈ wsB, w.before #[Value.ref b] s = true := fun w hw => hts0 w (wsB_in w hw)
  have hA : ∀ q : Nat, s.heap.size ≤ q → (A0 s) q := fun _ h => h
  obtain ⟨G, hKA⟩ := ka_of hts0
  have hK : KN G s := hKA.1
  have X0 : Cx p s m #[Value.ref b] meth c cL_law 19 wsB RL ret := ⟨hx, hb, hr, hml, hown, hts, hlocks⟩
  have hS : va_S (A0 s) s.heap s.heap [] := va_S.rf
  have hP : va_P G.1 vwCl [] s.heap := fun k q h => by simp at h
  have hD : va_D (A0 s) [] := ⟨fun i j p q h => by simp at h, fun k q h => by simp at h⟩
  have hl := lv_entry ([.ref b]) (n := 19) (Nat.le_of_ble_eq_true rfl)
  rw [lg_entry_eq]
  generalize (lg_sl ([.ref b]) ++ List.replicate (19 - (lg_sl ([.ref b])).length) Slot.unset).toArray = ls at hl ⊢
  have hl : lv_has ls 19 [(0, .ref b)] := hl
  refine va_new (D := G.1) (ci := 6) (fs := [.null, .null, .null, .null, .null, .null, .null, .int 0, .int 0, .int 0]) (C := RX6) (T := TX6) (N := 10) hx hb hts inBX6 tyX6 tyX6_ok hown (hts (.classLink RL 10 RX6) (by decide +kernel)) (hts (.instantiable RX6 10) (by decide +kernel)) (hts (.initialized RX6) (by decide +kernel)) hK.1 hP hD hS hA rfl def_X6 (Nat.le_of_ble_eq_true rfl) (Nat.le_of_ble_eq_true rfl) dL_law_0 (fun q0 H hP hD hS => ?_)
  have hW : BW G (A0 s) [[(q0, .inr (6, [.null, .null, .null, .null, .null, .null, .null, .int 0, .int 0, .int 0]))]] H := BW.of hP hD
  refine W.widen (k := 1) (n := 10) (by omega) (by omega) ?_
  refine lv_dup hx hb dL_law_3 rfl ?_
  refine gcallB_V (bc := [[(q0, .inr (6, [.null, .null, .null, .null, .null, .null, .null, .int 0, .int 0, .int 0]))]]) (runB_I (As := []) (rest := [.ref q0]) (bc := [[(q0, .inr (6, [.null, .null, .null, .null, .null, .null, .null, .int 0, .int 0, .int 0]))]]) X0 hKA hW (c_X6_init l G q0 H.size) (cwI 0 hts gB_init rfl rfl rfl (hts (.initialized RX6) (by decide +kernel)) (hts (.methodLink RL 56 yX6_init) (by decide +kernel)) (hts (.instanceMethod yX6_init) (by decide +kernel)) rfl (by decide +kernel) ⟨Nat.le_of_ble_eq_true rfl, Nat.le_of_ble_eq_true rfl⟩) [0] rfl rfl rfl rfl hl.1 rfl (Nat.le_of_ble_eq_true rfl) dL_law_4 ⟨Nat.le_of_ble_eq_true rfl, Nat.le_of_ble_eq_true rfl⟩) hW hS hA [0] rfl rfl rfl (fun u => [SC q0 u.1 u.2.1 u.2.2.1 u.2.2.2.1 u.2.2.2.2.1 u.2.2.2.2.2.1 u.2.2.2.2.2.2.2.1 0 (-5) (-5) ++ LC G u.1 vI qI ++ LC G u.2.1 vI qI ++ LC G u.2.2.1 vI qI ++ LC G u.2.2.2.1 vI qI ++ LC G u.2.2.2.2.1 vI qI ++ HB G u.2.2.2.2.2.1 u.2.2.2.2.2.2.1.1 0 u.2.2.2.2.2.2.1.2 (fun _ => vI) (fun _ => qI) ++ OT G u.2.2.2.2.2.2.2.1 u.2.2.2.2.2.2.2.2 0 0 0 0 0 qI]) (fun _ => rfl) (fun _ => rfl) (fun u H locs hw6 hW hS => ?_)
  have hW : BW G (A0 s) [SC q0 u.1 u.2.1 u.2.2.1 u.2.2.2.1 u.2.2.2.2.1 u.2.2.2.2.2.1 u.2.2.2.2.2.2.2.1 0 (-5) (-5) ++ LC G u.1 vI qI ++ LC G u.2.1 vI qI ++ LC G u.2.2.1 vI qI ++ LC G u.2.2.2.1 vI qI ++ LC G u.2.2.2.2.1 vI qI ++ HB G u.2.2.2.2.2.1 u.2.2.2.2.2.2.1.1 0 u.2.2.2.2.2.2.1.2 (fun _ => vI) (fun _ => qI) ++ OT G u.2.2.2.2.2.2.2.1 u.2.2.2.2.2.2.2.2 0 0 0 0 0 qI] H := hW
  obtain ⟨hP, hD⟩ := hW.flat
  refine W.widen (k := 104) (n := 606) (by omega) (by omega) ?_
  refine lv_astore_n (lv' := [(1, .ref q0), (0, .ref b)]) hx hb dL_law_7 rfl hl (by decide) rfl (fun ls hl => ?_)
  have hW : WD G (A0 s) (q0, u.1, u.2.1, u.2.2.1, u.2.2.2.1, u.2.2.2.2.1, u.2.2.2.2.2.1, u.2.2.2.2.2.2.2.1, u.2.2.2.2.2.2.1.1, u.2.2.2.2.2.2.2.2) vI qI 0 (fun _ => vI) (fun _ => qI) H := ⟨(vI, qI, vI, qI, vI, qI, vI, qI, u.2.2.2.2.2.2.1.2, 0, 0, 0, 0, qI), BW.of hP hD⟩
  exact lg_all C0 X0 hK hA hL H locs ls hW hS (lv_sub hl [1, 0] rfl)
