def f_X2_boilerAt (a : Nat → Nat) (p0 : Int32) : Option Nat :=
  if p0 < 0 then
    none
  else
    if (nI 2) ≤ p0 then
      none
    else
      (bref a p0.toNatClampNeg)
set_option maxRecDepth 20000 in
theorem k_X2_boilerAt_f12 : Cond.fieldLink RX2 12 "SteamRations$Laundry" "boilers" "[LSteamRations$Boiler;" ∈ wsX2_boilerAt := by decide +kernel
set_option maxRecDepth 20000 in
theorem in_X2_boilerAt_RX2 : ∀ w ∈ u_ws RX2 TX2 14, w ∈ wsX2_boilerAt := by decide +kernel
theorem cd_X2_boilerAt : yX2_boilerAt.cls = RX2 ∧ yX2_boilerAt.cls ≠ "java/lang/invoke/MethodHandle" ∧ yX2_boilerAt.cls ≠ "java/lang/invoke/VarHandle" ∧ (parseMethodDescriptor yX2_boilerAt.desc).map (fun d => d.parameters.length) = some 1 := by decide +kernel
set_option maxHeartbeats 4000000 in
set_option maxRecDepth 100000 in
theorem c_X2_boilerAt (l : Launch) (G : GG) (a : Nat → Nat) (v : (Nat → Int32)) (q : (Nat → Int32)) (sz : Nat) (p0 : Int32)  : Met l yX2_boilerAt wsX2_boilerAt ({ frames := 0, cells := 0, slots := 0, locals := 0 }) (Pre G [.ref (a 0), .int p0] (LC G a v q) sz) (PQ G (va_A (LC G a v q) sz) (fun r (_ : Unit) => f_X2_boilerAt a p0 = r) (fun _ : Unit => LC G a v q)) 0 0 (va_A (LC G a v q) sz) := by
  refine Met.walk (cc := cX2_boilerAt) (maxL := 2) (ret := (some (.object "SteamRations$Boiler"))) (Qc := fun A => PQ G A (fun r (_ : Unit) => f_X2_boilerAt a p0 = r) (fun _ : Unit => LC G a v q)) (by decide) rfl (Nat.le_of_ble_eq_true rfl) ?_
  intro p e s m below meth c A H C0 _ hK hsz hP hD hA hS ls hl
  have hx := C0.1
  have hb := C0.2.1
  have hown : s.vm.findClass RX2 = some m.cls := C0.2.2.2.2.1
  have hml := C0.2.2.2.1
  have hts : ∀ w ∈ wsX2_boilerAt, w.before [.ref (a 0), .int p0].toArray s = true := C0.2.2.2.2.2.1
  have hl : lv_has ls 2 [(0, .ref (a 0)), (1, .int p0)] := hl
  refine lv_iload_n hx hb dX2_boilerAt_0 rfl (lv_at hl 1 rfl) ?_
  refine lv_if_lt (tgt := 22) hx hb dX2_boilerAt_1 (by decide) (fun c_1 => ?_) (fun c_1 => ?_)
  · refine lv_null hx hb dX2_boilerAt_22 ?_
    exact end_Q C0 (r := none) rfl hP hD hS () (by simp only [f_X2_boilerAt, if_pos c_1]) rfl dX2_boilerAt_23
  · refine lv_iload_n hx hb dX2_boilerAt_4 rfl (lv_at hl 1 rfl) ?_
    refine lv_aload_n hx hb dX2_boilerAt_5 rfl (lv_at hl 0 rfl) ?_
    refine va_get (D := G.1) (ci := 2) (v := .ref (a 1)) (C := RX2) (T := TX2) (N := 14) hx hb hts in_X2_boilerAt_RX2 hown hK.1 hP 0 rfl rfl 0 (by decide) (hts _ k_X2_boilerAt_f12) (fun _ h9 => h9) rfl dX2_boilerAt_6 ?_
    refine n_alen (n := 2) hx hb hK hP 1 2 rfl rfl dX2_boilerAt_9 ?_
    refine lv_icmp_ge (tgt := 22) hx hb dX2_boilerAt_10 (by decide) (fun c_2 => ?_) (fun c_2 => ?_)
    · refine lv_null hx hb dX2_boilerAt_22 ?_
      exact end_Q C0 (r := none) rfl hP hD hS () (by simp only [f_X2_boilerAt, if_neg c_1, if_pos c_2]) rfl dX2_boilerAt_23
    · refine lv_aload_n hx hb dX2_boilerAt_13 rfl (lv_at hl 0 rfl) ?_
      refine va_get (D := G.1) (ci := 2) (v := .ref (a 1)) (C := RX2) (T := TX2) (N := 14) hx hb hts in_X2_boilerAt_RX2 hown hK.1 hP 0 rfl rfl 0 (by decide) (hts _ k_X2_boilerAt_f12) (fun _ h9 => h9) rfl dX2_boilerAt_14 ?_
      refine lv_iload_n hx hb dX2_boilerAt_17 rfl (lv_at hl 1 rfl) ?_
      refine va_aldq hx hb hK.1 hP 1 2 rfl rfl (vinOf c_1 c_2 (by decide)) dX2_boilerAt_18 ?_
      refine lv_goto (tgt := 23) hx hb dX2_boilerAt_19 (by decide) ?_
      exact end_Q C0 (r := (bref a p0.toNatClampNeg)) rfl hP hD hS () (by simp only [f_X2_boilerAt, if_neg c_1, if_neg c_2]) rfl dX2_boilerAt_23

theorem f_X2_boilerAt_none {a : Nat → Nat} {x : Int32} (h0 : ¬ x = nI 0) (h1 : ¬ x = nI 1) : f_X2_boilerAt a x = none := by
  unfold f_X2_boilerAt
  by_cases c1 : x < 0
  · rw [if_pos c1]
  · rw [if_neg c1]
    by_cases c2 : nI 2 ≤ x
    · rw [if_pos c2]
    · have h2 := natLt c1 c2 (by decide)
      have h3 := natOf c1
      generalize x.toNatClampNeg = j at h2 h3
      have : j = 0 ∨ j = 1 := by omega
      rcases this with rfl | rfl
      · exact absurd h3 h0
      · exact absurd h3 h1

def f_X2_machineAt (a : Nat → Nat) (p0 : Int32) : Option Nat :=
  if p0 < 0 then
    none
  else
    if (nI 4) ≤ p0 then
      none
    else
      (mref a p0.toNatClampNeg)
set_option maxRecDepth 20000 in
theorem k_X2_machineAt_f21 : Cond.fieldLink RX2 21 "SteamRations$Laundry" "machines" "[LSteamRations$Machine;" ∈ wsX2_machineAt := by decide +kernel
set_option maxRecDepth 20000 in
theorem in_X2_machineAt_RX2 : ∀ w ∈ u_ws RX2 TX2 14, w ∈ wsX2_machineAt := by decide +kernel
theorem cd_X2_machineAt : yX2_machineAt.cls = RX2 ∧ yX2_machineAt.cls ≠ "java/lang/invoke/MethodHandle" ∧ yX2_machineAt.cls ≠ "java/lang/invoke/VarHandle" ∧ (parseMethodDescriptor yX2_machineAt.desc).map (fun d => d.parameters.length) = some 1 := by decide +kernel
set_option maxHeartbeats 4000000 in
set_option maxRecDepth 100000 in
theorem c_X2_machineAt (l : Launch) (G : GG) (a : Nat → Nat) (v : (Nat → Int32)) (q : (Nat → Int32)) (sz : Nat) (p0 : Int32)  : Met l yX2_machineAt wsX2_machineAt ({ frames := 0, cells := 0, slots := 0, locals := 0 }) (Pre G [.ref (a 0), .int p0] (LC G a v q) sz) (PQ G (va_A (LC G a v q) sz) (fun r (_ : Unit) => f_X2_machineAt a p0 = r) (fun _ : Unit => LC G a v q)) 0 0 (va_A (LC G a v q) sz) := by
  refine Met.walk (cc := cX2_machineAt) (maxL := 2) (ret := (some (.object "SteamRations$Machine"))) (Qc := fun A => PQ G A (fun r (_ : Unit) => f_X2_machineAt a p0 = r) (fun _ : Unit => LC G a v q)) (by decide) rfl (Nat.le_of_ble_eq_true rfl) ?_
  intro p e s m below meth c A H C0 _ hK hsz hP hD hA hS ls hl
  have hx := C0.1
  have hb := C0.2.1
  have hown : s.vm.findClass RX2 = some m.cls := C0.2.2.2.2.1
  have hml := C0.2.2.2.1
  have hts : ∀ w ∈ wsX2_machineAt, w.before [.ref (a 0), .int p0].toArray s = true := C0.2.2.2.2.2.1
  have hl : lv_has ls 2 [(0, .ref (a 0)), (1, .int p0)] := hl
  refine lv_iload_n hx hb dX2_machineAt_0 rfl (lv_at hl 1 rfl) ?_
  refine lv_if_lt (tgt := 22) hx hb dX2_machineAt_1 (by decide) (fun c_1 => ?_) (fun c_1 => ?_)
  · refine lv_null hx hb dX2_machineAt_22 ?_
    exact end_Q C0 (r := none) rfl hP hD hS () (by simp only [f_X2_machineAt, if_pos c_1]) rfl dX2_machineAt_23
  · refine lv_iload_n hx hb dX2_machineAt_4 rfl (lv_at hl 1 rfl) ?_
    refine lv_aload_n hx hb dX2_machineAt_5 rfl (lv_at hl 0 rfl) ?_
    refine va_get (D := G.1) (ci := 2) (v := .ref (a 4)) (C := RX2) (T := TX2) (N := 14) hx hb hts in_X2_machineAt_RX2 hown hK.1 hP 0 rfl rfl 1 (by decide) (hts _ k_X2_machineAt_f21) (fun _ h9 => h9) rfl dX2_machineAt_6 ?_
    refine n_alen (n := 4) hx hb hK hP 4 3 rfl rfl dX2_machineAt_9 ?_
    refine lv_icmp_ge (tgt := 22) hx hb dX2_machineAt_10 (by decide) (fun c_2 => ?_) (fun c_2 => ?_)
    · refine lv_null hx hb dX2_machineAt_22 ?_
      exact end_Q C0 (r := none) rfl hP hD hS () (by simp only [f_X2_machineAt, if_neg c_1, if_pos c_2]) rfl dX2_machineAt_23
    · refine lv_aload_n hx hb dX2_machineAt_13 rfl (lv_at hl 0 rfl) ?_
      refine va_get (D := G.1) (ci := 2) (v := .ref (a 4)) (C := RX2) (T := TX2) (N := 14) hx hb hts in_X2_machineAt_RX2 hown hK.1 hP 0 rfl rfl 1 (by decide) (hts _ k_X2_machineAt_f21) (fun _ h9 => h9) rfl dX2_machineAt_14 ?_
      refine lv_iload_n hx hb dX2_machineAt_17 rfl (lv_at hl 1 rfl) ?_
      refine va_aldq hx hb hK.1 hP 4 3 rfl rfl (vinOf c_1 c_2 (by decide)) dX2_machineAt_18 ?_
      refine lv_goto (tgt := 23) hx hb dX2_machineAt_19 (by decide) ?_
      exact end_Q C0 (r := (mref a p0.toNatClampNeg)) rfl hP hD hS () (by simp only [f_X2_machineAt, if_neg c_1, if_neg c_2]) rfl dX2_machineAt_23

theorem f_X2_machineAt_none {a : Nat → Nat} {x : Int32} (h0 : ¬ x = nI 0) (h1 : ¬ x = nI 1) (h2 : ¬ x = nI 2) (h3 : ¬ x = nI 3) : f_X2_machineAt a x = none := by
  unfold f_X2_machineAt
  by_cases c1 : x < 0
  · rw [if_pos c1]
  · rw [if_neg c1]
    by_cases c2 : nI 4 ≤ x
    · rw [if_pos c2]
    · have h5 := natLt c1 c2 (by decide)
      have h6 := natOf c1
      generalize x.toNatClampNeg = j at h5 h6
      have : j = 0 ∨ j = 1 ∨ j = 2 ∨ j = 3 := by omega
      rcases this with rfl | rfl | rfl | rfl
      · exact absurd h6 h0
      · exact absurd h6 h1
      · exact absurd h6 h2
      · exact absurd h6 h3
theorem low0 : ((nI 0) = 0) = True := by decide
theorem low1 : ((nI 1) = 0) = False := by decide

def f_X2_lowestEmptyMachine (a : Nat → Nat) (v : (Nat → Int32)) : Option Nat :=
  if (f_X3_isEmpty (v 13)) = 0 then
    if (f_X3_isEmpty (v 14)) = 0 then
      if (f_X3_isEmpty (v 15)) = 0 then
        if (f_X3_isEmpty (v 16)) = 0 then
          none
        else
          (some (a 8))
      else
        (some (a 7))
    else
      (some (a 6))
  else
    (some (a 5))
set_option maxRecDepth 20000 in
theorem k_X2_lowestEmptyMachine_f21 : Cond.fieldLink RX2 21 "SteamRations$Laundry" "machines" "[LSteamRations$Machine;" ∈ wsX2_lowestEmptyMachine := by decide +kernel
set_option maxRecDepth 20000 in
theorem in_X2_lowestEmptyMachine_RX2 : ∀ w ∈ u_ws RX2 TX2 14, w ∈ wsX2_lowestEmptyMachine := by decide +kernel
theorem cd_X2_lowestEmptyMachine : yX2_lowestEmptyMachine.cls = RX2 ∧ yX2_lowestEmptyMachine.cls ≠ "java/lang/invoke/MethodHandle" ∧ yX2_lowestEmptyMachine.cls ≠ "java/lang/invoke/VarHandle" ∧ (parseMethodDescriptor yX2_lowestEmptyMachine.desc).map (fun d => d.parameters.length) = some 0 := by decide +kernel
set_option maxHeartbeats 4000000 in
set_option maxRecDepth 100000 in
theorem c_X2_lowestEmptyMachine (l : Launch) (G : GG) (a : Nat → Nat) (v : (Nat → Int32)) (q : (Nat → Int32)) (sz : Nat)   : Met l yX2_lowestEmptyMachine wsX2_lowestEmptyMachine ({ frames := 1, cells := 0, slots := 0, locals := 20 }) (Pre G [.ref (a 0)] (LC G a v q) sz) (PQ G (va_A (LC G a v q) sz) (fun r (_ : Unit) => f_X2_lowestEmptyMachine a v = r) (fun _ : Unit => LC G a v q)) 0 0 (va_A (LC G a v q) sz) := by
  refine Met.walk (cc := cX2_lowestEmptyMachine) (maxL := 5) (ret := (some (.object "SteamRations$Machine"))) (Qc := fun A => PQ G A (fun r (_ : Unit) => f_X2_lowestEmptyMachine a v = r) (fun _ : Unit => LC G a v q)) (by decide) rfl (Nat.le_of_ble_eq_true rfl) ?_
  intro p e s m below meth c A H C0 _ hK hsz hP hD hA hS ls hl
  have hx := C0.1
  have hb := C0.2.1
  have hown : s.vm.findClass RX2 = some m.cls := C0.2.2.2.2.1
  have hml := C0.2.2.2.1
  have hts : ∀ w ∈ wsX2_lowestEmptyMachine, w.before [.ref (a 0)].toArray s = true := C0.2.2.2.2.2.1
  have hl : lv_has ls 5 [(0, .ref (a 0))] := hl
  refine lv_aload_n hx hb dX2_lowestEmptyMachine_0 rfl (lv_at hl 0 rfl) ?_
  refine va_get (D := G.1) (ci := 2) (v := .ref (a 4)) (C := RX2) (T := TX2) (N := 14) hx hb hts in_X2_lowestEmptyMachine_RX2 hown hK.1 hP 0 rfl rfl 1 (by decide) (hts _ k_X2_lowestEmptyMachine_f21) (fun _ h9 => h9) rfl dX2_lowestEmptyMachine_1 ?_
  refine lv_astore_n (lv' := [(1, .ref (a 4)), (0, .ref (a 0))]) hx hb dX2_lowestEmptyMachine_4 rfl hl (by decide) rfl (fun ls hl => ?_)
  refine lv_aload_n hx hb dX2_lowestEmptyMachine_5 rfl (lv_at hl 0 rfl) ?_
  refine n_alen (n := 4) hx hb hK hP 4 3 rfl rfl dX2_lowestEmptyMachine_6 ?_
  refine lv_istore_n (lv' := [(2, .int (nI 4)), (1, .ref (a 4)), (0, .ref (a 0))]) hx hb dX2_lowestEmptyMachine_7 rfl hl (by decide) rfl (fun ls hl => ?_)
  refine lv_iconst (v := (nI 0)) hx hb dX2_lowestEmptyMachine_8 (by decide) ?_
  refine lv_istore_n (lv' := [(3, .int (nI 0)), (2, .int (nI 4)), (1, .ref (a 4)), (0, .ref (a 0))]) hx hb dX2_lowestEmptyMachine_9 rfl hl (by decide) rfl (fun ls hl => ?_)
  refine lv_iload_n hx hb dX2_lowestEmptyMachine_10 rfl (lv_at hl 0 rfl) ?_
  refine lv_iload_n hx hb dX2_lowestEmptyMachine_11 rfl (lv_at hl 1 rfl) ?_
  refine lv_icmp_ge (tgt := 37) hx hb dX2_lowestEmptyMachine_12 (by decide) (fun c_1 => absurd c_1 (by decide +kernel)) (fun c_1 => ?_)
  refine lv_aload_n hx hb dX2_lowestEmptyMachine_15 rfl (lv_at hl 2 rfl) ?_
  refine lv_iload_n hx hb dX2_lowestEmptyMachine_16 rfl (lv_at hl 0 rfl) ?_
  refine n_aald (j := 0) (v := .ref (a 5)) (Cn := "SteamRations$Machine") hx hb hK hP 4 3 rfl rfl (by decide) (by decide) rfl dX2_lowestEmptyMachine_17 ?_
  refine lv_astore (lv' := [(4, .ref (a 5)), (3, .int (nI 0)), (2, .int (nI 4)), (1, .ref (a 4)), (0, .ref (a 0))]) hx hb dX2_lowestEmptyMachine_18 hl (by decide) rfl (fun ls hl => ?_)
  refine lv_aload hx hb dX2_lowestEmptyMachine_20 (lv_at hl 0 rfl) ?_
  refine gcall_I (run_V (As := []) (rest := []) C0 hK hP hD (c_X3_isEmpty l G (a 5) (v 13) (v 17) (v 21) H.size ) (cwV 0 hts gX2_lowestEmptyMachine_X3_isEmpty rfl rfl rfl cd_X3_isEmpty ⟨Nat.le_of_ble_eq_true rfl, Nat.le_of_ble_eq_true rfl⟩) [5] rfl rfl 5 (ci := 3) rfl rfl rfl rfl hl.1 rfl (Nat.le_of_ble_eq_true rfl) dX2_lowestEmptyMachine_22 ⟨Nat.le_of_ble_eq_true rfl, Nat.le_of_ble_eq_true rfl⟩) hP hD hS hA [5] rfl rfl (fun _ => rfl) (fun r_2 _ H locs hw_2 hP hD hS => ?_)
  have hz_r_2 := hw_2.2
  have hw_2 := hw_2.1
  subst hw_2
  have hP : va_P G.1 vwCl (LC G a v q) H := hP
  have hD : va_D A (LC G a v q) := hD
  refine lv_if_eq (tgt := 31) hx hb dX2_lowestEmptyMachine_25 (by decide) (fun c_3 => ?_) (fun c_3 => ?_)
  · refine lv_iinc (v := (nI 1)) (lv' := [(3, .int (nI 1)), (4, .ref (a 5)), (2, .int (nI 4)), (1, .ref (a 4)), (0, .ref (a 0))]) hx hb dX2_lowestEmptyMachine_31 hl (k := 1) rfl (inc1 0) (by decide) rfl (fun ls hl => ?_)
    refine lv_goto (tgt := 10) hx hb dX2_lowestEmptyMachine_34 (by decide) ?_
    refine lv_iload_n hx hb dX2_lowestEmptyMachine_10 rfl (lv_at hl 0 rfl) ?_
    refine lv_iload_n hx hb dX2_lowestEmptyMachine_11 rfl (lv_at hl 2 rfl) ?_
    refine lv_icmp_ge (tgt := 37) hx hb dX2_lowestEmptyMachine_12 (by decide) (fun c_4 => absurd c_4 (by decide +kernel)) (fun c_4 => ?_)
    refine lv_aload_n hx hb dX2_lowestEmptyMachine_15 rfl (lv_at hl 3 rfl) ?_
    refine lv_iload_n hx hb dX2_lowestEmptyMachine_16 rfl (lv_at hl 0 rfl) ?_
    refine n_aald (j := 1) (v := .ref (a 6)) (Cn := "SteamRations$Machine") hx hb hK hP 4 3 rfl rfl (by decide) (by decide) rfl dX2_lowestEmptyMachine_17 ?_
    refine lv_astore (lv' := [(4, .ref (a 6)), (3, .int (nI 1)), (2, .int (nI 4)), (1, .ref (a 4)), (0, .ref (a 0))]) hx hb dX2_lowestEmptyMachine_18 hl (by decide) rfl (fun ls hl => ?_)
    refine lv_aload hx hb dX2_lowestEmptyMachine_20 (lv_at hl 0 rfl) ?_
    refine gcall_I (run_V (As := []) (rest := []) C0 hK hP hD (c_X3_isEmpty l G (a 6) (v 14) (v 18) (v 22) H.size ) (cwV 0 hts gX2_lowestEmptyMachine_X3_isEmpty rfl rfl rfl cd_X3_isEmpty ⟨Nat.le_of_ble_eq_true rfl, Nat.le_of_ble_eq_true rfl⟩) [6] rfl rfl 6 (ci := 3) rfl rfl rfl rfl hl.1 rfl (Nat.le_of_ble_eq_true rfl) dX2_lowestEmptyMachine_22 ⟨Nat.le_of_ble_eq_true rfl, Nat.le_of_ble_eq_true rfl⟩) hP hD hS hA [6] rfl rfl (fun _ => rfl) (fun r_5 _ H locs hw_5 hP hD hS => ?_)
    have hz_r_5 := hw_5.2
    have hw_5 := hw_5.1
    subst hw_5
    have hP : va_P G.1 vwCl (LC G a v q) H := hP
    have hD : va_D A (LC G a v q) := hD
    refine lv_if_eq (tgt := 31) hx hb dX2_lowestEmptyMachine_25 (by decide) (fun c_6 => ?_) (fun c_6 => ?_)
    · refine lv_iinc (v := (nI 2)) (lv' := [(3, .int (nI 2)), (4, .ref (a 6)), (2, .int (nI 4)), (1, .ref (a 4)), (0, .ref (a 0))]) hx hb dX2_lowestEmptyMachine_31 hl (k := 1) rfl (inc1 1) (by decide) rfl (fun ls hl => ?_)
      refine lv_goto (tgt := 10) hx hb dX2_lowestEmptyMachine_34 (by decide) ?_
      refine lv_iload_n hx hb dX2_lowestEmptyMachine_10 rfl (lv_at hl 0 rfl) ?_
      refine lv_iload_n hx hb dX2_lowestEmptyMachine_11 rfl (lv_at hl 2 rfl) ?_
      refine lv_icmp_ge (tgt := 37) hx hb dX2_lowestEmptyMachine_12 (by decide) (fun c_7 => absurd c_7 (by decide +kernel)) (fun c_7 => ?_)
      refine lv_aload_n hx hb dX2_lowestEmptyMachine_15 rfl (lv_at hl 3 rfl) ?_
      refine lv_iload_n hx hb dX2_lowestEmptyMachine_16 rfl (lv_at hl 0 rfl) ?_
      refine n_aald (j := 2) (v := .ref (a 7)) (Cn := "SteamRations$Machine") hx hb hK hP 4 3 rfl rfl (by decide) (by decide) rfl dX2_lowestEmptyMachine_17 ?_
      refine lv_astore (lv' := [(4, .ref (a 7)), (3, .int (nI 2)), (2, .int (nI 4)), (1, .ref (a 4)), (0, .ref (a 0))]) hx hb dX2_lowestEmptyMachine_18 hl (by decide) rfl (fun ls hl => ?_)
      refine lv_aload hx hb dX2_lowestEmptyMachine_20 (lv_at hl 0 rfl) ?_
      refine gcall_I (run_V (As := []) (rest := []) C0 hK hP hD (c_X3_isEmpty l G (a 7) (v 15) (v 19) (v 23) H.size ) (cwV 0 hts gX2_lowestEmptyMachine_X3_isEmpty rfl rfl rfl cd_X3_isEmpty ⟨Nat.le_of_ble_eq_true rfl, Nat.le_of_ble_eq_true rfl⟩) [7] rfl rfl 7 (ci := 3) rfl rfl rfl rfl hl.1 rfl (Nat.le_of_ble_eq_true rfl) dX2_lowestEmptyMachine_22 ⟨Nat.le_of_ble_eq_true rfl, Nat.le_of_ble_eq_true rfl⟩) hP hD hS hA [7] rfl rfl (fun _ => rfl) (fun r_8 _ H locs hw_8 hP hD hS => ?_)
      have hz_r_8 := hw_8.2
      have hw_8 := hw_8.1
      subst hw_8
      have hP : va_P G.1 vwCl (LC G a v q) H := hP
      have hD : va_D A (LC G a v q) := hD
      refine lv_if_eq (tgt := 31) hx hb dX2_lowestEmptyMachine_25 (by decide) (fun c_9 => ?_) (fun c_9 => ?_)
      · refine lv_iinc (v := (nI 3)) (lv' := [(3, .int (nI 3)), (4, .ref (a 7)), (2, .int (nI 4)), (1, .ref (a 4)), (0, .ref (a 0))]) hx hb dX2_lowestEmptyMachine_31 hl (k := 1) rfl (inc1 2) (by decide) rfl (fun ls hl => ?_)
        refine lv_goto (tgt := 10) hx hb dX2_lowestEmptyMachine_34 (by decide) ?_
        refine lv_iload_n hx hb dX2_lowestEmptyMachine_10 rfl (lv_at hl 0 rfl) ?_
        refine lv_iload_n hx hb dX2_lowestEmptyMachine_11 rfl (lv_at hl 2 rfl) ?_
        refine lv_icmp_ge (tgt := 37) hx hb dX2_lowestEmptyMachine_12 (by decide) (fun c_10 => absurd c_10 (by decide +kernel)) (fun c_10 => ?_)
        refine lv_aload_n hx hb dX2_lowestEmptyMachine_15 rfl (lv_at hl 3 rfl) ?_
        refine lv_iload_n hx hb dX2_lowestEmptyMachine_16 rfl (lv_at hl 0 rfl) ?_
        refine n_aald (j := 3) (v := .ref (a 8)) (Cn := "SteamRations$Machine") hx hb hK hP 4 3 rfl rfl (by decide) (by decide) rfl dX2_lowestEmptyMachine_17 ?_
        refine lv_astore (lv' := [(4, .ref (a 8)), (3, .int (nI 3)), (2, .int (nI 4)), (1, .ref (a 4)), (0, .ref (a 0))]) hx hb dX2_lowestEmptyMachine_18 hl (by decide) rfl (fun ls hl => ?_)
        refine lv_aload hx hb dX2_lowestEmptyMachine_20 (lv_at hl 0 rfl) ?_
        refine gcall_I (run_V (As := []) (rest := []) C0 hK hP hD (c_X3_isEmpty l G (a 8) (v 16) (v 20) (v 24) H.size ) (cwV 0 hts gX2_lowestEmptyMachine_X3_isEmpty rfl rfl rfl cd_X3_isEmpty ⟨Nat.le_of_ble_eq_true rfl, Nat.le_of_ble_eq_true rfl⟩) [8] rfl rfl 8 (ci := 3) rfl rfl rfl rfl hl.1 rfl (Nat.le_of_ble_eq_true rfl) dX2_lowestEmptyMachine_22 ⟨Nat.le_of_ble_eq_true rfl, Nat.le_of_ble_eq_true rfl⟩) hP hD hS hA [8] rfl rfl (fun _ => rfl) (fun r_11 _ H locs hw_11 hP hD hS => ?_)
        have hz_r_11 := hw_11.2
        have hw_11 := hw_11.1
        subst hw_11
        have hP : va_P G.1 vwCl (LC G a v q) H := hP
        have hD : va_D A (LC G a v q) := hD
        refine lv_if_eq (tgt := 31) hx hb dX2_lowestEmptyMachine_25 (by decide) (fun c_12 => ?_) (fun c_12 => ?_)
        · refine lv_iinc (v := (nI 4)) (lv' := [(3, .int (nI 4)), (4, .ref (a 8)), (2, .int (nI 4)), (1, .ref (a 4)), (0, .ref (a 0))]) hx hb dX2_lowestEmptyMachine_31 hl (k := 1) rfl (inc1 3) (by decide) rfl (fun ls hl => ?_)
          refine lv_goto (tgt := 10) hx hb dX2_lowestEmptyMachine_34 (by decide) ?_
          refine lv_iload_n hx hb dX2_lowestEmptyMachine_10 rfl (lv_at hl 0 rfl) ?_
          refine lv_iload_n hx hb dX2_lowestEmptyMachine_11 rfl (lv_at hl 2 rfl) ?_
          refine lv_icmp_ge (tgt := 37) hx hb dX2_lowestEmptyMachine_12 (by decide) (fun c_13 => ?_) (fun c_13 => absurd (by decide +kernel) c_13)
          refine lv_null hx hb dX2_lowestEmptyMachine_37 ?_
          exact end_Q C0 (r := none) rfl hP hD hS () (by simp only [f_X2_lowestEmptyMachine, if_pos c_3, if_pos c_6, if_pos c_9, if_pos c_12]) rfl dX2_lowestEmptyMachine_38
        · refine lv_aload hx hb dX2_lowestEmptyMachine_28 (lv_at hl 0 rfl) ?_
          exact end_Q C0 (r := (some (a 8))) rfl hP hD hS () (by simp only [f_X2_lowestEmptyMachine, if_pos c_3, if_pos c_6, if_pos c_9, if_neg c_12]) rfl dX2_lowestEmptyMachine_30
      · refine lv_aload hx hb dX2_lowestEmptyMachine_28 (lv_at hl 0 rfl) ?_
        exact end_Q C0 (r := (some (a 7))) rfl hP hD hS () (by simp only [f_X2_lowestEmptyMachine, if_pos c_3, if_pos c_6, if_neg c_9]) rfl dX2_lowestEmptyMachine_30
    · refine lv_aload hx hb dX2_lowestEmptyMachine_28 (lv_at hl 0 rfl) ?_
      exact end_Q C0 (r := (some (a 6))) rfl hP hD hS () (by simp only [f_X2_lowestEmptyMachine, if_pos c_3, if_neg c_6]) rfl dX2_lowestEmptyMachine_30
  · refine lv_aload hx hb dX2_lowestEmptyMachine_28 (lv_at hl 0 rfl) ?_
    exact end_Q C0 (r := (some (a 5))) rfl hP hD hS () (by simp only [f_X2_lowestEmptyMachine, if_neg c_3]) rfl dX2_lowestEmptyMachine_30

theorem f_X2_lowestEmptyMachine_any {a a' : Nat → Nat} {v : Nat → Int32} (h : f_X2_lowestEmptyMachine a v = none) : f_X2_lowestEmptyMachine a' v = none := by
  unfold f_X2_lowestEmptyMachine at h ⊢
  by_cases c0 : (f_X3_isEmpty (v 13)) = 0 <;> by_cases c1 : (f_X3_isEmpty (v 14)) = 0 <;> by_cases c2 : (f_X3_isEmpty (v 15)) = 0 <;> by_cases c3 : (f_X3_isEmpty (v 16)) = 0 <;> simp_all

def s_X2_loadsInMachines_13_4  (x : Int32) : Int32 :=
  x
def s_X2_loadsInMachines_13_3 (v : (Nat → Int32)) (x : Int32) : Int32 :=
  if (f_X3_isEmpty (v 16)) = 0 then
    s_X2_loadsInMachines_13_4 (x + Int32.ofInt 1)
  else
    s_X2_loadsInMachines_13_4 x
def s_X2_loadsInMachines_13_2 (v : (Nat → Int32)) (x : Int32) : Int32 :=
  if (f_X3_isEmpty (v 15)) = 0 then
    s_X2_loadsInMachines_13_3 v (x + Int32.ofInt 1)
  else
    s_X2_loadsInMachines_13_3 v x
def s_X2_loadsInMachines_13_1 (v : (Nat → Int32)) (x : Int32) : Int32 :=
  if (f_X3_isEmpty (v 14)) = 0 then
    s_X2_loadsInMachines_13_2 v (x + Int32.ofInt 1)
  else
    s_X2_loadsInMachines_13_2 v x
def s_X2_loadsInMachines_13_0 (v : (Nat → Int32)) (x : Int32) : Int32 :=
  if (f_X3_isEmpty (v 13)) = 0 then
    s_X2_loadsInMachines_13_1 v (x + Int32.ofInt 1)
  else
    s_X2_loadsInMachines_13_1 v x
def f_X2_loadsInMachines (v : (Nat → Int32)) : Int32 :=
  s_X2_loadsInMachines_13_0 v (nI 0)
set_option maxRecDepth 20000 in
theorem k_X2_loadsInMachines_f21 : Cond.fieldLink RX2 21 "SteamRations$Laundry" "machines" "[LSteamRations$Machine;" ∈ wsX2_loadsInMachines := by decide +kernel
set_option maxRecDepth 20000 in
theorem in_X2_loadsInMachines_RX2 : ∀ w ∈ u_ws RX2 TX2 14, w ∈ wsX2_loadsInMachines := by decide +kernel
theorem cd_X2_loadsInMachines : yX2_loadsInMachines.cls = RX2 ∧ yX2_loadsInMachines.cls ≠ "java/lang/invoke/MethodHandle" ∧ yX2_loadsInMachines.cls ≠ "java/lang/invoke/VarHandle" ∧ (parseMethodDescriptor yX2_loadsInMachines.desc).map (fun d => d.parameters.length) = some 0 := by decide +kernel
set_option maxHeartbeats 4000000 in
set_option maxRecDepth 100000 in
theorem c_X2_loadsInMachines (l : Launch) (G : GG) (a : Nat → Nat) (v : (Nat → Int32)) (q : (Nat → Int32)) (sz : Nat)   : Met l yX2_loadsInMachines wsX2_loadsInMachines ({ frames := 1, cells := 0, slots := 0, locals := 20 }) (Pre G [.ref (a 0)] (LC G a v q) sz) (PI G (va_A (LC G a v q) sz) (fun r (_ : Unit) => f_X2_loadsInMachines v = r) (fun _ : Unit => LC G a v q)) 0 0 (va_A (LC G a v q) sz) := by
  refine Met.walk (cc := cX2_loadsInMachines) (maxL := 6) (ret := (some .int)) (Qc := fun A => PI G A (fun r (_ : Unit) => f_X2_loadsInMachines v = r) (fun _ : Unit => LC G a v q)) (by decide) rfl (Nat.le_of_ble_eq_true rfl) ?_
  intro p e s m below meth c A H C0 _ hK hsz hP hD hA hS ls hl
  have hx := C0.1
  have hb := C0.2.1
  have hown : s.vm.findClass RX2 = some m.cls := C0.2.2.2.2.1
  have hml := C0.2.2.2.1
  have hts : ∀ w ∈ wsX2_loadsInMachines, w.before [.ref (a 0)].toArray s = true := C0.2.2.2.2.2.1
  have hl : lv_has ls 6 [(0, .ref (a 0))] := hl
  have h_X2_loadsInMachines_13_4 : ∀ (x : Int32), f_X2_loadsInMachines v = s_X2_loadsInMachines_13_4 x → ∀ (H : Heap) (locs : List Loc) (ls : Array Slot), va_P G.1 vwCl (LC G a v q) H → va_D A (LC G a v q) → va_S A s.heap H locs → lv_has ls 6 [(4, .int (nI 4)), (3, .int (nI 4)), (2, .ref (a 4)), (1, .int x)] → W p l e ({ frames := 1, cells := 0, slots := 0, locals := 20 }) s m ([.ref (a 0)] : List Value).toArray below meth c H locs 0 0 (MQ below (PI G A (fun r (_ : Unit) => f_X2_loadsInMachines v = r) (fun _ : Unit => LC G a v q)) ([.ref (a 0)] : List Value).toArray s 0 0 A) (F0 m 13 ls []) := by
    intro x  hE H locs ls hP hD hS hl
    refine lv_iload hx hb dX2_loadsInMachines_13 (lv_at hl 0 rfl) ?_
    refine lv_iload_n hx hb dX2_loadsInMachines_15 rfl (lv_at hl 1 rfl) ?_
    refine lv_icmp_ge (tgt := 42) hx hb dX2_loadsInMachines_16 (by decide) (fun c_13 => ?_) (fun c_13 => absurd (by decide +kernel) c_13)
    refine lv_iload_n hx hb dX2_loadsInMachines_42 rfl (lv_at hl 3 rfl) ?_
    exact end_I C0 hP hD hS () (hE.trans (by simp only [s_X2_loadsInMachines_13_4])) rfl dX2_loadsInMachines_43
  have h_X2_loadsInMachines_13_3 : ∀ (x : Int32), f_X2_loadsInMachines v = s_X2_loadsInMachines_13_3 v x → ∀ (H : Heap) (locs : List Loc) (ls : Array Slot), va_P G.1 vwCl (LC G a v q) H → va_D A (LC G a v q) → va_S A s.heap H locs → lv_has ls 6 [(4, .int (nI 3)), (3, .int (nI 4)), (2, .ref (a 4)), (1, .int x)] → W p l e ({ frames := 1, cells := 0, slots := 0, locals := 20 }) s m ([.ref (a 0)] : List Value).toArray below meth c H locs 0 0 (MQ below (PI G A (fun r (_ : Unit) => f_X2_loadsInMachines v = r) (fun _ : Unit => LC G a v q)) ([.ref (a 0)] : List Value).toArray s 0 0 A) (F0 m 13 ls []) := by
    intro x  hE H locs ls hP hD hS hl
    refine lv_iload hx hb dX2_loadsInMachines_13 (lv_at hl 0 rfl) ?_
    refine lv_iload_n hx hb dX2_loadsInMachines_15 rfl (lv_at hl 1 rfl) ?_
    refine lv_icmp_ge (tgt := 42) hx hb dX2_loadsInMachines_16 (by decide) (fun c_10 => absurd c_10 (by decide +kernel)) (fun c_10 => ?_)
    refine lv_aload_n hx hb dX2_loadsInMachines_19 rfl (lv_at hl 2 rfl) ?_
    refine lv_iload hx hb dX2_loadsInMachines_20 (lv_at hl 0 rfl) ?_
    refine n_aald (j := 3) (v := .ref (a 8)) (Cn := "SteamRations$Machine") hx hb hK hP 4 3 rfl rfl (by decide) (by decide) rfl dX2_loadsInMachines_22 ?_
    refine lv_astore (lv' := [(5, .ref (a 8)), (4, .int (nI 3)), (3, .int (nI 4)), (2, .ref (a 4)), (1, .int x)]) hx hb dX2_loadsInMachines_23 hl (by decide) rfl (fun ls hl => ?_)
    refine lv_aload hx hb dX2_loadsInMachines_25 (lv_at hl 0 rfl) ?_
    refine gcall_I (run_V (As := []) (rest := []) C0 hK hP hD (c_X3_isEmpty l G (a 8) (v 16) (v 20) (v 24) H.size ) (cwV 0 hts gX2_loadsInMachines_X3_isEmpty rfl rfl rfl cd_X3_isEmpty ⟨Nat.le_of_ble_eq_true rfl, Nat.le_of_ble_eq_true rfl⟩) [8] rfl rfl 8 (ci := 3) rfl rfl rfl rfl hl.1 rfl (Nat.le_of_ble_eq_true rfl) dX2_loadsInMachines_27 ⟨Nat.le_of_ble_eq_true rfl, Nat.le_of_ble_eq_true rfl⟩) hP hD hS hA [8] rfl rfl (fun _ => rfl) (fun r_11 _ H locs hw_11 hP hD hS => ?_)
    have hz_r_11 := hw_11.2
    have hw_11 := hw_11.1
    subst hw_11
    have hP : va_P G.1 vwCl (LC G a v q) H := hP
    have hD : va_D A (LC G a v q) := hD
    refine lv_if_ne (tgt := 36) hx hb dX2_loadsInMachines_30 (by decide) (fun c_12 => ?_) (fun c_12 => ?_)
    · refine lv_iinc (v := (nI 4)) (lv' := [(4, .int (nI 4)), (5, .ref (a 8)), (3, .int (nI 4)), (2, .ref (a 4)), (1, .int x)]) hx hb dX2_loadsInMachines_36 hl (k := 1) rfl (inc1 3) (by decide) rfl (fun ls hl => ?_)
      refine lv_goto (tgt := 13) hx hb dX2_loadsInMachines_39 (by decide) ?_
      exact h_X2_loadsInMachines_13_4 x  (hE.trans (by simp only [s_X2_loadsInMachines_13_3, if_neg c_12])) _ _ _ hP hD hS (lv_sub hl [0, 2, 3, 4] rfl)
    · refine lv_iinc (v := (x + Int32.ofInt 1)) (lv' := [(1, .int (x + Int32.ofInt 1)), (5, .ref (a 8)), (4, .int (nI 3)), (3, .int (nI 4)), (2, .ref (a 4))]) hx hb dX2_loadsInMachines_33 hl (k := 4) rfl rfl (by decide) rfl (fun ls hl => ?_)
      refine lv_iinc (v := (nI 4)) (lv' := [(4, .int (nI 4)), (1, .int (x + Int32.ofInt 1)), (5, .ref (a 8)), (3, .int (nI 4)), (2, .ref (a 4))]) hx hb dX2_loadsInMachines_36 hl (k := 2) rfl (inc1 3) (by decide) rfl (fun ls hl => ?_)
      refine lv_goto (tgt := 13) hx hb dX2_loadsInMachines_39 (by decide) ?_
      exact h_X2_loadsInMachines_13_4 (x + Int32.ofInt 1)  (hE.trans (by simp only [s_X2_loadsInMachines_13_3, if_pos c_12])) _ _ _ hP hD hS (lv_sub hl [0, 3, 4, 1] rfl)
  have h_X2_loadsInMachines_13_2 : ∀ (x : Int32), f_X2_loadsInMachines v = s_X2_loadsInMachines_13_2 v x → ∀ (H : Heap) (locs : List Loc) (ls : Array Slot), va_P G.1 vwCl (LC G a v q) H → va_D A (LC G a v q) → va_S A s.heap H locs → lv_has ls 6 [(4, .int (nI 2)), (3, .int (nI 4)), (2, .ref (a 4)), (1, .int x)] → W p l e ({ frames := 1, cells := 0, slots := 0, locals := 20 }) s m ([.ref (a 0)] : List Value).toArray below meth c H locs 0 0 (MQ below (PI G A (fun r (_ : Unit) => f_X2_loadsInMachines v = r) (fun _ : Unit => LC G a v q)) ([.ref (a 0)] : List Value).toArray s 0 0 A) (F0 m 13 ls []) := by
    intro x  hE H locs ls hP hD hS hl
    refine lv_iload hx hb dX2_loadsInMachines_13 (lv_at hl 0 rfl) ?_
    refine lv_iload_n hx hb dX2_loadsInMachines_15 rfl (lv_at hl 1 rfl) ?_
    refine lv_icmp_ge (tgt := 42) hx hb dX2_loadsInMachines_16 (by decide) (fun c_7 => absurd c_7 (by decide +kernel)) (fun c_7 => ?_)
    refine lv_aload_n hx hb dX2_loadsInMachines_19 rfl (lv_at hl 2 rfl) ?_
    refine lv_iload hx hb dX2_loadsInMachines_20 (lv_at hl 0 rfl) ?_
    refine n_aald (j := 2) (v := .ref (a 7)) (Cn := "SteamRations$Machine") hx hb hK hP 4 3 rfl rfl (by decide) (by decide) rfl dX2_loadsInMachines_22 ?_
    refine lv_astore (lv' := [(5, .ref (a 7)), (4, .int (nI 2)), (3, .int (nI 4)), (2, .ref (a 4)), (1, .int x)]) hx hb dX2_loadsInMachines_23 hl (by decide) rfl (fun ls hl => ?_)
    refine lv_aload hx hb dX2_loadsInMachines_25 (lv_at hl 0 rfl) ?_
    refine gcall_I (run_V (As := []) (rest := []) C0 hK hP hD (c_X3_isEmpty l G (a 7) (v 15) (v 19) (v 23) H.size ) (cwV 0 hts gX2_loadsInMachines_X3_isEmpty rfl rfl rfl cd_X3_isEmpty ⟨Nat.le_of_ble_eq_true rfl, Nat.le_of_ble_eq_true rfl⟩) [7] rfl rfl 7 (ci := 3) rfl rfl rfl rfl hl.1 rfl (Nat.le_of_ble_eq_true rfl) dX2_loadsInMachines_27 ⟨Nat.le_of_ble_eq_true rfl, Nat.le_of_ble_eq_true rfl⟩) hP hD hS hA [7] rfl rfl (fun _ => rfl) (fun r_8 _ H locs hw_8 hP hD hS => ?_)
    have hz_r_8 := hw_8.2
    have hw_8 := hw_8.1
    subst hw_8
    have hP : va_P G.1 vwCl (LC G a v q) H := hP
    have hD : va_D A (LC G a v q) := hD
    refine lv_if_ne (tgt := 36) hx hb dX2_loadsInMachines_30 (by decide) (fun c_9 => ?_) (fun c_9 => ?_)
    · refine lv_iinc (v := (nI 3)) (lv' := [(4, .int (nI 3)), (5, .ref (a 7)), (3, .int (nI 4)), (2, .ref (a 4)), (1, .int x)]) hx hb dX2_loadsInMachines_36 hl (k := 1) rfl (inc1 2) (by decide) rfl (fun ls hl => ?_)
      refine lv_goto (tgt := 13) hx hb dX2_loadsInMachines_39 (by decide) ?_
      exact h_X2_loadsInMachines_13_3 x  (hE.trans (by simp only [s_X2_loadsInMachines_13_2, if_neg c_9])) _ _ _ hP hD hS (lv_sub hl [0, 2, 3, 4] rfl)
    · refine lv_iinc (v := (x + Int32.ofInt 1)) (lv' := [(1, .int (x + Int32.ofInt 1)), (5, .ref (a 7)), (4, .int (nI 2)), (3, .int (nI 4)), (2, .ref (a 4))]) hx hb dX2_loadsInMachines_33 hl (k := 4) rfl rfl (by decide) rfl (fun ls hl => ?_)
      refine lv_iinc (v := (nI 3)) (lv' := [(4, .int (nI 3)), (1, .int (x + Int32.ofInt 1)), (5, .ref (a 7)), (3, .int (nI 4)), (2, .ref (a 4))]) hx hb dX2_loadsInMachines_36 hl (k := 2) rfl (inc1 2) (by decide) rfl (fun ls hl => ?_)
      refine lv_goto (tgt := 13) hx hb dX2_loadsInMachines_39 (by decide) ?_
      exact h_X2_loadsInMachines_13_3 (x + Int32.ofInt 1)  (hE.trans (by simp only [s_X2_loadsInMachines_13_2, if_pos c_9])) _ _ _ hP hD hS (lv_sub hl [0, 3, 4, 1] rfl)
  have h_X2_loadsInMachines_13_1 : ∀ (x : Int32), f_X2_loadsInMachines v = s_X2_loadsInMachines_13_1 v x → ∀ (H : Heap) (locs : List Loc) (ls : Array Slot), va_P G.1 vwCl (LC G a v q) H → va_D A (LC G a v q) → va_S A s.heap H locs → lv_has ls 6 [(4, .int (nI 1)), (3, .int (nI 4)), (2, .ref (a 4)), (1, .int x)] → W p l e ({ frames := 1, cells := 0, slots := 0, locals := 20 }) s m ([.ref (a 0)] : List Value).toArray below meth c H locs 0 0 (MQ below (PI G A (fun r (_ : Unit) => f_X2_loadsInMachines v = r) (fun _ : Unit => LC G a v q)) ([.ref (a 0)] : List Value).toArray s 0 0 A) (F0 m 13 ls []) := by
    intro x  hE H locs ls hP hD hS hl
    refine lv_iload hx hb dX2_loadsInMachines_13 (lv_at hl 0 rfl) ?_
    refine lv_iload_n hx hb dX2_loadsInMachines_15 rfl (lv_at hl 1 rfl) ?_
    refine lv_icmp_ge (tgt := 42) hx hb dX2_loadsInMachines_16 (by decide) (fun c_4 => absurd c_4 (by decide +kernel)) (fun c_4 => ?_)
    refine lv_aload_n hx hb dX2_loadsInMachines_19 rfl (lv_at hl 2 rfl) ?_
    refine lv_iload hx hb dX2_loadsInMachines_20 (lv_at hl 0 rfl) ?_
    refine n_aald (j := 1) (v := .ref (a 6)) (Cn := "SteamRations$Machine") hx hb hK hP 4 3 rfl rfl (by decide) (by decide) rfl dX2_loadsInMachines_22 ?_
    refine lv_astore (lv' := [(5, .ref (a 6)), (4, .int (nI 1)), (3, .int (nI 4)), (2, .ref (a 4)), (1, .int x)]) hx hb dX2_loadsInMachines_23 hl (by decide) rfl (fun ls hl => ?_)
    refine lv_aload hx hb dX2_loadsInMachines_25 (lv_at hl 0 rfl) ?_
    refine gcall_I (run_V (As := []) (rest := []) C0 hK hP hD (c_X3_isEmpty l G (a 6) (v 14) (v 18) (v 22) H.size ) (cwV 0 hts gX2_loadsInMachines_X3_isEmpty rfl rfl rfl cd_X3_isEmpty ⟨Nat.le_of_ble_eq_true rfl, Nat.le_of_ble_eq_true rfl⟩) [6] rfl rfl 6 (ci := 3) rfl rfl rfl rfl hl.1 rfl (Nat.le_of_ble_eq_true rfl) dX2_loadsInMachines_27 ⟨Nat.le_of_ble_eq_true rfl, Nat.le_of_ble_eq_true rfl⟩) hP hD hS hA [6] rfl rfl (fun _ => rfl) (fun r_5 _ H locs hw_5 hP hD hS => ?_)
    have hz_r_5 := hw_5.2
    have hw_5 := hw_5.1
    subst hw_5
    have hP : va_P G.1 vwCl (LC G a v q) H := hP
    have hD : va_D A (LC G a v q) := hD
    refine lv_if_ne (tgt := 36) hx hb dX2_loadsInMachines_30 (by decide) (fun c_6 => ?_) (fun c_6 => ?_)
    · refine lv_iinc (v := (nI 2)) (lv' := [(4, .int (nI 2)), (5, .ref (a 6)), (3, .int (nI 4)), (2, .ref (a 4)), (1, .int x)]) hx hb dX2_loadsInMachines_36 hl (k := 1) rfl (inc1 1) (by decide) rfl (fun ls hl => ?_)
      refine lv_goto (tgt := 13) hx hb dX2_loadsInMachines_39 (by decide) ?_
      exact h_X2_loadsInMachines_13_2 x  (hE.trans (by simp only [s_X2_loadsInMachines_13_1, if_neg c_6])) _ _ _ hP hD hS (lv_sub hl [0, 2, 3, 4] rfl)
    · refine lv_iinc (v := (x + Int32.ofInt 1)) (lv' := [(1, .int (x + Int32.ofInt 1)), (5, .ref (a 6)), (4, .int (nI 1)), (3, .int (nI 4)), (2, .ref (a 4))]) hx hb dX2_loadsInMachines_33 hl (k := 4) rfl rfl (by decide) rfl (fun ls hl => ?_)
      refine lv_iinc (v := (nI 2)) (lv' := [(4, .int (nI 2)), (1, .int (x + Int32.ofInt 1)), (5, .ref (a 6)), (3, .int (nI 4)), (2, .ref (a 4))]) hx hb dX2_loadsInMachines_36 hl (k := 2) rfl (inc1 1) (by decide) rfl (fun ls hl => ?_)
      refine lv_goto (tgt := 13) hx hb dX2_loadsInMachines_39 (by decide) ?_
      exact h_X2_loadsInMachines_13_2 (x + Int32.ofInt 1)  (hE.trans (by simp only [s_X2_loadsInMachines_13_1, if_pos c_6])) _ _ _ hP hD hS (lv_sub hl [0, 3, 4, 1] rfl)
  have h_X2_loadsInMachines_13_0 : ∀ (x : Int32), f_X2_loadsInMachines v = s_X2_loadsInMachines_13_0 v x → ∀ (H : Heap) (locs : List Loc) (ls : Array Slot), va_P G.1 vwCl (LC G a v q) H → va_D A (LC G a v q) → va_S A s.heap H locs → lv_has ls 6 [(4, .int (nI 0)), (3, .int (nI 4)), (2, .ref (a 4)), (1, .int x)] → W p l e ({ frames := 1, cells := 0, slots := 0, locals := 20 }) s m ([.ref (a 0)] : List Value).toArray below meth c H locs 0 0 (MQ below (PI G A (fun r (_ : Unit) => f_X2_loadsInMachines v = r) (fun _ : Unit => LC G a v q)) ([.ref (a 0)] : List Value).toArray s 0 0 A) (F0 m 13 ls []) := by
    intro x  hE H locs ls hP hD hS hl
    refine lv_iload hx hb dX2_loadsInMachines_13 (lv_at hl 0 rfl) ?_
    refine lv_iload_n hx hb dX2_loadsInMachines_15 rfl (lv_at hl 1 rfl) ?_
    refine lv_icmp_ge (tgt := 42) hx hb dX2_loadsInMachines_16 (by decide) (fun c_1 => absurd c_1 (by decide +kernel)) (fun c_1 => ?_)
    refine lv_aload_n hx hb dX2_loadsInMachines_19 rfl (lv_at hl 2 rfl) ?_
    refine lv_iload hx hb dX2_loadsInMachines_20 (lv_at hl 0 rfl) ?_
    refine n_aald (j := 0) (v := .ref (a 5)) (Cn := "SteamRations$Machine") hx hb hK hP 4 3 rfl rfl (by decide) (by decide) rfl dX2_loadsInMachines_22 ?_
    refine lv_astore (lv' := [(5, .ref (a 5)), (4, .int (nI 0)), (3, .int (nI 4)), (2, .ref (a 4)), (1, .int x)]) hx hb dX2_loadsInMachines_23 hl (by decide) rfl (fun ls hl => ?_)
    refine lv_aload hx hb dX2_loadsInMachines_25 (lv_at hl 0 rfl) ?_
    refine gcall_I (run_V (As := []) (rest := []) C0 hK hP hD (c_X3_isEmpty l G (a 5) (v 13) (v 17) (v 21) H.size ) (cwV 0 hts gX2_loadsInMachines_X3_isEmpty rfl rfl rfl cd_X3_isEmpty ⟨Nat.le_of_ble_eq_true rfl, Nat.le_of_ble_eq_true rfl⟩) [5] rfl rfl 5 (ci := 3) rfl rfl rfl rfl hl.1 rfl (Nat.le_of_ble_eq_true rfl) dX2_loadsInMachines_27 ⟨Nat.le_of_ble_eq_true rfl, Nat.le_of_ble_eq_true rfl⟩) hP hD hS hA [5] rfl rfl (fun _ => rfl) (fun r_2 _ H locs hw_2 hP hD hS => ?_)
    have hz_r_2 := hw_2.2
    have hw_2 := hw_2.1
    subst hw_2
    have hP : va_P G.1 vwCl (LC G a v q) H := hP
    have hD : va_D A (LC G a v q) := hD
    refine lv_if_ne (tgt := 36) hx hb dX2_loadsInMachines_30 (by decide) (fun c_3 => ?_) (fun c_3 => ?_)
    · refine lv_iinc (v := (nI 1)) (lv' := [(4, .int (nI 1)), (5, .ref (a 5)), (3, .int (nI 4)), (2, .ref (a 4)), (1, .int x)]) hx hb dX2_loadsInMachines_36 hl (k := 1) rfl (inc1 0) (by decide) rfl (fun ls hl => ?_)
      refine lv_goto (tgt := 13) hx hb dX2_loadsInMachines_39 (by decide) ?_
      exact h_X2_loadsInMachines_13_1 x  (hE.trans (by simp only [s_X2_loadsInMachines_13_0, if_neg c_3])) _ _ _ hP hD hS (lv_sub hl [0, 2, 3, 4] rfl)
    · refine lv_iinc (v := (x + Int32.ofInt 1)) (lv' := [(1, .int (x + Int32.ofInt 1)), (5, .ref (a 5)), (4, .int (nI 0)), (3, .int (nI 4)), (2, .ref (a 4))]) hx hb dX2_loadsInMachines_33 hl (k := 4) rfl rfl (by decide) rfl (fun ls hl => ?_)
      refine lv_iinc (v := (nI 1)) (lv' := [(4, .int (nI 1)), (1, .int (x + Int32.ofInt 1)), (5, .ref (a 5)), (3, .int (nI 4)), (2, .ref (a 4))]) hx hb dX2_loadsInMachines_36 hl (k := 2) rfl (inc1 0) (by decide) rfl (fun ls hl => ?_)
      refine lv_goto (tgt := 13) hx hb dX2_loadsInMachines_39 (by decide) ?_
      exact h_X2_loadsInMachines_13_1 (x + Int32.ofInt 1)  (hE.trans (by simp only [s_X2_loadsInMachines_13_0, if_pos c_3])) _ _ _ hP hD hS (lv_sub hl [0, 3, 4, 1] rfl)
  refine lv_iconst (v := (nI 0)) hx hb dX2_loadsInMachines_0 (by decide) ?_
  refine lv_istore_n (lv' := [(1, .int (nI 0)), (0, .ref (a 0))]) hx hb dX2_loadsInMachines_1 rfl hl (by decide) rfl (fun ls hl => ?_)
  refine lv_aload_n hx hb dX2_loadsInMachines_2 rfl (lv_at hl 1 rfl) ?_
  refine va_get (D := G.1) (ci := 2) (v := .ref (a 4)) (C := RX2) (T := TX2) (N := 14) hx hb hts in_X2_loadsInMachines_RX2 hown hK.1 hP 0 rfl rfl 1 (by decide) (hts _ k_X2_loadsInMachines_f21) (fun _ h9 => h9) rfl dX2_loadsInMachines_3 ?_
  refine lv_astore_n (lv' := [(2, .ref (a 4)), (1, .int (nI 0)), (0, .ref (a 0))]) hx hb dX2_loadsInMachines_6 rfl hl (by decide) rfl (fun ls hl => ?_)
  refine lv_aload_n hx hb dX2_loadsInMachines_7 rfl (lv_at hl 0 rfl) ?_
  refine n_alen (n := 4) hx hb hK hP 4 3 rfl rfl dX2_loadsInMachines_8 ?_
  refine lv_istore_n (lv' := [(3, .int (nI 4)), (2, .ref (a 4)), (1, .int (nI 0)), (0, .ref (a 0))]) hx hb dX2_loadsInMachines_9 rfl hl (by decide) rfl (fun ls hl => ?_)
  refine lv_iconst (v := (nI 0)) hx hb dX2_loadsInMachines_10 (by decide) ?_
  refine lv_istore (lv' := [(4, .int (nI 0)), (3, .int (nI 4)), (2, .ref (a 4)), (1, .int (nI 0)), (0, .ref (a 0))]) hx hb dX2_loadsInMachines_11 hl (by decide) rfl (fun ls hl => ?_)
  exact h_X2_loadsInMachines_13_0 (nI 0)  (by simp only [f_X2_loadsInMachines]) _ _ _ hP hD hS (lv_sub hl [0, 1, 2, 3] rfl)

def f_X2_isIdle (v : (Nat → Int32)) : Int32 :=
  if (v 25) = 0 then
    if (f_X2_loadsInMachines v) = 0 then
      (nI 1)
    else
      (nI 0)
  else
    (nI 0)
set_option maxRecDepth 20000 in
theorem k_X2_isIdle_f28 : Cond.fieldLink RX2 28 "SteamRations$Laundry" "waiting" "LSteamRations$WaitingLine;" ∈ wsX2_isIdle := by decide +kernel
set_option maxRecDepth 20000 in
theorem k_X2_isIdle_f80 : Cond.fieldLink RX2 80 "SteamRations$WaitingLine" "length" "I" ∈ wsX2_isIdle := by decide +kernel
set_option maxRecDepth 20000 in
theorem in_X2_isIdle_RX2 : ∀ w ∈ u_ws RX2 TX2 14, w ∈ wsX2_isIdle := by decide +kernel
set_option maxRecDepth 20000 in
theorem in_X2_isIdle_RX5 : ∀ w ∈ u_ws RX5 TX5 2, w ∈ wsX2_isIdle := by decide +kernel
theorem cd_X2_isIdle : yX2_isIdle.cls = RX2 ∧ yX2_isIdle.cls ≠ "java/lang/invoke/MethodHandle" ∧ yX2_isIdle.cls ≠ "java/lang/invoke/VarHandle" ∧ (parseMethodDescriptor yX2_isIdle.desc).map (fun d => d.parameters.length) = some 0 := by decide +kernel
set_option maxHeartbeats 4000000 in
set_option maxRecDepth 100000 in
theorem c_X2_isIdle (l : Launch) (G : GG) (a : Nat → Nat) (v : (Nat → Int32)) (q : (Nat → Int32)) (sz : Nat)   : Met l yX2_isIdle wsX2_isIdle ({ frames := 2, cells := 0, slots := 0, locals := 45 }) (Pre G [.ref (a 0)] (LC G a v q) sz) (PI G (va_A (LC G a v q) sz) (fun r (u : Unit) => f_X2_isIdle v = r ∧ (r = nI 0 ∨ r = nI 1)) (fun _ : Unit => LC G a v q)) 0 0 (va_A (LC G a v q) sz) := by
  refine Met.walk (cc := cX2_isIdle) (maxL := 1) (ret := (some .boolean)) (Qc := fun A => PI G A (fun r (u : Unit) => f_X2_isIdle v = r ∧ (r = nI 0 ∨ r = nI 1)) (fun _ : Unit => LC G a v q)) (by decide) rfl (Nat.le_of_ble_eq_true rfl) ?_
  intro p e s m below meth c A H C0 _ hK hsz hP hD hA hS ls hl
  have hx := C0.1
  have hb := C0.2.1
  have hown : s.vm.findClass RX2 = some m.cls := C0.2.2.2.2.1
  have hml := C0.2.2.2.1
  have hts : ∀ w ∈ wsX2_isIdle, w.before [.ref (a 0)].toArray s = true := C0.2.2.2.2.2.1
  have hl : lv_has ls 1 [(0, .ref (a 0))] := hl
  refine lv_aload_n hx hb dX2_isIdle_0 rfl (lv_at hl 0 rfl) ?_
  refine va_get (D := G.1) (ci := 2) (v := .ref (a 9)) (C := RX2) (T := TX2) (N := 14) hx hb hts in_X2_isIdle_RX2 hown hK.1 hP 0 rfl rfl 2 (by decide) (hts _ k_X2_isIdle_f28) (fun _ h9 => h9) rfl dX2_isIdle_1 ?_
  refine va_get (D := G.1) (ci := 5) (v := .int (v 25)) (C := RX5) (T := TX5) (N := 2) hx hb hts in_X2_isIdle_RX5 hown hK.1 hP 9 rfl rfl 1 (by decide) (hts _ k_X2_isIdle_f80) (fun _ h9 => h9) rfl dX2_isIdle_4 ?_
  refine lv_if_ne (tgt := 21) hx hb dX2_isIdle_7 (by decide) (fun c_1 => ?_) (fun c_1 => ?_)
  · refine lv_iconst (v := (nI 0)) hx hb dX2_isIdle_21 (by decide) ?_
    exact end_Z C0 (by decide) hP hD hS () ⟨(by simp only [f_X2_isIdle, if_neg c_1]), by decide⟩ rfl dX2_isIdle_22
  · refine lv_aload_n hx hb dX2_isIdle_10 rfl (lv_at hl 0 rfl) ?_
    refine gcall_I (run_V (As := []) (rest := []) C0 hK hP hD (c_X2_loadsInMachines l G a v q H.size ) (cwV 0 hts gX2_isIdle_X2_loadsInMachines rfl rfl rfl cd_X2_loadsInMachines ⟨Nat.le_of_ble_eq_true rfl, Nat.le_of_ble_eq_true rfl⟩) [0, 1, 2, 3, 4, 5, 6, 7, 8, 9, 10] rfl rfl 0 (ci := 2) rfl rfl rfl rfl hl.1 rfl (Nat.le_of_ble_eq_true rfl) dX2_isIdle_11 ⟨Nat.le_of_ble_eq_true rfl, Nat.le_of_ble_eq_true rfl⟩) hP hD hS hA [0, 1, 2, 3, 4, 5, 6, 7, 8, 9, 10] rfl rfl (fun _ => rfl) (fun r_2 _ H locs hw_2 hP hD hS => ?_)
    subst hw_2
    have hP : va_P G.1 vwCl (LC G a v q) H := hP
    have hD : va_D A (LC G a v q) := hD
    refine lv_if_ne (tgt := 21) hx hb dX2_isIdle_14 (by decide) (fun c_3 => ?_) (fun c_3 => ?_)
    · refine lv_iconst (v := (nI 0)) hx hb dX2_isIdle_21 (by decide) ?_
      exact end_Z C0 (by decide) hP hD hS () ⟨(by simp only [f_X2_isIdle, if_pos c_1, if_neg c_3]), by decide⟩ rfl dX2_isIdle_22
    · refine lv_iconst (v := (nI 1)) hx hb dX2_isIdle_17 (by decide) ?_
      refine lv_goto (tgt := 22) hx hb dX2_isIdle_18 (by decide) ?_
      exact end_Z C0 (by decide) hP hD hS () ⟨(by simp only [f_X2_isIdle, if_pos c_1, if_pos c_3]), by decide⟩ rfl dX2_isIdle_22

def f_X2_allPressure (v : (Nat → Int32)) : Int32 :=
  (((nI 0) + (v 4)) + (v 5))
set_option maxRecDepth 20000 in
theorem k_X2_allPressure_f12 : Cond.fieldLink RX2 12 "SteamRations$Laundry" "boilers" "[LSteamRations$Boiler;" ∈ wsX2_allPressure := by decide +kernel
set_option maxRecDepth 20000 in
theorem k_X2_allPressure_f87 : Cond.fieldLink RX2 87 "SteamRations$Boiler" "pressure" "I" ∈ wsX2_allPressure := by decide +kernel
set_option maxRecDepth 20000 in
theorem in_X2_allPressure_RX0 : ∀ w ∈ u_ws RX0 TX0 5, w ∈ wsX2_allPressure := by decide +kernel
set_option maxRecDepth 20000 in
theorem in_X2_allPressure_RX2 : ∀ w ∈ u_ws RX2 TX2 14, w ∈ wsX2_allPressure := by decide +kernel
theorem cd_X2_allPressure : yX2_allPressure.cls = RX2 ∧ yX2_allPressure.cls ≠ "java/lang/invoke/MethodHandle" ∧ yX2_allPressure.cls ≠ "java/lang/invoke/VarHandle" ∧ (parseMethodDescriptor yX2_allPressure.desc).map (fun d => d.parameters.length) = some 0 := by decide +kernel
set_option maxHeartbeats 4000000 in
set_option maxRecDepth 100000 in
theorem c_X2_allPressure (l : Launch) (G : GG) (a : Nat → Nat) (v : (Nat → Int32)) (q : (Nat → Int32)) (sz : Nat)   : Met l yX2_allPressure wsX2_allPressure ({ frames := 0, cells := 0, slots := 0, locals := 0 }) (Pre G [.ref (a 0)] (LC G a v q) sz) (PI G (va_A (LC G a v q) sz) (fun r (_ : Unit) => f_X2_allPressure v = r) (fun _ : Unit => LC G a v q)) 0 0 (va_A (LC G a v q) sz) := by
  refine Met.walk (cc := cX2_allPressure) (maxL := 6) (ret := (some .int)) (Qc := fun A => PI G A (fun r (_ : Unit) => f_X2_allPressure v = r) (fun _ : Unit => LC G a v q)) (by decide) rfl (Nat.le_of_ble_eq_true rfl) ?_
  intro p e s m below meth c A H C0 _ hK hsz hP hD hA hS ls hl
  have hx := C0.1
  have hb := C0.2.1
  have hown : s.vm.findClass RX2 = some m.cls := C0.2.2.2.2.1
  have hml := C0.2.2.2.1
  have hts : ∀ w ∈ wsX2_allPressure, w.before [.ref (a 0)].toArray s = true := C0.2.2.2.2.2.1
  have hl : lv_has ls 6 [(0, .ref (a 0))] := hl
  refine lv_iconst (v := (nI 0)) hx hb dX2_allPressure_0 (by decide) ?_
  refine lv_istore_n (lv' := [(1, .int (nI 0)), (0, .ref (a 0))]) hx hb dX2_allPressure_1 rfl hl (by decide) rfl (fun ls hl => ?_)
  refine lv_aload_n hx hb dX2_allPressure_2 rfl (lv_at hl 1 rfl) ?_
  refine va_get (D := G.1) (ci := 2) (v := .ref (a 1)) (C := RX2) (T := TX2) (N := 14) hx hb hts in_X2_allPressure_RX2 hown hK.1 hP 0 rfl rfl 0 (by decide) (hts _ k_X2_allPressure_f12) (fun _ h9 => h9) rfl dX2_allPressure_3 ?_
  refine lv_astore_n (lv' := [(2, .ref (a 1)), (1, .int (nI 0)), (0, .ref (a 0))]) hx hb dX2_allPressure_6 rfl hl (by decide) rfl (fun ls hl => ?_)
  refine lv_aload_n hx hb dX2_allPressure_7 rfl (lv_at hl 0 rfl) ?_
  refine n_alen (n := 2) hx hb hK hP 1 2 rfl rfl dX2_allPressure_8 ?_
  refine lv_istore_n (lv' := [(3, .int (nI 2)), (2, .ref (a 1)), (1, .int (nI 0)), (0, .ref (a 0))]) hx hb dX2_allPressure_9 rfl hl (by decide) rfl (fun ls hl => ?_)
  refine lv_iconst (v := (nI 0)) hx hb dX2_allPressure_10 (by decide) ?_
  refine lv_istore (lv' := [(4, .int (nI 0)), (3, .int (nI 2)), (2, .ref (a 1)), (1, .int (nI 0)), (0, .ref (a 0))]) hx hb dX2_allPressure_11 hl (by decide) rfl (fun ls hl => ?_)
  refine lv_iload hx hb dX2_allPressure_13 (lv_at hl 0 rfl) ?_
  refine lv_iload_n hx hb dX2_allPressure_15 rfl (lv_at hl 1 rfl) ?_
  refine lv_icmp_ge (tgt := 39) hx hb dX2_allPressure_16 (by decide) (fun c_1 => absurd c_1 (by decide +kernel)) (fun c_1 => ?_)
  refine lv_aload_n hx hb dX2_allPressure_19 rfl (lv_at hl 2 rfl) ?_
  refine lv_iload hx hb dX2_allPressure_20 (lv_at hl 0 rfl) ?_
  refine n_aald (j := 0) (v := .ref (a 2)) (Cn := "SteamRations$Boiler") hx hb hK hP 1 2 rfl rfl (by decide) (by decide) rfl dX2_allPressure_22 ?_
  refine lv_astore (lv' := [(5, .ref (a 2)), (4, .int (nI 0)), (3, .int (nI 2)), (2, .ref (a 1)), (1, .int (nI 0)), (0, .ref (a 0))]) hx hb dX2_allPressure_23 hl (by decide) rfl (fun ls hl => ?_)
  refine lv_iload_n hx hb dX2_allPressure_25 rfl (lv_at hl 4 rfl) ?_
  refine lv_aload hx hb dX2_allPressure_26 (lv_at hl 0 rfl) ?_
  refine va_get (D := G.1) (ci := 0) (v := .int (v 4)) (C := RX0) (T := TX0) (N := 5) hx hb hts in_X2_allPressure_RX0 hown hK.1 hP 2 rfl rfl 2 (by decide) (hts _ k_X2_allPressure_f87) (fun _ h9 => h9) rfl dX2_allPressure_28 ?_
  refine lv_iadd hx hb dX2_allPressure_31 ?_
  refine lv_istore_n (lv' := [(1, .int ((nI 0) + (v 4))), (5, .ref (a 2)), (4, .int (nI 0)), (3, .int (nI 2)), (2, .ref (a 1)), (0, .ref (a 0))]) hx hb dX2_allPressure_32 rfl hl (by decide) rfl (fun ls hl => ?_)
  refine lv_iinc (v := (nI 1)) (lv' := [(4, .int (nI 1)), (1, .int ((nI 0) + (v 4))), (5, .ref (a 2)), (3, .int (nI 2)), (2, .ref (a 1)), (0, .ref (a 0))]) hx hb dX2_allPressure_33 hl (k := 2) rfl (inc1 0) (by decide) rfl (fun ls hl => ?_)
  refine lv_goto (tgt := 13) hx hb dX2_allPressure_36 (by decide) ?_
  refine lv_iload hx hb dX2_allPressure_13 (lv_at hl 0 rfl) ?_
  refine lv_iload_n hx hb dX2_allPressure_15 rfl (lv_at hl 3 rfl) ?_
  refine lv_icmp_ge (tgt := 39) hx hb dX2_allPressure_16 (by decide) (fun c_2 => absurd c_2 (by decide +kernel)) (fun c_2 => ?_)
  refine lv_aload_n hx hb dX2_allPressure_19 rfl (lv_at hl 4 rfl) ?_
  refine lv_iload hx hb dX2_allPressure_20 (lv_at hl 0 rfl) ?_
  refine n_aald (j := 1) (v := .ref (a 3)) (Cn := "SteamRations$Boiler") hx hb hK hP 1 2 rfl rfl (by decide) (by decide) rfl dX2_allPressure_22 ?_
  refine lv_astore (lv' := [(5, .ref (a 3)), (4, .int (nI 1)), (1, .int ((nI 0) + (v 4))), (3, .int (nI 2)), (2, .ref (a 1)), (0, .ref (a 0))]) hx hb dX2_allPressure_23 hl (by decide) rfl (fun ls hl => ?_)
  refine lv_iload_n hx hb dX2_allPressure_25 rfl (lv_at hl 2 rfl) ?_
  refine lv_aload hx hb dX2_allPressure_26 (lv_at hl 0 rfl) ?_
  refine va_get (D := G.1) (ci := 0) (v := .int (v 5)) (C := RX0) (T := TX0) (N := 5) hx hb hts in_X2_allPressure_RX0 hown hK.1 hP 3 rfl rfl 2 (by decide) (hts _ k_X2_allPressure_f87) (fun _ h9 => h9) rfl dX2_allPressure_28 ?_
  refine lv_iadd hx hb dX2_allPressure_31 ?_
  refine lv_istore_n (lv' := [(1, .int (((nI 0) + (v 4)) + (v 5))), (5, .ref (a 3)), (4, .int (nI 1)), (3, .int (nI 2)), (2, .ref (a 1)), (0, .ref (a 0))]) hx hb dX2_allPressure_32 rfl hl (by decide) rfl (fun ls hl => ?_)
  refine lv_iinc (v := (nI 2)) (lv' := [(4, .int (nI 2)), (1, .int (((nI 0) + (v 4)) + (v 5))), (5, .ref (a 3)), (3, .int (nI 2)), (2, .ref (a 1)), (0, .ref (a 0))]) hx hb dX2_allPressure_33 hl (k := 2) rfl (inc1 1) (by decide) rfl (fun ls hl => ?_)
  refine lv_goto (tgt := 13) hx hb dX2_allPressure_36 (by decide) ?_
  refine lv_iload hx hb dX2_allPressure_13 (lv_at hl 0 rfl) ?_
  refine lv_iload_n hx hb dX2_allPressure_15 rfl (lv_at hl 3 rfl) ?_
  refine lv_icmp_ge (tgt := 39) hx hb dX2_allPressure_16 (by decide) (fun c_3 => ?_) (fun c_3 => absurd (by decide +kernel) c_3)
  refine lv_iload_n hx hb dX2_allPressure_39 rfl (lv_at hl 1 rfl) ?_
  exact end_I C0 hP hD hS () (by simp only [f_X2_allPressure]) rfl dX2_allPressure_40

def f_X2_safetyStops (v : (Nat → Int32)) : Int32 :=
  (((nI 0) + (v 8)) + (v 9))
set_option maxRecDepth 20000 in
theorem k_X2_safetyStops_f12 : Cond.fieldLink RX2 12 "SteamRations$Laundry" "boilers" "[LSteamRations$Boiler;" ∈ wsX2_safetyStops := by decide +kernel
set_option maxRecDepth 20000 in
theorem k_X2_safetyStops_f90 : Cond.fieldLink RX2 90 "SteamRations$Boiler" "stops" "I" ∈ wsX2_safetyStops := by decide +kernel
set_option maxRecDepth 20000 in
theorem in_X2_safetyStops_RX0 : ∀ w ∈ u_ws RX0 TX0 5, w ∈ wsX2_safetyStops := by decide +kernel
set_option maxRecDepth 20000 in
theorem in_X2_safetyStops_RX2 : ∀ w ∈ u_ws RX2 TX2 14, w ∈ wsX2_safetyStops := by decide +kernel
theorem cd_X2_safetyStops : yX2_safetyStops.cls = RX2 ∧ yX2_safetyStops.cls ≠ "java/lang/invoke/MethodHandle" ∧ yX2_safetyStops.cls ≠ "java/lang/invoke/VarHandle" ∧ (parseMethodDescriptor yX2_safetyStops.desc).map (fun d => d.parameters.length) = some 0 := by decide +kernel
set_option maxHeartbeats 4000000 in
set_option maxRecDepth 100000 in
theorem c_X2_safetyStops (l : Launch) (G : GG) (a : Nat → Nat) (v : (Nat → Int32)) (q : (Nat → Int32)) (sz : Nat)   : Met l yX2_safetyStops wsX2_safetyStops ({ frames := 0, cells := 0, slots := 0, locals := 0 }) (Pre G [.ref (a 0)] (LC G a v q) sz) (PI G (va_A (LC G a v q) sz) (fun r (_ : Unit) => f_X2_safetyStops v = r) (fun _ : Unit => LC G a v q)) 0 0 (va_A (LC G a v q) sz) := by
  refine Met.walk (cc := cX2_safetyStops) (maxL := 6) (ret := (some .int)) (Qc := fun A => PI G A (fun r (_ : Unit) => f_X2_safetyStops v = r) (fun _ : Unit => LC G a v q)) (by decide) rfl (Nat.le_of_ble_eq_true rfl) ?_
  intro p e s m below meth c A H C0 _ hK hsz hP hD hA hS ls hl
  have hx := C0.1
  have hb := C0.2.1
  have hown : s.vm.findClass RX2 = some m.cls := C0.2.2.2.2.1
  have hml := C0.2.2.2.1
  have hts : ∀ w ∈ wsX2_safetyStops, w.before [.ref (a 0)].toArray s = true := C0.2.2.2.2.2.1
  have hl : lv_has ls 6 [(0, .ref (a 0))] := hl
  refine lv_iconst (v := (nI 0)) hx hb dX2_safetyStops_0 (by decide) ?_
  refine lv_istore_n (lv' := [(1, .int (nI 0)), (0, .ref (a 0))]) hx hb dX2_safetyStops_1 rfl hl (by decide) rfl (fun ls hl => ?_)
  refine lv_aload_n hx hb dX2_safetyStops_2 rfl (lv_at hl 1 rfl) ?_
  refine va_get (D := G.1) (ci := 2) (v := .ref (a 1)) (C := RX2) (T := TX2) (N := 14) hx hb hts in_X2_safetyStops_RX2 hown hK.1 hP 0 rfl rfl 0 (by decide) (hts _ k_X2_safetyStops_f12) (fun _ h9 => h9) rfl dX2_safetyStops_3 ?_
  refine lv_astore_n (lv' := [(2, .ref (a 1)), (1, .int (nI 0)), (0, .ref (a 0))]) hx hb dX2_safetyStops_6 rfl hl (by decide) rfl (fun ls hl => ?_)
  refine lv_aload_n hx hb dX2_safetyStops_7 rfl (lv_at hl 0 rfl) ?_
  refine n_alen (n := 2) hx hb hK hP 1 2 rfl rfl dX2_safetyStops_8 ?_
  refine lv_istore_n (lv' := [(3, .int (nI 2)), (2, .ref (a 1)), (1, .int (nI 0)), (0, .ref (a 0))]) hx hb dX2_safetyStops_9 rfl hl (by decide) rfl (fun ls hl => ?_)
  refine lv_iconst (v := (nI 0)) hx hb dX2_safetyStops_10 (by decide) ?_
  refine lv_istore (lv' := [(4, .int (nI 0)), (3, .int (nI 2)), (2, .ref (a 1)), (1, .int (nI 0)), (0, .ref (a 0))]) hx hb dX2_safetyStops_11 hl (by decide) rfl (fun ls hl => ?_)
  refine lv_iload hx hb dX2_safetyStops_13 (lv_at hl 0 rfl) ?_
  refine lv_iload_n hx hb dX2_safetyStops_15 rfl (lv_at hl 1 rfl) ?_
  refine lv_icmp_ge (tgt := 39) hx hb dX2_safetyStops_16 (by decide) (fun c_1 => absurd c_1 (by decide +kernel)) (fun c_1 => ?_)
  refine lv_aload_n hx hb dX2_safetyStops_19 rfl (lv_at hl 2 rfl) ?_
  refine lv_iload hx hb dX2_safetyStops_20 (lv_at hl 0 rfl) ?_
  refine n_aald (j := 0) (v := .ref (a 2)) (Cn := "SteamRations$Boiler") hx hb hK hP 1 2 rfl rfl (by decide) (by decide) rfl dX2_safetyStops_22 ?_
  refine lv_astore (lv' := [(5, .ref (a 2)), (4, .int (nI 0)), (3, .int (nI 2)), (2, .ref (a 1)), (1, .int (nI 0)), (0, .ref (a 0))]) hx hb dX2_safetyStops_23 hl (by decide) rfl (fun ls hl => ?_)
  refine lv_iload_n hx hb dX2_safetyStops_25 rfl (lv_at hl 4 rfl) ?_
  refine lv_aload hx hb dX2_safetyStops_26 (lv_at hl 0 rfl) ?_
  refine va_get (D := G.1) (ci := 0) (v := .int (v 8)) (C := RX0) (T := TX0) (N := 5) hx hb hts in_X2_safetyStops_RX0 hown hK.1 hP 2 rfl rfl 4 (by decide) (hts _ k_X2_safetyStops_f90) (fun _ h9 => h9) rfl dX2_safetyStops_28 ?_
  refine lv_iadd hx hb dX2_safetyStops_31 ?_
  refine lv_istore_n (lv' := [(1, .int ((nI 0) + (v 8))), (5, .ref (a 2)), (4, .int (nI 0)), (3, .int (nI 2)), (2, .ref (a 1)), (0, .ref (a 0))]) hx hb dX2_safetyStops_32 rfl hl (by decide) rfl (fun ls hl => ?_)
  refine lv_iinc (v := (nI 1)) (lv' := [(4, .int (nI 1)), (1, .int ((nI 0) + (v 8))), (5, .ref (a 2)), (3, .int (nI 2)), (2, .ref (a 1)), (0, .ref (a 0))]) hx hb dX2_safetyStops_33 hl (k := 2) rfl (inc1 0) (by decide) rfl (fun ls hl => ?_)
  refine lv_goto (tgt := 13) hx hb dX2_safetyStops_36 (by decide) ?_
  refine lv_iload hx hb dX2_safetyStops_13 (lv_at hl 0 rfl) ?_
  refine lv_iload_n hx hb dX2_safetyStops_15 rfl (lv_at hl 3 rfl) ?_
  refine lv_icmp_ge (tgt := 39) hx hb dX2_safetyStops_16 (by decide) (fun c_2 => absurd c_2 (by decide +kernel)) (fun c_2 => ?_)
  refine lv_aload_n hx hb dX2_safetyStops_19 rfl (lv_at hl 4 rfl) ?_
  refine lv_iload hx hb dX2_safetyStops_20 (lv_at hl 0 rfl) ?_
  refine n_aald (j := 1) (v := .ref (a 3)) (Cn := "SteamRations$Boiler") hx hb hK hP 1 2 rfl rfl (by decide) (by decide) rfl dX2_safetyStops_22 ?_
  refine lv_astore (lv' := [(5, .ref (a 3)), (4, .int (nI 1)), (1, .int ((nI 0) + (v 8))), (3, .int (nI 2)), (2, .ref (a 1)), (0, .ref (a 0))]) hx hb dX2_safetyStops_23 hl (by decide) rfl (fun ls hl => ?_)
  refine lv_iload_n hx hb dX2_safetyStops_25 rfl (lv_at hl 2 rfl) ?_
  refine lv_aload hx hb dX2_safetyStops_26 (lv_at hl 0 rfl) ?_
  refine va_get (D := G.1) (ci := 0) (v := .int (v 9)) (C := RX0) (T := TX0) (N := 5) hx hb hts in_X2_safetyStops_RX0 hown hK.1 hP 3 rfl rfl 4 (by decide) (hts _ k_X2_safetyStops_f90) (fun _ h9 => h9) rfl dX2_safetyStops_28 ?_
  refine lv_iadd hx hb dX2_safetyStops_31 ?_
  refine lv_istore_n (lv' := [(1, .int (((nI 0) + (v 8)) + (v 9))), (5, .ref (a 3)), (4, .int (nI 1)), (3, .int (nI 2)), (2, .ref (a 1)), (0, .ref (a 0))]) hx hb dX2_safetyStops_32 rfl hl (by decide) rfl (fun ls hl => ?_)
  refine lv_iinc (v := (nI 2)) (lv' := [(4, .int (nI 2)), (1, .int (((nI 0) + (v 8)) + (v 9))), (5, .ref (a 3)), (3, .int (nI 2)), (2, .ref (a 1)), (0, .ref (a 0))]) hx hb dX2_safetyStops_33 hl (k := 2) rfl (inc1 1) (by decide) rfl (fun ls hl => ?_)
  refine lv_goto (tgt := 13) hx hb dX2_safetyStops_36 (by decide) ?_
  refine lv_iload hx hb dX2_safetyStops_13 (lv_at hl 0 rfl) ?_
  refine lv_iload_n hx hb dX2_safetyStops_15 rfl (lv_at hl 3 rfl) ?_
  refine lv_icmp_ge (tgt := 39) hx hb dX2_safetyStops_16 (by decide) (fun c_3 => ?_) (fun c_3 => absurd (by decide +kernel) c_3)
  refine lv_iload_n hx hb dX2_safetyStops_39 rfl (lv_at hl 1 rfl) ?_
  exact end_I C0 hP hD hS () (by simp only [f_X2_safetyStops]) rfl dX2_safetyStops_40

def f_X2_account (v : (Nat → Int32)) (p0 : Int32) : Int32 :=
  if p0 = nI 0 then
    (v 12)
  else
    if p0 = nI 1 then
      (v 10)
    else
      if p0 = nI 2 then
        (v 38)
      else
        if p0 = nI 3 then
          (v 39)
        else
          if p0 = nI 4 then
            (v 11)
          else
            if p0 = nI 5 then
              (f_X2_loadsInMachines v)
            else
              if p0 = nI 6 then
                (v 25)
              else
                if p0 = nI 7 then
                  (v 40)
                else
                  if p0 = nI 8 then
                    (v 41)
                  else
                    if p0 = nI 9 then
                      (v 42)
                    else
                      if p0 = nI 10 then
                        (v 43)
                      else
                        if p0 = nI 11 then
                          (v 44)
                        else
                          if p0 = nI 12 then
                            (f_X2_allPressure v)
                          else
                            if p0 = nI 13 then
                              (v 45)
                            else
                              (-2)
set_option maxRecDepth 20000 in
theorem k_X2_account_f28 : Cond.fieldLink RX2 28 "SteamRations$Laundry" "waiting" "LSteamRations$WaitingLine;" ∈ wsX2_account := by decide +kernel
set_option maxRecDepth 20000 in
theorem k_X2_account_f32 : Cond.fieldLink RX2 32 "SteamRations$Laundry" "coal" "I" ∈ wsX2_account := by decide +kernel
set_option maxRecDepth 20000 in
theorem k_X2_account_f36 : Cond.fieldLink RX2 36 "SteamRations$Laundry" "ration" "I" ∈ wsX2_account := by decide +kernel
set_option maxRecDepth 20000 in
theorem k_X2_account_f49 : Cond.fieldLink RX2 49 "SteamRations$Laundry" "ticks" "I" ∈ wsX2_account := by decide +kernel
set_option maxRecDepth 20000 in
theorem k_X2_account_f52 : Cond.fieldLink RX2 52 "SteamRations$Laundry" "washed" "I" ∈ wsX2_account := by decide +kernel
set_option maxRecDepth 20000 in
theorem k_X2_account_f55 : Cond.fieldLink RX2 55 "SteamRations$Laundry" "spoiled" "I" ∈ wsX2_account := by decide +kernel
set_option maxRecDepth 20000 in
theorem k_X2_account_f58 : Cond.fieldLink RX2 58 "SteamRations$Laundry" "burnt" "I" ∈ wsX2_account := by decide +kernel
set_option maxRecDepth 20000 in
theorem k_X2_account_f61 : Cond.fieldLink RX2 61 "SteamRations$Laundry" "rationed" "I" ∈ wsX2_account := by decide +kernel
set_option maxRecDepth 20000 in
theorem k_X2_account_f64 : Cond.fieldLink RX2 64 "SteamRations$Laundry" "started" "I" ∈ wsX2_account := by decide +kernel
set_option maxRecDepth 20000 in
theorem k_X2_account_f67 : Cond.fieldLink RX2 67 "SteamRations$Laundry" "takenOut" "I" ∈ wsX2_account := by decide +kernel
set_option maxRecDepth 20000 in
theorem k_X2_account_f70 : Cond.fieldLink RX2 70 "SteamRations$Laundry" "worth" "I" ∈ wsX2_account := by decide +kernel
set_option maxRecDepth 20000 in
theorem k_X2_account_f73 : Cond.fieldLink RX2 73 "SteamRations$Laundry" "ticksOfWaits" "I" ∈ wsX2_account := by decide +kernel
set_option maxRecDepth 20000 in
theorem k_X2_account_f80 : Cond.fieldLink RX2 80 "SteamRations$WaitingLine" "length" "I" ∈ wsX2_account := by decide +kernel
set_option maxRecDepth 20000 in
theorem in_X2_account_RX2 : ∀ w ∈ u_ws RX2 TX2 14, w ∈ wsX2_account := by decide +kernel
set_option maxRecDepth 20000 in
theorem in_X2_account_RX5 : ∀ w ∈ u_ws RX5 TX5 2, w ∈ wsX2_account := by decide +kernel
theorem cd_X2_account : yX2_account.cls = RX2 ∧ yX2_account.cls ≠ "java/lang/invoke/MethodHandle" ∧ yX2_account.cls ≠ "java/lang/invoke/VarHandle" ∧ (parseMethodDescriptor yX2_account.desc).map (fun d => d.parameters.length) = some 1 := by decide +kernel
set_option maxHeartbeats 4000000 in
set_option maxRecDepth 100000 in
theorem c_X2_account (l : Launch) (G : GG) (a : Nat → Nat) (v : (Nat → Int32)) (q : (Nat → Int32)) (sz : Nat) (p0 : Int32)  : Met l yX2_account wsX2_account ({ frames := 2, cells := 0, slots := 0, locals := 45 }) (Pre G [.ref (a 0), .int p0] (LC G a v q) sz) (PI G (va_A (LC G a v q) sz) (fun r (_ : Unit) => f_X2_account v p0 = r) (fun _ : Unit => LC G a v q)) 0 0 (va_A (LC G a v q) sz) := by
  refine Met.walk (cc := cX2_account) (maxL := 2) (ret := (some .int)) (Qc := fun A => PI G A (fun r (_ : Unit) => f_X2_account v p0 = r) (fun _ : Unit => LC G a v q)) (by decide) rfl (Nat.le_of_ble_eq_true rfl) ?_
  intro p e s m below meth c A H C0 _ hK hsz hP hD hA hS ls hl
  have hx := C0.1
  have hb := C0.2.1
  have hown : s.vm.findClass RX2 = some m.cls := C0.2.2.2.2.1
  have hml := C0.2.2.2.1
  have hts : ∀ w ∈ wsX2_account, w.before [.ref (a 0), .int p0].toArray s = true := C0.2.2.2.2.2.1
  have hl : lv_has ls 2 [(0, .ref (a 0)), (1, .int p0)] := hl
  refine lv_iload_n hx hb dX2_account_0 rfl (lv_at hl 1 rfl) ?_
  by_cases c_1 : p0 = nI 0
  · refine lv_tableIn (tgt := 72) hx hb dX2_account_1 (by rw [c_1]; decide +kernel) (by rw [c_1]; decide +kernel) (by rw [c_1]; rfl) (by decide) ?_
    refine lv_aload_n hx hb dX2_account_72 rfl (lv_at hl 0 rfl) ?_
    refine va_get (D := G.1) (ci := 2) (v := .int (v 12)) (C := RX2) (T := TX2) (N := 14) hx hb hts in_X2_account_RX2 hown hK.1 hP 0 rfl rfl 3 (by decide) (hts _ k_X2_account_f49) (fun _ h9 => h9) rfl dX2_account_73 ?_
    exact end_I C0 hP hD hS () (by simp only [f_X2_account, if_pos c_1]) rfl dX2_account_76
  · by_cases c_2 : p0 = nI 1
    · refine lv_tableIn (tgt := 77) hx hb dX2_account_1 (by rw [c_2]; decide +kernel) (by rw [c_2]; decide +kernel) (by rw [c_2]; rfl) (by decide) ?_
      refine lv_aload_n hx hb dX2_account_77 rfl (lv_at hl 0 rfl) ?_
      refine va_get (D := G.1) (ci := 2) (v := .int (v 10)) (C := RX2) (T := TX2) (N := 14) hx hb hts in_X2_account_RX2 hown hK.1 hP 0 rfl rfl 7 (by decide) (hts _ k_X2_account_f32) (fun _ h9 => h9) rfl dX2_account_78 ?_
      exact end_I C0 hP hD hS () (by simp only [f_X2_account, if_neg c_1, if_pos c_2]) rfl dX2_account_81
    · by_cases c_3 : p0 = nI 2
      · refine lv_tableIn (tgt := 82) hx hb dX2_account_1 (by rw [c_3]; decide +kernel) (by rw [c_3]; decide +kernel) (by rw [c_3]; rfl) (by decide) ?_
        refine lv_aload_n hx hb dX2_account_82 rfl (lv_at hl 0 rfl) ?_
        refine va_get (D := G.1) (ci := 2) (v := .int (v 38)) (C := RX2) (T := TX2) (N := 14) hx hb hts in_X2_account_RX2 hown hK.1 hP 0 rfl rfl 6 (by decide) (hts _ k_X2_account_f58) (fun _ h9 => h9) rfl dX2_account_83 ?_
        exact end_I C0 hP hD hS () (by simp only [f_X2_account, if_neg c_1, if_neg c_2, if_pos c_3]) rfl dX2_account_86
      · by_cases c_4 : p0 = nI 3
        · refine lv_tableIn (tgt := 87) hx hb dX2_account_1 (by rw [c_4]; decide +kernel) (by rw [c_4]; decide +kernel) (by rw [c_4]; rfl) (by decide) ?_
          refine lv_aload_n hx hb dX2_account_87 rfl (lv_at hl 0 rfl) ?_
          refine va_get (D := G.1) (ci := 2) (v := .int (v 39)) (C := RX2) (T := TX2) (N := 14) hx hb hts in_X2_account_RX2 hown hK.1 hP 0 rfl rfl 9 (by decide) (hts _ k_X2_account_f61) (fun _ h9 => h9) rfl dX2_account_88 ?_
          exact end_I C0 hP hD hS () (by simp only [f_X2_account, if_neg c_1, if_neg c_2, if_neg c_3, if_pos c_4]) rfl dX2_account_91
        · by_cases c_5 : p0 = nI 4
          · refine lv_tableIn (tgt := 92) hx hb dX2_account_1 (by rw [c_5]; decide +kernel) (by rw [c_5]; decide +kernel) (by rw [c_5]; rfl) (by decide) ?_
            refine lv_aload_n hx hb dX2_account_92 rfl (lv_at hl 0 rfl) ?_
            refine va_get (D := G.1) (ci := 2) (v := .int (v 11)) (C := RX2) (T := TX2) (N := 14) hx hb hts in_X2_account_RX2 hown hK.1 hP 0 rfl rfl 8 (by decide) (hts _ k_X2_account_f36) (fun _ h9 => h9) rfl dX2_account_93 ?_
            exact end_I C0 hP hD hS () (by simp only [f_X2_account, if_neg c_1, if_neg c_2, if_neg c_3, if_neg c_4, if_pos c_5]) rfl dX2_account_96
          · by_cases c_6 : p0 = nI 5
            · refine lv_tableIn (tgt := 97) hx hb dX2_account_1 (by rw [c_6]; decide +kernel) (by rw [c_6]; decide +kernel) (by rw [c_6]; rfl) (by decide) ?_
              refine lv_aload_n hx hb dX2_account_97 rfl (lv_at hl 0 rfl) ?_
              refine gcall_I (run_V (As := []) (rest := []) C0 hK hP hD (c_X2_loadsInMachines l G a v q H.size ) (cwV 0 hts gX2_account_X2_loadsInMachines rfl rfl rfl cd_X2_loadsInMachines ⟨Nat.le_of_ble_eq_true rfl, Nat.le_of_ble_eq_true rfl⟩) [0, 1, 2, 3, 4, 5, 6, 7, 8, 9, 10] rfl rfl 0 (ci := 2) rfl rfl rfl rfl hl.1 rfl (Nat.le_of_ble_eq_true rfl) dX2_account_98 ⟨Nat.le_of_ble_eq_true rfl, Nat.le_of_ble_eq_true rfl⟩) hP hD hS hA [0, 1, 2, 3, 4, 5, 6, 7, 8, 9, 10] rfl rfl (fun _ => rfl) (fun r_7 _ H locs hw_7 hP hD hS => ?_)
              subst hw_7
              have hP : va_P G.1 vwCl (LC G a v q) H := hP
              have hD : va_D A (LC G a v q) := hD
              exact end_I C0 hP hD hS () (by simp only [f_X2_account, if_neg c_1, if_neg c_2, if_neg c_3, if_neg c_4, if_neg c_5, if_pos c_6]) rfl dX2_account_101
            · by_cases c_8 : p0 = nI 6
              · refine lv_tableIn (tgt := 102) hx hb dX2_account_1 (by rw [c_8]; decide +kernel) (by rw [c_8]; decide +kernel) (by rw [c_8]; rfl) (by decide) ?_
                refine lv_aload_n hx hb dX2_account_102 rfl (lv_at hl 0 rfl) ?_
                refine va_get (D := G.1) (ci := 2) (v := .ref (a 9)) (C := RX2) (T := TX2) (N := 14) hx hb hts in_X2_account_RX2 hown hK.1 hP 0 rfl rfl 2 (by decide) (hts _ k_X2_account_f28) (fun _ h9 => h9) rfl dX2_account_103 ?_
                refine va_get (D := G.1) (ci := 5) (v := .int (v 25)) (C := RX5) (T := TX5) (N := 2) hx hb hts in_X2_account_RX5 hown hK.1 hP 9 rfl rfl 1 (by decide) (hts _ k_X2_account_f80) (fun _ h9 => h9) rfl dX2_account_106 ?_
                exact end_I C0 hP hD hS () (by simp only [f_X2_account, if_neg c_1, if_neg c_2, if_neg c_3, if_neg c_4, if_neg c_5, if_neg c_6, if_pos c_8]) rfl dX2_account_109
              · by_cases c_9 : p0 = nI 7
                · refine lv_tableIn (tgt := 110) hx hb dX2_account_1 (by rw [c_9]; decide +kernel) (by rw [c_9]; decide +kernel) (by rw [c_9]; rfl) (by decide) ?_
                  refine lv_aload_n hx hb dX2_account_110 rfl (lv_at hl 0 rfl) ?_
                  refine va_get (D := G.1) (ci := 2) (v := .int (v 40)) (C := RX2) (T := TX2) (N := 14) hx hb hts in_X2_account_RX2 hown hK.1 hP 0 rfl rfl 10 (by decide) (hts _ k_X2_account_f64) (fun _ h9 => h9) rfl dX2_account_111 ?_
                  exact end_I C0 hP hD hS () (by simp only [f_X2_account, if_neg c_1, if_neg c_2, if_neg c_3, if_neg c_4, if_neg c_5, if_neg c_6, if_neg c_8, if_pos c_9]) rfl dX2_account_114
                · by_cases c_10 : p0 = nI 8
                  · refine lv_tableIn (tgt := 115) hx hb dX2_account_1 (by rw [c_10]; decide +kernel) (by rw [c_10]; decide +kernel) (by rw [c_10]; rfl) (by decide) ?_
                    refine lv_aload_n hx hb dX2_account_115 rfl (lv_at hl 0 rfl) ?_
                    refine va_get (D := G.1) (ci := 2) (v := .int (v 41)) (C := RX2) (T := TX2) (N := 14) hx hb hts in_X2_account_RX2 hown hK.1 hP 0 rfl rfl 4 (by decide) (hts _ k_X2_account_f52) (fun _ h9 => h9) rfl dX2_account_116 ?_
                    exact end_I C0 hP hD hS () (by simp only [f_X2_account, if_neg c_1, if_neg c_2, if_neg c_3, if_neg c_4, if_neg c_5, if_neg c_6, if_neg c_8, if_neg c_9, if_pos c_10]) rfl dX2_account_119
                  · by_cases c_11 : p0 = nI 9
                    · refine lv_tableIn (tgt := 120) hx hb dX2_account_1 (by rw [c_11]; decide +kernel) (by rw [c_11]; decide +kernel) (by rw [c_11]; rfl) (by decide) ?_
                      refine lv_aload_n hx hb dX2_account_120 rfl (lv_at hl 0 rfl) ?_
                      refine va_get (D := G.1) (ci := 2) (v := .int (v 42)) (C := RX2) (T := TX2) (N := 14) hx hb hts in_X2_account_RX2 hown hK.1 hP 0 rfl rfl 5 (by decide) (hts _ k_X2_account_f55) (fun _ h9 => h9) rfl dX2_account_121 ?_
                      exact end_I C0 hP hD hS () (by simp only [f_X2_account, if_neg c_1, if_neg c_2, if_neg c_3, if_neg c_4, if_neg c_5, if_neg c_6, if_neg c_8, if_neg c_9, if_neg c_10, if_pos c_11]) rfl dX2_account_124
                    · by_cases c_12 : p0 = nI 10
                      · refine lv_tableIn (tgt := 125) hx hb dX2_account_1 (by rw [c_12]; decide +kernel) (by rw [c_12]; decide +kernel) (by rw [c_12]; rfl) (by decide) ?_
                        refine lv_aload_n hx hb dX2_account_125 rfl (lv_at hl 0 rfl) ?_
                        refine va_get (D := G.1) (ci := 2) (v := .int (v 43)) (C := RX2) (T := TX2) (N := 14) hx hb hts in_X2_account_RX2 hown hK.1 hP 0 rfl rfl 11 (by decide) (hts _ k_X2_account_f67) (fun _ h9 => h9) rfl dX2_account_126 ?_
                        exact end_I C0 hP hD hS () (by simp only [f_X2_account, if_neg c_1, if_neg c_2, if_neg c_3, if_neg c_4, if_neg c_5, if_neg c_6, if_neg c_8, if_neg c_9, if_neg c_10, if_neg c_11, if_pos c_12]) rfl dX2_account_129
                      · by_cases c_13 : p0 = nI 11
                        · refine lv_tableIn (tgt := 130) hx hb dX2_account_1 (by rw [c_13]; decide +kernel) (by rw [c_13]; decide +kernel) (by rw [c_13]; rfl) (by decide) ?_
                          refine lv_aload_n hx hb dX2_account_130 rfl (lv_at hl 0 rfl) ?_
                          refine va_get (D := G.1) (ci := 2) (v := .int (v 44)) (C := RX2) (T := TX2) (N := 14) hx hb hts in_X2_account_RX2 hown hK.1 hP 0 rfl rfl 12 (by decide) (hts _ k_X2_account_f70) (fun _ h9 => h9) rfl dX2_account_131 ?_
                          exact end_I C0 hP hD hS () (by simp only [f_X2_account, if_neg c_1, if_neg c_2, if_neg c_3, if_neg c_4, if_neg c_5, if_neg c_6, if_neg c_8, if_neg c_9, if_neg c_10, if_neg c_11, if_neg c_12, if_pos c_13]) rfl dX2_account_134
                        · by_cases c_14 : p0 = nI 12
                          · refine lv_tableIn (tgt := 135) hx hb dX2_account_1 (by rw [c_14]; decide +kernel) (by rw [c_14]; decide +kernel) (by rw [c_14]; rfl) (by decide) ?_
                            refine lv_aload_n hx hb dX2_account_135 rfl (lv_at hl 0 rfl) ?_
                            refine gcall_I (run_V (As := []) (rest := []) C0 hK hP hD (c_X2_allPressure l G a v q H.size ) (cwV 0 hts gX2_account_X2_allPressure rfl rfl rfl cd_X2_allPressure ⟨Nat.le_of_ble_eq_true rfl, Nat.le_of_ble_eq_true rfl⟩) [0, 1, 2, 3, 4, 5, 6, 7, 8, 9, 10] rfl rfl 0 (ci := 2) rfl rfl rfl rfl hl.1 rfl (Nat.le_of_ble_eq_true rfl) dX2_account_136 ⟨Nat.le_of_ble_eq_true rfl, Nat.le_of_ble_eq_true rfl⟩) hP hD hS hA [0, 1, 2, 3, 4, 5, 6, 7, 8, 9, 10] rfl rfl (fun _ => rfl) (fun r_15 _ H locs hw_15 hP hD hS => ?_)
                            subst hw_15
                            have hP : va_P G.1 vwCl (LC G a v q) H := hP
                            have hD : va_D A (LC G a v q) := hD
                            exact end_I C0 hP hD hS () (by simp only [f_X2_account, if_neg c_1, if_neg c_2, if_neg c_3, if_neg c_4, if_neg c_5, if_neg c_6, if_neg c_8, if_neg c_9, if_neg c_10, if_neg c_11, if_neg c_12, if_neg c_13, if_pos c_14]) rfl dX2_account_139
                          · by_cases c_16 : p0 = nI 13
                            · refine lv_tableIn (tgt := 140) hx hb dX2_account_1 (by rw [c_16]; decide +kernel) (by rw [c_16]; decide +kernel) (by rw [c_16]; rfl) (by decide) ?_
                              refine lv_aload_n hx hb dX2_account_140 rfl (lv_at hl 0 rfl) ?_
                              refine va_get (D := G.1) (ci := 2) (v := .int (v 45)) (C := RX2) (T := TX2) (N := 14) hx hb hts in_X2_account_RX2 hown hK.1 hP 0 rfl rfl 13 (by decide) (hts _ k_X2_account_f73) (fun _ h9 => h9) rfl dX2_account_141 ?_
                              exact end_I C0 hP hD hS () (by simp only [f_X2_account, if_neg c_1, if_neg c_2, if_neg c_3, if_neg c_4, if_neg c_5, if_neg c_6, if_neg c_8, if_neg c_9, if_neg c_10, if_neg c_11, if_neg c_12, if_neg c_13, if_neg c_14, if_pos c_16]) rfl dX2_account_144
                            · have z_c_1 := lv_neT c_1 (show (nI 0).toInt = 0 from by decide +kernel)
                              have z_c_2 := lv_neT c_2 (show (nI 1).toInt = 1 from by decide +kernel)
                              have z_c_3 := lv_neT c_3 (show (nI 2).toInt = 2 from by decide +kernel)
                              have z_c_4 := lv_neT c_4 (show (nI 3).toInt = 3 from by decide +kernel)
                              have z_c_5 := lv_neT c_5 (show (nI 4).toInt = 4 from by decide +kernel)
                              have z_c_6 := lv_neT c_6 (show (nI 5).toInt = 5 from by decide +kernel)
                              have z_c_8 := lv_neT c_8 (show (nI 6).toInt = 6 from by decide +kernel)
                              have z_c_9 := lv_neT c_9 (show (nI 7).toInt = 7 from by decide +kernel)
                              have z_c_10 := lv_neT c_10 (show (nI 8).toInt = 8 from by decide +kernel)
                              have z_c_11 := lv_neT c_11 (show (nI 9).toInt = 9 from by decide +kernel)
                              have z_c_12 := lv_neT c_12 (show (nI 10).toInt = 10 from by decide +kernel)
                              have z_c_13 := lv_neT c_13 (show (nI 11).toInt = 11 from by decide +kernel)
                              have z_c_14 := lv_neT c_14 (show (nI 12).toInt = 12 from by decide +kernel)
                              have z_c_16 := lv_neT c_16 (show (nI 13).toInt = 13 from by decide +kernel)
                              refine lv_tableOut (tgt := 145) hx hb dX2_account_1 (by omega) (by decide) ?_
                              refine lv_bipush (v := (-2)) hx hb dX2_account_145 (by decide) ?_
                              exact end_I C0 hP hD hS () (by simp only [f_X2_account, if_neg c_1, if_neg c_2, if_neg c_3, if_neg c_4, if_neg c_5, if_neg c_6, if_neg c_8, if_neg c_9, if_neg c_10, if_neg c_11, if_neg c_12, if_neg c_13, if_neg c_14, if_neg c_16]) rfl dX2_account_147

def f_X2_need (v : (Nat → Int32)) : Int32 :=
  (((((nI 0) + (f_X6_steamOf (v 13))) + (f_X6_steamOf (v 14))) + (f_X6_steamOf (v 15))) + (f_X6_steamOf (v 16)))
set_option maxRecDepth 20000 in
theorem k_X2_need_f185 : Cond.fieldLink RX2 185 "SteamRations$Machine" "kind" "I" ∈ wsX2_need := by decide +kernel
set_option maxRecDepth 20000 in
theorem k_X2_need_f21 : Cond.fieldLink RX2 21 "SteamRations$Laundry" "machines" "[LSteamRations$Machine;" ∈ wsX2_need := by decide +kernel
set_option maxRecDepth 20000 in
theorem in_X2_need_RX2 : ∀ w ∈ u_ws RX2 TX2 14, w ∈ wsX2_need := by decide +kernel
set_option maxRecDepth 20000 in
theorem in_X2_need_RX3 : ∀ w ∈ u_ws RX3 TX3 3, w ∈ wsX2_need := by decide +kernel
theorem cd_X2_need : yX2_need.cls = RX2 ∧ yX2_need.cls ≠ "java/lang/invoke/MethodHandle" ∧ yX2_need.cls ≠ "java/lang/invoke/VarHandle" ∧ (parseMethodDescriptor yX2_need.desc).map (fun d => d.parameters.length) = some 0 := by decide +kernel
set_option maxHeartbeats 4000000 in
set_option maxRecDepth 100000 in
theorem c_X2_need (l : Launch) (G : GG) (a : Nat → Nat) (v : (Nat → Int32)) (q : (Nat → Int32)) (sz : Nat)   : Met l yX2_need wsX2_need ({ frames := 1, cells := 0, slots := 0, locals := 20 }) (Pre G [.ref (a 0)] (LC G a v q) sz) (PI G (va_A (LC G a v q) sz) (fun r (_ : Unit) => f_X2_need v = r) (fun _ : Unit => LC G a v q)) 0 0 (va_A (LC G a v q) sz) := by
  refine Met.walk (cc := cX2_need) (maxL := 6) (ret := (some .int)) (Qc := fun A => PI G A (fun r (_ : Unit) => f_X2_need v = r) (fun _ : Unit => LC G a v q)) (by decide) rfl (Nat.le_of_ble_eq_true rfl) ?_
  intro p e s m below meth c A H C0 _ hK hsz hP hD hA hS ls hl
  have hx := C0.1
  have hb := C0.2.1
  have hown : s.vm.findClass RX2 = some m.cls := C0.2.2.2.2.1
  have hml := C0.2.2.2.1
  have hts : ∀ w ∈ wsX2_need, w.before [.ref (a 0)].toArray s = true := C0.2.2.2.2.2.1
  have hl : lv_has ls 6 [(0, .ref (a 0))] := hl
  refine lv_iconst (v := (nI 0)) hx hb dX2_need_0 (by decide) ?_
  refine lv_istore_n (lv' := [(1, .int (nI 0)), (0, .ref (a 0))]) hx hb dX2_need_1 rfl hl (by decide) rfl (fun ls hl => ?_)
  refine lv_aload_n hx hb dX2_need_2 rfl (lv_at hl 1 rfl) ?_
  refine va_get (D := G.1) (ci := 2) (v := .ref (a 4)) (C := RX2) (T := TX2) (N := 14) hx hb hts in_X2_need_RX2 hown hK.1 hP 0 rfl rfl 1 (by decide) (hts _ k_X2_need_f21) (fun _ h9 => h9) rfl dX2_need_3 ?_
  refine lv_astore_n (lv' := [(2, .ref (a 4)), (1, .int (nI 0)), (0, .ref (a 0))]) hx hb dX2_need_6 rfl hl (by decide) rfl (fun ls hl => ?_)
  refine lv_aload_n hx hb dX2_need_7 rfl (lv_at hl 0 rfl) ?_
  refine n_alen (n := 4) hx hb hK hP 4 3 rfl rfl dX2_need_8 ?_
  refine lv_istore_n (lv' := [(3, .int (nI 4)), (2, .ref (a 4)), (1, .int (nI 0)), (0, .ref (a 0))]) hx hb dX2_need_9 rfl hl (by decide) rfl (fun ls hl => ?_)
  refine lv_iconst (v := (nI 0)) hx hb dX2_need_10 (by decide) ?_
  refine lv_istore (lv' := [(4, .int (nI 0)), (3, .int (nI 4)), (2, .ref (a 4)), (1, .int (nI 0)), (0, .ref (a 0))]) hx hb dX2_need_11 hl (by decide) rfl (fun ls hl => ?_)
  refine lv_iload hx hb dX2_need_13 (lv_at hl 0 rfl) ?_
  refine lv_iload_n hx hb dX2_need_15 rfl (lv_at hl 1 rfl) ?_
  refine lv_icmp_ge (tgt := 42) hx hb dX2_need_16 (by decide) (fun c_1 => absurd c_1 (by decide +kernel)) (fun c_1 => ?_)
  refine lv_aload_n hx hb dX2_need_19 rfl (lv_at hl 2 rfl) ?_
  refine lv_iload hx hb dX2_need_20 (lv_at hl 0 rfl) ?_
  refine n_aald (j := 0) (v := .ref (a 5)) (Cn := "SteamRations$Machine") hx hb hK hP 4 3 rfl rfl (by decide) (by decide) rfl dX2_need_22 ?_
  refine lv_astore (lv' := [(5, .ref (a 5)), (4, .int (nI 0)), (3, .int (nI 4)), (2, .ref (a 4)), (1, .int (nI 0)), (0, .ref (a 0))]) hx hb dX2_need_23 hl (by decide) rfl (fun ls hl => ?_)
  refine lv_iload_n hx hb dX2_need_25 rfl (lv_at hl 4 rfl) ?_
  refine lv_aload hx hb dX2_need_26 (lv_at hl 0 rfl) ?_
  refine va_get (D := G.1) (ci := 3) (v := .int (v 13)) (C := RX3) (T := TX3) (N := 3) hx hb hts in_X2_need_RX3 hown hK.1 hP 5 rfl rfl 0 (by decide) (hts _ k_X2_need_f185) (fun _ h9 => h9) rfl dX2_need_28 ?_
  refine gcall_I (run_SN (As := [.int (v 13)]) (rest := [.int (nI 0)]) C0 hK hP hD (c_X6_steamOf l G   H.size (v 13)) (va_cnB 1 hts gX2_need_X6_steamOf_n188 rfl rfl rfl hK.2.2.2.2.1 (hts _ (by decide +kernel)) cd2_X6_steamOf ⟨Nat.le_of_ble_eq_true rfl, Nat.le_of_ble_eq_true rfl⟩) (hts _ (by decide +kernel)) [] rfl rfl rfl hl.1 rfl (Nat.le_of_ble_eq_true rfl) dX2_need_31 ⟨Nat.le_of_ble_eq_true rfl, Nat.le_of_ble_eq_true rfl⟩) hP hD hS hA [] rfl rfl (fun _ => rfl) (fun r_2 _ H locs hw_2 hP hD hS => ?_)
  subst hw_2
  have hP : va_P G.1 vwCl (LC G a v q) H := hP
  have hD : va_D A (LC G a v q) := hD
  refine lv_iadd hx hb dX2_need_34 ?_
  refine lv_istore_n (lv' := [(1, .int ((nI 0) + (f_X6_steamOf (v 13)))), (5, .ref (a 5)), (4, .int (nI 0)), (3, .int (nI 4)), (2, .ref (a 4)), (0, .ref (a 0))]) hx hb dX2_need_35 rfl hl (by decide) rfl (fun ls hl => ?_)
  refine lv_iinc (v := (nI 1)) (lv' := [(4, .int (nI 1)), (1, .int ((nI 0) + (f_X6_steamOf (v 13)))), (5, .ref (a 5)), (3, .int (nI 4)), (2, .ref (a 4)), (0, .ref (a 0))]) hx hb dX2_need_36 hl (k := 2) rfl (inc1 0) (by decide) rfl (fun ls hl => ?_)
  refine lv_goto (tgt := 13) hx hb dX2_need_39 (by decide) ?_
  refine lv_iload hx hb dX2_need_13 (lv_at hl 0 rfl) ?_
  refine lv_iload_n hx hb dX2_need_15 rfl (lv_at hl 3 rfl) ?_
  refine lv_icmp_ge (tgt := 42) hx hb dX2_need_16 (by decide) (fun c_3 => absurd c_3 (by decide +kernel)) (fun c_3 => ?_)
  refine lv_aload_n hx hb dX2_need_19 rfl (lv_at hl 4 rfl) ?_
  refine lv_iload hx hb dX2_need_20 (lv_at hl 0 rfl) ?_
  refine n_aald (j := 1) (v := .ref (a 6)) (Cn := "SteamRations$Machine") hx hb hK hP 4 3 rfl rfl (by decide) (by decide) rfl dX2_need_22 ?_
  refine lv_astore (lv' := [(5, .ref (a 6)), (4, .int (nI 1)), (1, .int ((nI 0) + (f_X6_steamOf (v 13)))), (3, .int (nI 4)), (2, .ref (a 4)), (0, .ref (a 0))]) hx hb dX2_need_23 hl (by decide) rfl (fun ls hl => ?_)
  refine lv_iload_n hx hb dX2_need_25 rfl (lv_at hl 2 rfl) ?_
  refine lv_aload hx hb dX2_need_26 (lv_at hl 0 rfl) ?_
  refine va_get (D := G.1) (ci := 3) (v := .int (v 14)) (C := RX3) (T := TX3) (N := 3) hx hb hts in_X2_need_RX3 hown hK.1 hP 6 rfl rfl 0 (by decide) (hts _ k_X2_need_f185) (fun _ h9 => h9) rfl dX2_need_28 ?_
  refine gcall_I (run_SN (As := [.int (v 14)]) (rest := [.int ((nI 0) + (f_X6_steamOf (v 13)))]) C0 hK hP hD (c_X6_steamOf l G   H.size (v 14)) (va_cnB 1 hts gX2_need_X6_steamOf_n188 rfl rfl rfl hK.2.2.2.2.1 (hts _ (by decide +kernel)) cd2_X6_steamOf ⟨Nat.le_of_ble_eq_true rfl, Nat.le_of_ble_eq_true rfl⟩) (hts _ (by decide +kernel)) [] rfl rfl rfl hl.1 rfl (Nat.le_of_ble_eq_true rfl) dX2_need_31 ⟨Nat.le_of_ble_eq_true rfl, Nat.le_of_ble_eq_true rfl⟩) hP hD hS hA [] rfl rfl (fun _ => rfl) (fun r_4 _ H locs hw_4 hP hD hS => ?_)
  subst hw_4
  have hP : va_P G.1 vwCl (LC G a v q) H := hP
  have hD : va_D A (LC G a v q) := hD
  refine lv_iadd hx hb dX2_need_34 ?_
  refine lv_istore_n (lv' := [(1, .int (((nI 0) + (f_X6_steamOf (v 13))) + (f_X6_steamOf (v 14)))), (5, .ref (a 6)), (4, .int (nI 1)), (3, .int (nI 4)), (2, .ref (a 4)), (0, .ref (a 0))]) hx hb dX2_need_35 rfl hl (by decide) rfl (fun ls hl => ?_)
  refine lv_iinc (v := (nI 2)) (lv' := [(4, .int (nI 2)), (1, .int (((nI 0) + (f_X6_steamOf (v 13))) + (f_X6_steamOf (v 14)))), (5, .ref (a 6)), (3, .int (nI 4)), (2, .ref (a 4)), (0, .ref (a 0))]) hx hb dX2_need_36 hl (k := 2) rfl (inc1 1) (by decide) rfl (fun ls hl => ?_)
  refine lv_goto (tgt := 13) hx hb dX2_need_39 (by decide) ?_
  refine lv_iload hx hb dX2_need_13 (lv_at hl 0 rfl) ?_
  refine lv_iload_n hx hb dX2_need_15 rfl (lv_at hl 3 rfl) ?_
  refine lv_icmp_ge (tgt := 42) hx hb dX2_need_16 (by decide) (fun c_5 => absurd c_5 (by decide +kernel)) (fun c_5 => ?_)
  refine lv_aload_n hx hb dX2_need_19 rfl (lv_at hl 4 rfl) ?_
  refine lv_iload hx hb dX2_need_20 (lv_at hl 0 rfl) ?_
  refine n_aald (j := 2) (v := .ref (a 7)) (Cn := "SteamRations$Machine") hx hb hK hP 4 3 rfl rfl (by decide) (by decide) rfl dX2_need_22 ?_
  refine lv_astore (lv' := [(5, .ref (a 7)), (4, .int (nI 2)), (1, .int (((nI 0) + (f_X6_steamOf (v 13))) + (f_X6_steamOf (v 14)))), (3, .int (nI 4)), (2, .ref (a 4)), (0, .ref (a 0))]) hx hb dX2_need_23 hl (by decide) rfl (fun ls hl => ?_)
  refine lv_iload_n hx hb dX2_need_25 rfl (lv_at hl 2 rfl) ?_
  refine lv_aload hx hb dX2_need_26 (lv_at hl 0 rfl) ?_
  refine va_get (D := G.1) (ci := 3) (v := .int (v 15)) (C := RX3) (T := TX3) (N := 3) hx hb hts in_X2_need_RX3 hown hK.1 hP 7 rfl rfl 0 (by decide) (hts _ k_X2_need_f185) (fun _ h9 => h9) rfl dX2_need_28 ?_
  refine gcall_I (run_SN (As := [.int (v 15)]) (rest := [.int (((nI 0) + (f_X6_steamOf (v 13))) + (f_X6_steamOf (v 14)))]) C0 hK hP hD (c_X6_steamOf l G   H.size (v 15)) (va_cnB 1 hts gX2_need_X6_steamOf_n188 rfl rfl rfl hK.2.2.2.2.1 (hts _ (by decide +kernel)) cd2_X6_steamOf ⟨Nat.le_of_ble_eq_true rfl, Nat.le_of_ble_eq_true rfl⟩) (hts _ (by decide +kernel)) [] rfl rfl rfl hl.1 rfl (Nat.le_of_ble_eq_true rfl) dX2_need_31 ⟨Nat.le_of_ble_eq_true rfl, Nat.le_of_ble_eq_true rfl⟩) hP hD hS hA [] rfl rfl (fun _ => rfl) (fun r_6 _ H locs hw_6 hP hD hS => ?_)
  subst hw_6
  have hP : va_P G.1 vwCl (LC G a v q) H := hP
  have hD : va_D A (LC G a v q) := hD
  refine lv_iadd hx hb dX2_need_34 ?_
  refine lv_istore_n (lv' := [(1, .int ((((nI 0) + (f_X6_steamOf (v 13))) + (f_X6_steamOf (v 14))) + (f_X6_steamOf (v 15)))), (5, .ref (a 7)), (4, .int (nI 2)), (3, .int (nI 4)), (2, .ref (a 4)), (0, .ref (a 0))]) hx hb dX2_need_35 rfl hl (by decide) rfl (fun ls hl => ?_)
  refine lv_iinc (v := (nI 3)) (lv' := [(4, .int (nI 3)), (1, .int ((((nI 0) + (f_X6_steamOf (v 13))) + (f_X6_steamOf (v 14))) + (f_X6_steamOf (v 15)))), (5, .ref (a 7)), (3, .int (nI 4)), (2, .ref (a 4)), (0, .ref (a 0))]) hx hb dX2_need_36 hl (k := 2) rfl (inc1 2) (by decide) rfl (fun ls hl => ?_)
  refine lv_goto (tgt := 13) hx hb dX2_need_39 (by decide) ?_
  refine lv_iload hx hb dX2_need_13 (lv_at hl 0 rfl) ?_
  refine lv_iload_n hx hb dX2_need_15 rfl (lv_at hl 3 rfl) ?_
  refine lv_icmp_ge (tgt := 42) hx hb dX2_need_16 (by decide) (fun c_7 => absurd c_7 (by decide +kernel)) (fun c_7 => ?_)
  refine lv_aload_n hx hb dX2_need_19 rfl (lv_at hl 4 rfl) ?_
  refine lv_iload hx hb dX2_need_20 (lv_at hl 0 rfl) ?_
  refine n_aald (j := 3) (v := .ref (a 8)) (Cn := "SteamRations$Machine") hx hb hK hP 4 3 rfl rfl (by decide) (by decide) rfl dX2_need_22 ?_
  refine lv_astore (lv' := [(5, .ref (a 8)), (4, .int (nI 3)), (1, .int ((((nI 0) + (f_X6_steamOf (v 13))) + (f_X6_steamOf (v 14))) + (f_X6_steamOf (v 15)))), (3, .int (nI 4)), (2, .ref (a 4)), (0, .ref (a 0))]) hx hb dX2_need_23 hl (by decide) rfl (fun ls hl => ?_)
  refine lv_iload_n hx hb dX2_need_25 rfl (lv_at hl 2 rfl) ?_
  refine lv_aload hx hb dX2_need_26 (lv_at hl 0 rfl) ?_
  refine va_get (D := G.1) (ci := 3) (v := .int (v 16)) (C := RX3) (T := TX3) (N := 3) hx hb hts in_X2_need_RX3 hown hK.1 hP 8 rfl rfl 0 (by decide) (hts _ k_X2_need_f185) (fun _ h9 => h9) rfl dX2_need_28 ?_
  refine gcall_I (run_SN (As := [.int (v 16)]) (rest := [.int ((((nI 0) + (f_X6_steamOf (v 13))) + (f_X6_steamOf (v 14))) + (f_X6_steamOf (v 15)))]) C0 hK hP hD (c_X6_steamOf l G   H.size (v 16)) (va_cnB 1 hts gX2_need_X6_steamOf_n188 rfl rfl rfl hK.2.2.2.2.1 (hts _ (by decide +kernel)) cd2_X6_steamOf ⟨Nat.le_of_ble_eq_true rfl, Nat.le_of_ble_eq_true rfl⟩) (hts _ (by decide +kernel)) [] rfl rfl rfl hl.1 rfl (Nat.le_of_ble_eq_true rfl) dX2_need_31 ⟨Nat.le_of_ble_eq_true rfl, Nat.le_of_ble_eq_true rfl⟩) hP hD hS hA [] rfl rfl (fun _ => rfl) (fun r_8 _ H locs hw_8 hP hD hS => ?_)
  subst hw_8
  have hP : va_P G.1 vwCl (LC G a v q) H := hP
  have hD : va_D A (LC G a v q) := hD
  refine lv_iadd hx hb dX2_need_34 ?_
  refine lv_istore_n (lv' := [(1, .int (((((nI 0) + (f_X6_steamOf (v 13))) + (f_X6_steamOf (v 14))) + (f_X6_steamOf (v 15))) + (f_X6_steamOf (v 16)))), (5, .ref (a 8)), (4, .int (nI 3)), (3, .int (nI 4)), (2, .ref (a 4)), (0, .ref (a 0))]) hx hb dX2_need_35 rfl hl (by decide) rfl (fun ls hl => ?_)
  refine lv_iinc (v := (nI 4)) (lv' := [(4, .int (nI 4)), (1, .int (((((nI 0) + (f_X6_steamOf (v 13))) + (f_X6_steamOf (v 14))) + (f_X6_steamOf (v 15))) + (f_X6_steamOf (v 16)))), (5, .ref (a 8)), (3, .int (nI 4)), (2, .ref (a 4)), (0, .ref (a 0))]) hx hb dX2_need_36 hl (k := 2) rfl (inc1 3) (by decide) rfl (fun ls hl => ?_)
  refine lv_goto (tgt := 13) hx hb dX2_need_39 (by decide) ?_
  refine lv_iload hx hb dX2_need_13 (lv_at hl 0 rfl) ?_
  refine lv_iload_n hx hb dX2_need_15 rfl (lv_at hl 3 rfl) ?_
  refine lv_icmp_ge (tgt := 42) hx hb dX2_need_16 (by decide) (fun c_9 => ?_) (fun c_9 => absurd (by decide +kernel) c_9)
  refine lv_iload_n hx hb dX2_need_42 rfl (lv_at hl 1 rfl) ?_
  exact end_I C0 hP hD hS () (by simp only [f_X2_need]) rfl dX2_need_43

def f_X2_changeFire (v : (Nat → Int32)) (p0 : Int32) (p1 : Int32) : Int32 × (Nat → Int32) :=
  if p0 = nI 0 then
    if (f_X6_isWithin p1 (nI 0) (nI 5)) = 0 then
      ((-2), v)
    else
      if (v 6) ≤ 0 then
        if (v 0) = p1 then
          ((-5), v)
        else
          ((v 0), (upd v 0 p1))
      else
        ((-4), v)
  else
    if p0 = nI 1 then
      if (f_X6_isWithin p1 (nI 0) (nI 5)) = 0 then
        ((-2), v)
      else
        if (v 7) ≤ 0 then
          if (v 1) = p1 then
            ((-5), v)
          else
            ((v 1), (upd v 1 p1))
        else
          ((-4), v)
    else
      ((-1), v)
set_option maxRecDepth 20000 in
theorem k_X2_changeFire_f104 : Cond.fieldLink RX2 104 "SteamRations$Boiler" "stopLeft" "I" ∈ wsX2_changeFire := by decide +kernel
set_option maxRecDepth 20000 in
theorem k_X2_changeFire_f107 : Cond.fieldLink RX2 107 "SteamRations$Boiler" "fire" "I" ∈ wsX2_changeFire := by decide +kernel
set_option maxRecDepth 20000 in
theorem in_X2_changeFire_RX0 : ∀ w ∈ u_ws RX0 TX0 5, w ∈ wsX2_changeFire := by decide +kernel
theorem cd_X2_changeFire : yX2_changeFire.cls = RX2 ∧ yX2_changeFire.cls ≠ "java/lang/invoke/MethodHandle" ∧ yX2_changeFire.cls ≠ "java/lang/invoke/VarHandle" ∧ (parseMethodDescriptor yX2_changeFire.desc).map (fun d => d.parameters.length) = some 2 := by decide +kernel
set_option maxHeartbeats 4000000 in
set_option maxRecDepth 100000 in
theorem c_X2_changeFire (l : Launch) (G : GG) (a : Nat → Nat) (v : (Nat → Int32)) (q : (Nat → Int32)) (sz : Nat) (p0 : Int32) (p1 : Int32)  : Met l yX2_changeFire wsX2_changeFire ({ frames := 1, cells := 0, slots := 0, locals := 22 }) (Pre G [.ref (a 0), .int p0, .int p1] (LC G a v q) sz) (PI G (va_A (LC G a v q) sz) (fun r (u : (Nat → Int32)) => f_X2_changeFire v p0 p1 = (r, u)) (fun u : (Nat → Int32) => LC G a u q)) 0 0 (va_A (LC G a v q) sz) := by
  refine Met.walk (cc := cX2_changeFire) (maxL := 5) (ret := (some .int)) (Qc := fun A => PI G A (fun r (u : (Nat → Int32)) => f_X2_changeFire v p0 p1 = (r, u)) (fun u : (Nat → Int32) => LC G a u q)) (by decide) rfl (Nat.le_of_ble_eq_true rfl) ?_
  intro p e s m below meth c A H C0 _ hK hsz hP hD hA hS ls hl
  have hx := C0.1
  have hb := C0.2.1
  have hown : s.vm.findClass RX2 = some m.cls := C0.2.2.2.2.1
  have hml := C0.2.2.2.1
  have hts : ∀ w ∈ wsX2_changeFire, w.before [.ref (a 0), .int p0, .int p1].toArray s = true := C0.2.2.2.2.2.1
  have hl : lv_has ls 5 [(0, .ref (a 0)), (1, .int p0), (2, .int p1)] := hl
  refine lv_aload_n hx hb dX2_changeFire_0 rfl (lv_at hl 0 rfl) ?_
  refine lv_iload_n hx hb dX2_changeFire_1 rfl (lv_at hl 1 rfl) ?_
  refine gcall_Q (run_V (As := [.int p0]) (rest := []) C0 hK hP hD (c_X2_boilerAt l G a v q H.size p0) (cwV 1 hts gX2_changeFire_X2_boilerAt rfl rfl rfl cd_X2_boilerAt ⟨Nat.le_of_ble_eq_true rfl, Nat.le_of_ble_eq_true rfl⟩) [0, 1, 2, 3, 4, 5, 6, 7, 8, 9, 10] rfl rfl 0 (ci := 2) rfl rfl rfl rfl hl.1 rfl (Nat.le_of_ble_eq_true rfl) dX2_changeFire_2 ⟨Nat.le_of_ble_eq_true rfl, Nat.le_of_ble_eq_true rfl⟩) hP hD hS hA [0, 1, 2, 3, 4, 5, 6, 7, 8, 9, 10] rfl rfl (fun _ => rfl) (fun r_1 _ H locs hw_1 hP hD hS => ?_)
  subst hw_1
  have hP : va_P G.1 vwCl (LC G a v q) H := hP
  have hD : va_D A (LC G a v q) := hD
  by_cases c_2 : p0 = nI 0
  · rw [show f_X2_boilerAt a p0 = some (a 2) from by (rw [c_2]; rfl)]
    refine W.eq (g2 := F0 m 5 ls ([.ref (a 2)])) rfl ?_
    refine lv_astore_n (lv' := [(3, .ref (a 2)), (0, .ref (a 0)), (1, .int p0), (2, .int p1)]) hx hb dX2_changeFire_5 rfl hl (by decide) rfl (fun ls hl => ?_)
    refine lv_aload_n hx hb dX2_changeFire_6 rfl (lv_at hl 0 rfl) ?_
    refine lv_ifnonnull (tgt := 12) hx hb dX2_changeFire_7 (by decide) ?_
    refine lv_iload_n hx hb dX2_changeFire_12 rfl (lv_at hl 3 rfl) ?_
    refine lv_iconst (v := (nI 0)) hx hb dX2_changeFire_13 (by decide) ?_
    refine lv_iconst (v := (nI 5)) hx hb dX2_changeFire_14 (by decide) ?_
    refine gcall_I (run_SN (As := [.int p1, .int (nI 0), .int (nI 5)]) (rest := []) C0 hK hP hD (c_X6_isWithin l G   H.size p1 (nI 0) (nI 5)) (va_cnB 3 hts gX2_changeFire_X6_isWithin_n100 rfl rfl rfl hK.2.1 (hts _ (by decide +kernel)) cd2_X6_isWithin ⟨Nat.le_of_ble_eq_true rfl, Nat.le_of_ble_eq_true rfl⟩) (hts _ (by decide +kernel)) [] rfl rfl rfl hl.1 rfl (Nat.le_of_ble_eq_true rfl) dX2_changeFire_15 ⟨Nat.le_of_ble_eq_true rfl, Nat.le_of_ble_eq_true rfl⟩) hP hD hS hA [] rfl rfl (fun _ => rfl) (fun r_3 _ H locs hw_3 hP hD hS => ?_)
    have hz_r_3 := hw_3.2
    have hw_3 := hw_3.1
    subst hw_3
    have hP : va_P G.1 vwCl (LC G a v q) H := hP
    have hD : va_D A (LC G a v q) := hD
    refine lv_if_ne (tgt := 24) hx hb dX2_changeFire_18 (by decide) (fun c_4 => ?_) (fun c_4 => ?_)
    · refine lv_aload_n hx hb dX2_changeFire_24 rfl (lv_at hl 0 rfl) ?_
      refine va_get (D := G.1) (ci := 0) (v := .int (v 6)) (C := RX0) (T := TX0) (N := 5) hx hb hts in_X2_changeFire_RX0 hown hK.1 hP 2 rfl rfl 3 (by decide) (hts _ k_X2_changeFire_f104) (fun _ h9 => h9) rfl dX2_changeFire_25 ?_
      refine lv_if_le (tgt := 34) hx hb dX2_changeFire_28 (by decide) (fun c_5 => ?_) (fun c_5 => ?_)
      · refine lv_aload_n hx hb dX2_changeFire_34 rfl (lv_at hl 0 rfl) ?_
        refine va_get (D := G.1) (ci := 0) (v := .int (v 0)) (C := RX0) (T := TX0) (N := 5) hx hb hts in_X2_changeFire_RX0 hown hK.1 hP 2 rfl rfl 0 (by decide) (hts _ k_X2_changeFire_f107) (fun _ h9 => h9) rfl dX2_changeFire_35 ?_
        refine lv_iload_n hx hb dX2_changeFire_38 rfl (lv_at hl 3 rfl) ?_
        refine lv_icmp_ne (tgt := 45) hx hb dX2_changeFire_39 (by decide) (fun c_6 => ?_) (fun c_6 => ?_)
        · refine lv_aload_n hx hb dX2_changeFire_45 rfl (lv_at hl 0 rfl) ?_
          refine va_get (D := G.1) (ci := 0) (v := .int (v 0)) (C := RX0) (T := TX0) (N := 5) hx hb hts in_X2_changeFire_RX0 hown hK.1 hP 2 rfl rfl 0 (by decide) (hts _ k_X2_changeFire_f107) (fun _ h9 => h9) rfl dX2_changeFire_46 ?_
          refine lv_istore (lv' := [(4, .int (v 0)), (3, .ref (a 2)), (0, .ref (a 0)), (1, .int p0), (2, .int p1)]) hx hb dX2_changeFire_49 hl (by decide) rfl (fun ls hl => ?_)
          refine lv_aload_n hx hb dX2_changeFire_51 rfl (lv_at hl 1 rfl) ?_
          refine lv_iload_n hx hb dX2_changeFire_52 rfl (lv_at hl 4 rfl) ?_
          refine va_put (D := G.1) (ci := 0) (v := .int p1) (ty := .int) (C := RX0) (T := TX0) (N := 5) hx hb hts in_X2_changeFire_RX0 tyX0 tyX0_ok nmX0 hown hK.1 hP hD hS 2 rfl rfl 0 (by decide) (hts _ k_X2_changeFire_f107) (fun _ h9 => h9) rfl (by decide +kernel) rfl rfl (Nat.le_of_ble_eq_true rfl) dX2_changeFire_53 (fun H locs hP hD hS => ?_)
          have hP : va_P G.1 vwCl (LC G a (upd v 0 p1) q) H := hP
          have hD : va_D A (LC G a (upd v 0 p1) q) := hD
          refine lv_iload hx hb dX2_changeFire_56 (lv_at hl 0 rfl) ?_
          exact end_I C0 hP hD hS (upd v 0 p1) (by simp only [f_X2_changeFire, if_pos c_2, if_neg c_4, if_pos c_5, if_neg c_6]) rfl dX2_changeFire_58
        · refine lv_bipush (v := (-5)) hx hb dX2_changeFire_42 (by decide) ?_
          exact end_I C0 hP hD hS v (by simp only [f_X2_changeFire, if_pos c_2, if_neg c_4, if_pos c_5, if_pos c_6]) rfl dX2_changeFire_44
      · refine lv_bipush (v := (-4)) hx hb dX2_changeFire_31 (by decide) ?_
        exact end_I C0 hP hD hS v (by simp only [f_X2_changeFire, if_pos c_2, if_neg c_4, if_neg c_5]) rfl dX2_changeFire_33
    · refine lv_bipush (v := (-2)) hx hb dX2_changeFire_21 (by decide) ?_
      exact end_I C0 hP hD hS v (by simp only [f_X2_changeFire, if_pos c_2, if_pos c_4]) rfl dX2_changeFire_23
  · by_cases c_7 : p0 = nI 1
    · rw [show f_X2_boilerAt a p0 = some (a 3) from by (rw [c_7]; rfl)]
      refine W.eq (g2 := F0 m 5 ls ([.ref (a 3)])) rfl ?_
      refine lv_astore_n (lv' := [(3, .ref (a 3)), (0, .ref (a 0)), (1, .int p0), (2, .int p1)]) hx hb dX2_changeFire_5 rfl hl (by decide) rfl (fun ls hl => ?_)
      refine lv_aload_n hx hb dX2_changeFire_6 rfl (lv_at hl 0 rfl) ?_
      refine lv_ifnonnull (tgt := 12) hx hb dX2_changeFire_7 (by decide) ?_
      refine lv_iload_n hx hb dX2_changeFire_12 rfl (lv_at hl 3 rfl) ?_
      refine lv_iconst (v := (nI 0)) hx hb dX2_changeFire_13 (by decide) ?_
      refine lv_iconst (v := (nI 5)) hx hb dX2_changeFire_14 (by decide) ?_
      refine gcall_I (run_SN (As := [.int p1, .int (nI 0), .int (nI 5)]) (rest := []) C0 hK hP hD (c_X6_isWithin l G   H.size p1 (nI 0) (nI 5)) (va_cnB 3 hts gX2_changeFire_X6_isWithin_n100 rfl rfl rfl hK.2.1 (hts _ (by decide +kernel)) cd2_X6_isWithin ⟨Nat.le_of_ble_eq_true rfl, Nat.le_of_ble_eq_true rfl⟩) (hts _ (by decide +kernel)) [] rfl rfl rfl hl.1 rfl (Nat.le_of_ble_eq_true rfl) dX2_changeFire_15 ⟨Nat.le_of_ble_eq_true rfl, Nat.le_of_ble_eq_true rfl⟩) hP hD hS hA [] rfl rfl (fun _ => rfl) (fun r_8 _ H locs hw_8 hP hD hS => ?_)
      have hz_r_8 := hw_8.2
      have hw_8 := hw_8.1
      subst hw_8
      have hP : va_P G.1 vwCl (LC G a v q) H := hP
      have hD : va_D A (LC G a v q) := hD
      refine lv_if_ne (tgt := 24) hx hb dX2_changeFire_18 (by decide) (fun c_9 => ?_) (fun c_9 => ?_)
      · refine lv_aload_n hx hb dX2_changeFire_24 rfl (lv_at hl 0 rfl) ?_
        refine va_get (D := G.1) (ci := 0) (v := .int (v 7)) (C := RX0) (T := TX0) (N := 5) hx hb hts in_X2_changeFire_RX0 hown hK.1 hP 3 rfl rfl 3 (by decide) (hts _ k_X2_changeFire_f104) (fun _ h9 => h9) rfl dX2_changeFire_25 ?_
        refine lv_if_le (tgt := 34) hx hb dX2_changeFire_28 (by decide) (fun c_10 => ?_) (fun c_10 => ?_)
        · refine lv_aload_n hx hb dX2_changeFire_34 rfl (lv_at hl 0 rfl) ?_
          refine va_get (D := G.1) (ci := 0) (v := .int (v 1)) (C := RX0) (T := TX0) (N := 5) hx hb hts in_X2_changeFire_RX0 hown hK.1 hP 3 rfl rfl 0 (by decide) (hts _ k_X2_changeFire_f107) (fun _ h9 => h9) rfl dX2_changeFire_35 ?_
          refine lv_iload_n hx hb dX2_changeFire_38 rfl (lv_at hl 3 rfl) ?_
          refine lv_icmp_ne (tgt := 45) hx hb dX2_changeFire_39 (by decide) (fun c_11 => ?_) (fun c_11 => ?_)
          · refine lv_aload_n hx hb dX2_changeFire_45 rfl (lv_at hl 0 rfl) ?_
            refine va_get (D := G.1) (ci := 0) (v := .int (v 1)) (C := RX0) (T := TX0) (N := 5) hx hb hts in_X2_changeFire_RX0 hown hK.1 hP 3 rfl rfl 0 (by decide) (hts _ k_X2_changeFire_f107) (fun _ h9 => h9) rfl dX2_changeFire_46 ?_
            refine lv_istore (lv' := [(4, .int (v 1)), (3, .ref (a 3)), (0, .ref (a 0)), (1, .int p0), (2, .int p1)]) hx hb dX2_changeFire_49 hl (by decide) rfl (fun ls hl => ?_)
            refine lv_aload_n hx hb dX2_changeFire_51 rfl (lv_at hl 1 rfl) ?_
            refine lv_iload_n hx hb dX2_changeFire_52 rfl (lv_at hl 4 rfl) ?_
            refine va_put (D := G.1) (ci := 0) (v := .int p1) (ty := .int) (C := RX0) (T := TX0) (N := 5) hx hb hts in_X2_changeFire_RX0 tyX0 tyX0_ok nmX0 hown hK.1 hP hD hS 3 rfl rfl 0 (by decide) (hts _ k_X2_changeFire_f107) (fun _ h9 => h9) rfl (by decide +kernel) rfl rfl (Nat.le_of_ble_eq_true rfl) dX2_changeFire_53 (fun H locs hP hD hS => ?_)
            have hP : va_P G.1 vwCl (LC G a (upd v 1 p1) q) H := hP
            have hD : va_D A (LC G a (upd v 1 p1) q) := hD
            refine lv_iload hx hb dX2_changeFire_56 (lv_at hl 0 rfl) ?_
            exact end_I C0 hP hD hS (upd v 1 p1) (by simp only [f_X2_changeFire, if_neg c_2, if_pos c_7, if_neg c_9, if_pos c_10, if_neg c_11]) rfl dX2_changeFire_58
          · refine lv_bipush (v := (-5)) hx hb dX2_changeFire_42 (by decide) ?_
            exact end_I C0 hP hD hS v (by simp only [f_X2_changeFire, if_neg c_2, if_pos c_7, if_neg c_9, if_pos c_10, if_pos c_11]) rfl dX2_changeFire_44
        · refine lv_bipush (v := (-4)) hx hb dX2_changeFire_31 (by decide) ?_
          exact end_I C0 hP hD hS v (by simp only [f_X2_changeFire, if_neg c_2, if_pos c_7, if_neg c_9, if_neg c_10]) rfl dX2_changeFire_33
      · refine lv_bipush (v := (-2)) hx hb dX2_changeFire_21 (by decide) ?_
        exact end_I C0 hP hD hS v (by simp only [f_X2_changeFire, if_neg c_2, if_pos c_7, if_pos c_9]) rfl dX2_changeFire_23
    · rw [show f_X2_boilerAt a p0 = none from by (exact f_X2_boilerAt_none c_2 c_7)]
      refine W.eq (g2 := F0 m 5 ls ([.null])) rfl ?_
      refine lv_astore_nN (lv' := [(3, .null), (0, .ref (a 0)), (1, .int p0), (2, .int p1)]) hx hb dX2_changeFire_5 rfl hl (by decide) rfl (fun ls hl => ?_)
      refine lv_aload_nN hx hb dX2_changeFire_6 rfl (lv_at hl 0 rfl) ?_
      refine lv_ifnonnullN hx hb dX2_changeFire_7 ?_
      refine lv_iconst (v := (-1)) hx hb dX2_changeFire_10 (by decide) ?_
      exact end_I C0 hP hD hS v (by simp only [f_X2_changeFire, if_neg c_2, if_neg c_7]) rfl dX2_changeFire_11

def f_X2_letWaterIn (v : (Nat → Int32)) (p0 : Int32) (p1 : Int32) : Int32 × (Nat → Int32) :=
  if p0 = nI 0 then
    if (f_X6_isWithin p1 (nI 1) (nI 200)) = 0 then
      ((-2), v)
    else
      if ((v 2) + p1) ≤ (nI 200) then
        (((v 2) + p1), (upd v 2 ((v 2) + p1)))
      else
        ((-3), v)
  else
    if p0 = nI 1 then
      if (f_X6_isWithin p1 (nI 1) (nI 200)) = 0 then
        ((-2), v)
      else
        if ((v 3) + p1) ≤ (nI 200) then
          (((v 3) + p1), (upd v 3 ((v 3) + p1)))
        else
          ((-3), v)
    else
      ((-1), v)
set_option maxRecDepth 20000 in
theorem k_X2_letWaterIn_f110 : Cond.fieldLink RX2 110 "SteamRations$Boiler" "water" "I" ∈ wsX2_letWaterIn := by decide +kernel
set_option maxRecDepth 20000 in
theorem in_X2_letWaterIn_RX0 : ∀ w ∈ u_ws RX0 TX0 5, w ∈ wsX2_letWaterIn := by decide +kernel
theorem cd_X2_letWaterIn : yX2_letWaterIn.cls = RX2 ∧ yX2_letWaterIn.cls ≠ "java/lang/invoke/MethodHandle" ∧ yX2_letWaterIn.cls ≠ "java/lang/invoke/VarHandle" ∧ (parseMethodDescriptor yX2_letWaterIn.desc).map (fun d => d.parameters.length) = some 2 := by decide +kernel
set_option maxHeartbeats 4000000 in
set_option maxRecDepth 100000 in
theorem c_X2_letWaterIn (l : Launch) (G : GG) (a : Nat → Nat) (v : (Nat → Int32)) (q : (Nat → Int32)) (sz : Nat) (p0 : Int32) (p1 : Int32)  : Met l yX2_letWaterIn wsX2_letWaterIn ({ frames := 1, cells := 0, slots := 0, locals := 22 }) (Pre G [.ref (a 0), .int p0, .int p1] (LC G a v q) sz) (PI G (va_A (LC G a v q) sz) (fun r (u : (Nat → Int32)) => f_X2_letWaterIn v p0 p1 = (r, u)) (fun u : (Nat → Int32) => LC G a u q)) 0 0 (va_A (LC G a v q) sz) := by
  refine Met.walk (cc := cX2_letWaterIn) (maxL := 4) (ret := (some .int)) (Qc := fun A => PI G A (fun r (u : (Nat → Int32)) => f_X2_letWaterIn v p0 p1 = (r, u)) (fun u : (Nat → Int32) => LC G a u q)) (by decide) rfl (Nat.le_of_ble_eq_true rfl) ?_
  intro p e s m below meth c A H C0 _ hK hsz hP hD hA hS ls hl
  have hx := C0.1
  have hb := C0.2.1
  have hown : s.vm.findClass RX2 = some m.cls := C0.2.2.2.2.1
  have hml := C0.2.2.2.1
  have hts : ∀ w ∈ wsX2_letWaterIn, w.before [.ref (a 0), .int p0, .int p1].toArray s = true := C0.2.2.2.2.2.1
  have hl : lv_has ls 4 [(0, .ref (a 0)), (1, .int p0), (2, .int p1)] := hl
  refine lv_aload_n hx hb dX2_letWaterIn_0 rfl (lv_at hl 0 rfl) ?_
  refine lv_iload_n hx hb dX2_letWaterIn_1 rfl (lv_at hl 1 rfl) ?_
  refine gcall_Q (run_V (As := [.int p0]) (rest := []) C0 hK hP hD (c_X2_boilerAt l G a v q H.size p0) (cwV 1 hts gX2_letWaterIn_X2_boilerAt rfl rfl rfl cd_X2_boilerAt ⟨Nat.le_of_ble_eq_true rfl, Nat.le_of_ble_eq_true rfl⟩) [0, 1, 2, 3, 4, 5, 6, 7, 8, 9, 10] rfl rfl 0 (ci := 2) rfl rfl rfl rfl hl.1 rfl (Nat.le_of_ble_eq_true rfl) dX2_letWaterIn_2 ⟨Nat.le_of_ble_eq_true rfl, Nat.le_of_ble_eq_true rfl⟩) hP hD hS hA [0, 1, 2, 3, 4, 5, 6, 7, 8, 9, 10] rfl rfl (fun _ => rfl) (fun r_1 _ H locs hw_1 hP hD hS => ?_)
  subst hw_1
  have hP : va_P G.1 vwCl (LC G a v q) H := hP
  have hD : va_D A (LC G a v q) := hD
  by_cases c_2 : p0 = nI 0
  · rw [show f_X2_boilerAt a p0 = some (a 2) from by (rw [c_2]; rfl)]
    refine W.eq (g2 := F0 m 5 ls ([.ref (a 2)])) rfl ?_
    refine lv_astore_n (lv' := [(3, .ref (a 2)), (0, .ref (a 0)), (1, .int p0), (2, .int p1)]) hx hb dX2_letWaterIn_5 rfl hl (by decide) rfl (fun ls hl => ?_)
    refine lv_aload_n hx hb dX2_letWaterIn_6 rfl (lv_at hl 0 rfl) ?_
    refine lv_ifnonnull (tgt := 12) hx hb dX2_letWaterIn_7 (by decide) ?_
    refine lv_iload_n hx hb dX2_letWaterIn_12 rfl (lv_at hl 3 rfl) ?_
    refine lv_iconst (v := (nI 1)) hx hb dX2_letWaterIn_13 (by decide) ?_
    refine lv_sipush (v := (nI 200)) hx hb dX2_letWaterIn_14 (by decide) ?_
    refine gcall_I (run_SN (As := [.int p1, .int (nI 1), .int (nI 200)]) (rest := []) C0 hK hP hD (c_X6_isWithin l G   H.size p1 (nI 1) (nI 200)) (va_cnB 3 hts gX2_letWaterIn_X6_isWithin_n100 rfl rfl rfl hK.2.1 (hts _ (by decide +kernel)) cd2_X6_isWithin ⟨Nat.le_of_ble_eq_true rfl, Nat.le_of_ble_eq_true rfl⟩) (hts _ (by decide +kernel)) [] rfl rfl rfl hl.1 rfl (Nat.le_of_ble_eq_true rfl) dX2_letWaterIn_17 ⟨Nat.le_of_ble_eq_true rfl, Nat.le_of_ble_eq_true rfl⟩) hP hD hS hA [] rfl rfl (fun _ => rfl) (fun r_3 _ H locs hw_3 hP hD hS => ?_)
    have hz_r_3 := hw_3.2
    have hw_3 := hw_3.1
    subst hw_3
    have hP : va_P G.1 vwCl (LC G a v q) H := hP
    have hD : va_D A (LC G a v q) := hD
    refine lv_if_ne (tgt := 26) hx hb dX2_letWaterIn_20 (by decide) (fun c_4 => ?_) (fun c_4 => ?_)
    · refine lv_aload_n hx hb dX2_letWaterIn_26 rfl (lv_at hl 0 rfl) ?_
      refine va_get (D := G.1) (ci := 0) (v := .int (v 2)) (C := RX0) (T := TX0) (N := 5) hx hb hts in_X2_letWaterIn_RX0 hown hK.1 hP 2 rfl rfl 1 (by decide) (hts _ k_X2_letWaterIn_f110) (fun _ h9 => h9) rfl dX2_letWaterIn_27 ?_
      refine lv_iload_n hx hb dX2_letWaterIn_30 rfl (lv_at hl 3 rfl) ?_
      refine lv_iadd hx hb dX2_letWaterIn_31 ?_
      refine lv_sipush (v := (nI 200)) hx hb dX2_letWaterIn_32 (by decide) ?_
      refine lv_icmp_le (tgt := 41) hx hb dX2_letWaterIn_35 (by decide) (fun c_5 => ?_) (fun c_5 => ?_)
      · refine lv_aload_n hx hb dX2_letWaterIn_41 rfl (lv_at hl 0 rfl) ?_
        refine lv_dup hx hb dX2_letWaterIn_42 rfl ?_
        refine va_get (D := G.1) (ci := 0) (v := .int (v 2)) (C := RX0) (T := TX0) (N := 5) hx hb hts in_X2_letWaterIn_RX0 hown hK.1 hP 2 rfl rfl 1 (by decide) (hts _ k_X2_letWaterIn_f110) (fun _ h9 => h9) rfl dX2_letWaterIn_43 ?_
        refine lv_iload_n hx hb dX2_letWaterIn_46 rfl (lv_at hl 3 rfl) ?_
        refine lv_iadd hx hb dX2_letWaterIn_47 ?_
        refine va_put (D := G.1) (ci := 0) (v := .int ((v 2) + p1)) (ty := .int) (C := RX0) (T := TX0) (N := 5) hx hb hts in_X2_letWaterIn_RX0 tyX0 tyX0_ok nmX0 hown hK.1 hP hD hS 2 rfl rfl 1 (by decide) (hts _ k_X2_letWaterIn_f110) (fun _ h9 => h9) rfl (by decide +kernel) rfl rfl (Nat.le_of_ble_eq_true rfl) dX2_letWaterIn_48 (fun H locs hP hD hS => ?_)
        have hP : va_P G.1 vwCl (LC G a (upd v 2 ((v 2) + p1)) q) H := hP
        have hD : va_D A (LC G a (upd v 2 ((v 2) + p1)) q) := hD
        refine lv_aload_n hx hb dX2_letWaterIn_51 rfl (lv_at hl 0 rfl) ?_
        refine va_get (D := G.1) (ci := 0) (v := .int ((v 2) + p1)) (C := RX0) (T := TX0) (N := 5) hx hb hts in_X2_letWaterIn_RX0 hown hK.1 hP 2 rfl rfl 1 (by decide) (hts _ k_X2_letWaterIn_f110) (fun _ h9 => h9) rfl dX2_letWaterIn_52 ?_
        exact end_I C0 hP hD hS (upd v 2 ((v 2) + p1)) (by simp only [f_X2_letWaterIn, if_pos c_2, if_neg c_4, if_pos c_5]) rfl dX2_letWaterIn_55
      · refine lv_bipush (v := (-3)) hx hb dX2_letWaterIn_38 (by decide) ?_
        exact end_I C0 hP hD hS v (by simp only [f_X2_letWaterIn, if_pos c_2, if_neg c_4, if_neg c_5]) rfl dX2_letWaterIn_40
    · refine lv_bipush (v := (-2)) hx hb dX2_letWaterIn_23 (by decide) ?_
      exact end_I C0 hP hD hS v (by simp only [f_X2_letWaterIn, if_pos c_2, if_pos c_4]) rfl dX2_letWaterIn_25
  · by_cases c_6 : p0 = nI 1
    · rw [show f_X2_boilerAt a p0 = some (a 3) from by (rw [c_6]; rfl)]
      refine W.eq (g2 := F0 m 5 ls ([.ref (a 3)])) rfl ?_
      refine lv_astore_n (lv' := [(3, .ref (a 3)), (0, .ref (a 0)), (1, .int p0), (2, .int p1)]) hx hb dX2_letWaterIn_5 rfl hl (by decide) rfl (fun ls hl => ?_)
      refine lv_aload_n hx hb dX2_letWaterIn_6 rfl (lv_at hl 0 rfl) ?_
      refine lv_ifnonnull (tgt := 12) hx hb dX2_letWaterIn_7 (by decide) ?_
      refine lv_iload_n hx hb dX2_letWaterIn_12 rfl (lv_at hl 3 rfl) ?_
      refine lv_iconst (v := (nI 1)) hx hb dX2_letWaterIn_13 (by decide) ?_
      refine lv_sipush (v := (nI 200)) hx hb dX2_letWaterIn_14 (by decide) ?_
      refine gcall_I (run_SN (As := [.int p1, .int (nI 1), .int (nI 200)]) (rest := []) C0 hK hP hD (c_X6_isWithin l G   H.size p1 (nI 1) (nI 200)) (va_cnB 3 hts gX2_letWaterIn_X6_isWithin_n100 rfl rfl rfl hK.2.1 (hts _ (by decide +kernel)) cd2_X6_isWithin ⟨Nat.le_of_ble_eq_true rfl, Nat.le_of_ble_eq_true rfl⟩) (hts _ (by decide +kernel)) [] rfl rfl rfl hl.1 rfl (Nat.le_of_ble_eq_true rfl) dX2_letWaterIn_17 ⟨Nat.le_of_ble_eq_true rfl, Nat.le_of_ble_eq_true rfl⟩) hP hD hS hA [] rfl rfl (fun _ => rfl) (fun r_7 _ H locs hw_7 hP hD hS => ?_)
      have hz_r_7 := hw_7.2
      have hw_7 := hw_7.1
      subst hw_7
      have hP : va_P G.1 vwCl (LC G a v q) H := hP
      have hD : va_D A (LC G a v q) := hD
      refine lv_if_ne (tgt := 26) hx hb dX2_letWaterIn_20 (by decide) (fun c_8 => ?_) (fun c_8 => ?_)
      · refine lv_aload_n hx hb dX2_letWaterIn_26 rfl (lv_at hl 0 rfl) ?_
        refine va_get (D := G.1) (ci := 0) (v := .int (v 3)) (C := RX0) (T := TX0) (N := 5) hx hb hts in_X2_letWaterIn_RX0 hown hK.1 hP 3 rfl rfl 1 (by decide) (hts _ k_X2_letWaterIn_f110) (fun _ h9 => h9) rfl dX2_letWaterIn_27 ?_
        refine lv_iload_n hx hb dX2_letWaterIn_30 rfl (lv_at hl 3 rfl) ?_
        refine lv_iadd hx hb dX2_letWaterIn_31 ?_
        refine lv_sipush (v := (nI 200)) hx hb dX2_letWaterIn_32 (by decide) ?_
        refine lv_icmp_le (tgt := 41) hx hb dX2_letWaterIn_35 (by decide) (fun c_9 => ?_) (fun c_9 => ?_)
        · refine lv_aload_n hx hb dX2_letWaterIn_41 rfl (lv_at hl 0 rfl) ?_
          refine lv_dup hx hb dX2_letWaterIn_42 rfl ?_
          refine va_get (D := G.1) (ci := 0) (v := .int (v 3)) (C := RX0) (T := TX0) (N := 5) hx hb hts in_X2_letWaterIn_RX0 hown hK.1 hP 3 rfl rfl 1 (by decide) (hts _ k_X2_letWaterIn_f110) (fun _ h9 => h9) rfl dX2_letWaterIn_43 ?_
          refine lv_iload_n hx hb dX2_letWaterIn_46 rfl (lv_at hl 3 rfl) ?_
          refine lv_iadd hx hb dX2_letWaterIn_47 ?_
          refine va_put (D := G.1) (ci := 0) (v := .int ((v 3) + p1)) (ty := .int) (C := RX0) (T := TX0) (N := 5) hx hb hts in_X2_letWaterIn_RX0 tyX0 tyX0_ok nmX0 hown hK.1 hP hD hS 3 rfl rfl 1 (by decide) (hts _ k_X2_letWaterIn_f110) (fun _ h9 => h9) rfl (by decide +kernel) rfl rfl (Nat.le_of_ble_eq_true rfl) dX2_letWaterIn_48 (fun H locs hP hD hS => ?_)
          have hP : va_P G.1 vwCl (LC G a (upd v 3 ((v 3) + p1)) q) H := hP
          have hD : va_D A (LC G a (upd v 3 ((v 3) + p1)) q) := hD
          refine lv_aload_n hx hb dX2_letWaterIn_51 rfl (lv_at hl 0 rfl) ?_
          refine va_get (D := G.1) (ci := 0) (v := .int ((v 3) + p1)) (C := RX0) (T := TX0) (N := 5) hx hb hts in_X2_letWaterIn_RX0 hown hK.1 hP 3 rfl rfl 1 (by decide) (hts _ k_X2_letWaterIn_f110) (fun _ h9 => h9) rfl dX2_letWaterIn_52 ?_
          exact end_I C0 hP hD hS (upd v 3 ((v 3) + p1)) (by simp only [f_X2_letWaterIn, if_neg c_2, if_pos c_6, if_neg c_8, if_pos c_9]) rfl dX2_letWaterIn_55
        · refine lv_bipush (v := (-3)) hx hb dX2_letWaterIn_38 (by decide) ?_
          exact end_I C0 hP hD hS v (by simp only [f_X2_letWaterIn, if_neg c_2, if_pos c_6, if_neg c_8, if_neg c_9]) rfl dX2_letWaterIn_40
      · refine lv_bipush (v := (-2)) hx hb dX2_letWaterIn_23 (by decide) ?_
        exact end_I C0 hP hD hS v (by simp only [f_X2_letWaterIn, if_neg c_2, if_pos c_6, if_pos c_8]) rfl dX2_letWaterIn_25
    · rw [show f_X2_boilerAt a p0 = none from by (exact f_X2_boilerAt_none c_2 c_6)]
      refine W.eq (g2 := F0 m 5 ls ([.null])) rfl ?_
      refine lv_astore_nN (lv' := [(3, .null), (0, .ref (a 0)), (1, .int p0), (2, .int p1)]) hx hb dX2_letWaterIn_5 rfl hl (by decide) rfl (fun ls hl => ?_)
      refine lv_aload_nN hx hb dX2_letWaterIn_6 rfl (lv_at hl 0 rfl) ?_
      refine lv_ifnonnullN hx hb dX2_letWaterIn_7 ?_
      refine lv_iconst (v := (-1)) hx hb dX2_letWaterIn_10 (by decide) ?_
      exact end_I C0 hP hD hS v (by simp only [f_X2_letWaterIn, if_neg c_2, if_neg c_6]) rfl dX2_letWaterIn_11

def f_X2_changeRation (v : (Nat → Int32)) (p0 : Int32) : Int32 × (Nat → Int32) :=
  if (f_X6_isWithin p0 (nI 0) (nI 200)) = 0 then
    ((-2), v)
  else
    if p0 = (v 11) then
      ((-5), v)
    else
      ((v 11), (upd v 11 p0))
set_option maxRecDepth 20000 in
theorem k_X2_changeRation_f36 : Cond.fieldLink RX2 36 "SteamRations$Laundry" "ration" "I" ∈ wsX2_changeRation := by decide +kernel
set_option maxRecDepth 20000 in
theorem in_X2_changeRation_RX2 : ∀ w ∈ u_ws RX2 TX2 14, w ∈ wsX2_changeRation := by decide +kernel
theorem cd_X2_changeRation : yX2_changeRation.cls = RX2 ∧ yX2_changeRation.cls ≠ "java/lang/invoke/MethodHandle" ∧ yX2_changeRation.cls ≠ "java/lang/invoke/VarHandle" ∧ (parseMethodDescriptor yX2_changeRation.desc).map (fun d => d.parameters.length) = some 1 := by decide +kernel
set_option maxHeartbeats 4000000 in
set_option maxRecDepth 100000 in
theorem c_X2_changeRation (l : Launch) (G : GG) (a : Nat → Nat) (v : (Nat → Int32)) (q : (Nat → Int32)) (sz : Nat) (p0 : Int32)  : Met l yX2_changeRation wsX2_changeRation ({ frames := 1, cells := 0, slots := 0, locals := 22 }) (Pre G [.ref (a 0), .int p0] (LC G a v q) sz) (PI G (va_A (LC G a v q) sz) (fun r (u : (Nat → Int32)) => f_X2_changeRation v p0 = (r, u)) (fun u : (Nat → Int32) => LC G a u q)) 0 0 (va_A (LC G a v q) sz) := by
  refine Met.walk (cc := cX2_changeRation) (maxL := 3) (ret := (some .int)) (Qc := fun A => PI G A (fun r (u : (Nat → Int32)) => f_X2_changeRation v p0 = (r, u)) (fun u : (Nat → Int32) => LC G a u q)) (by decide) rfl (Nat.le_of_ble_eq_true rfl) ?_
  intro p e s m below meth c A H C0 _ hK hsz hP hD hA hS ls hl
  have hx := C0.1
  have hb := C0.2.1
  have hown : s.vm.findClass RX2 = some m.cls := C0.2.2.2.2.1
  have hml := C0.2.2.2.1
  have hts : ∀ w ∈ wsX2_changeRation, w.before [.ref (a 0), .int p0].toArray s = true := C0.2.2.2.2.2.1
  have hl : lv_has ls 3 [(0, .ref (a 0)), (1, .int p0)] := hl
  refine lv_iload_n hx hb dX2_changeRation_0 rfl (lv_at hl 1 rfl) ?_
  refine lv_iconst (v := (nI 0)) hx hb dX2_changeRation_1 (by decide) ?_
  refine lv_sipush (v := (nI 200)) hx hb dX2_changeRation_2 (by decide) ?_
  refine gcall_I (run_SN (As := [.int p0, .int (nI 0), .int (nI 200)]) (rest := []) C0 hK hP hD (c_X6_isWithin l G   H.size p0 (nI 0) (nI 200)) (va_cnB 3 hts gX2_changeRation_X6_isWithin_n100 rfl rfl rfl hK.2.1 (hts _ (by decide +kernel)) cd2_X6_isWithin ⟨Nat.le_of_ble_eq_true rfl, Nat.le_of_ble_eq_true rfl⟩) (hts _ (by decide +kernel)) [] rfl rfl rfl hl.1 rfl (Nat.le_of_ble_eq_true rfl) dX2_changeRation_5 ⟨Nat.le_of_ble_eq_true rfl, Nat.le_of_ble_eq_true rfl⟩) hP hD hS hA [] rfl rfl (fun _ => rfl) (fun r_1 _ H locs hw_1 hP hD hS => ?_)
  have hz_r_1 := hw_1.2
  have hw_1 := hw_1.1
  subst hw_1
  have hP : va_P G.1 vwCl (LC G a v q) H := hP
  have hD : va_D A (LC G a v q) := hD
  refine lv_if_ne (tgt := 14) hx hb dX2_changeRation_8 (by decide) (fun c_2 => ?_) (fun c_2 => ?_)
  · refine lv_iload_n hx hb dX2_changeRation_14 rfl (lv_at hl 1 rfl) ?_
    refine lv_aload_n hx hb dX2_changeRation_15 rfl (lv_at hl 0 rfl) ?_
    refine va_get (D := G.1) (ci := 2) (v := .int (v 11)) (C := RX2) (T := TX2) (N := 14) hx hb hts in_X2_changeRation_RX2 hown hK.1 hP 0 rfl rfl 8 (by decide) (hts _ k_X2_changeRation_f36) (fun _ h9 => h9) rfl dX2_changeRation_16 ?_
    refine lv_icmp_ne (tgt := 25) hx hb dX2_changeRation_19 (by decide) (fun c_3 => ?_) (fun c_3 => ?_)
    · refine lv_aload_n hx hb dX2_changeRation_25 rfl (lv_at hl 0 rfl) ?_
      refine va_get (D := G.1) (ci := 2) (v := .int (v 11)) (C := RX2) (T := TX2) (N := 14) hx hb hts in_X2_changeRation_RX2 hown hK.1 hP 0 rfl rfl 8 (by decide) (hts _ k_X2_changeRation_f36) (fun _ h9 => h9) rfl dX2_changeRation_26 ?_
      refine lv_istore_n (lv' := [(2, .int (v 11)), (0, .ref (a 0)), (1, .int p0)]) hx hb dX2_changeRation_29 rfl hl (by decide) rfl (fun ls hl => ?_)
      refine lv_aload_n hx hb dX2_changeRation_30 rfl (lv_at hl 1 rfl) ?_
      refine lv_iload_n hx hb dX2_changeRation_31 rfl (lv_at hl 2 rfl) ?_
      refine va_put (D := G.1) (ci := 2) (v := .int p0) (ty := .int) (C := RX2) (T := TX2) (N := 14) hx hb hts in_X2_changeRation_RX2 tyX2 tyX2_ok nmX2 hown hK.1 hP hD hS 0 rfl rfl 8 (by decide) (hts _ k_X2_changeRation_f36) (fun _ h9 => h9) rfl (by decide +kernel) rfl rfl (Nat.le_of_ble_eq_true rfl) dX2_changeRation_32 (fun H locs hP hD hS => ?_)
      have hP : va_P G.1 vwCl (LC G a (upd v 11 p0) q) H := hP
      have hD : va_D A (LC G a (upd v 11 p0) q) := hD
      refine lv_iload_n hx hb dX2_changeRation_35 rfl (lv_at hl 0 rfl) ?_
      exact end_I C0 hP hD hS (upd v 11 p0) (by simp only [f_X2_changeRation, if_neg c_2, if_neg c_3]) rfl dX2_changeRation_36
    · refine lv_bipush (v := (-5)) hx hb dX2_changeRation_22 (by decide) ?_
      exact end_I C0 hP hD hS v (by simp only [f_X2_changeRation, if_neg c_2, if_pos c_3]) rfl dX2_changeRation_24
  · refine lv_bipush (v := (-2)) hx hb dX2_changeRation_11 (by decide) ?_
    exact end_I C0 hP hD hS v (by simp only [f_X2_changeRation, if_pos c_2]) rfl dX2_changeRation_13

def f_X2_addToLine (v : (Nat → Int32)) (q : (Nat → Int32)) (p0 : Int32) : Int32 × (Nat → Int32) × (Nat → Int32) :=
  if (f_X6_isWithin p0 (nI 0) (nI 2)) = 0 then
    ((-1), v, q)
  else
    match f_X5_add (v 25) q p0 with
    | (r_3, ln_c3, q_c3) =>
      (r_3, (upd v 25 ln_c3), q_c3)
set_option maxRecDepth 20000 in
theorem k_X2_addToLine_f28 : Cond.fieldLink RX2 28 "SteamRations$Laundry" "waiting" "LSteamRations$WaitingLine;" ∈ wsX2_addToLine := by decide +kernel
set_option maxRecDepth 20000 in
theorem in_X2_addToLine_RX2 : ∀ w ∈ u_ws RX2 TX2 14, w ∈ wsX2_addToLine := by decide +kernel
theorem cd_X2_addToLine : yX2_addToLine.cls = RX2 ∧ yX2_addToLine.cls ≠ "java/lang/invoke/MethodHandle" ∧ yX2_addToLine.cls ≠ "java/lang/invoke/VarHandle" ∧ (parseMethodDescriptor yX2_addToLine.desc).map (fun d => d.parameters.length) = some 1 := by decide +kernel
set_option maxHeartbeats 4000000 in
set_option maxRecDepth 100000 in
theorem c_X2_addToLine (l : Launch) (G : GG) (a : Nat → Nat) (v : (Nat → Int32)) (q : (Nat → Int32)) (sz : Nat) (p0 : Int32)  : Met l yX2_addToLine wsX2_addToLine ({ frames := 1, cells := 0, slots := 0, locals := 22 }) (Pre G [.ref (a 0), .int p0] (LC G a v q) sz) (PI G (va_A (LC G a v q) sz) (fun r (u : (Nat → Int32) × (Nat → Int32)) => f_X2_addToLine v q p0 = (r, u)) (fun u : (Nat → Int32) × (Nat → Int32) => LC G a u.1 u.2)) 0 0 (va_A (LC G a v q) sz) := by
  refine Met.walk (cc := cX2_addToLine) (maxL := 2) (ret := (some .int)) (Qc := fun A => PI G A (fun r (u : (Nat → Int32) × (Nat → Int32)) => f_X2_addToLine v q p0 = (r, u)) (fun u : (Nat → Int32) × (Nat → Int32) => LC G a u.1 u.2)) (by decide) rfl (Nat.le_of_ble_eq_true rfl) ?_
  intro p e s m below meth c A H C0 _ hK hsz hP hD hA hS ls hl
  have hx := C0.1
  have hb := C0.2.1
  have hown : s.vm.findClass RX2 = some m.cls := C0.2.2.2.2.1
  have hml := C0.2.2.2.1
  have hts : ∀ w ∈ wsX2_addToLine, w.before [.ref (a 0), .int p0].toArray s = true := C0.2.2.2.2.2.1
  have hl : lv_has ls 2 [(0, .ref (a 0)), (1, .int p0)] := hl
  refine lv_iload_n hx hb dX2_addToLine_0 rfl (lv_at hl 1 rfl) ?_
  refine lv_iconst (v := (nI 0)) hx hb dX2_addToLine_1 (by decide) ?_
  refine lv_iconst (v := (nI 2)) hx hb dX2_addToLine_2 (by decide) ?_
  refine gcall_I (run_SN (As := [.int p0, .int (nI 0), .int (nI 2)]) (rest := []) C0 hK hP hD (c_X6_isWithin l G   H.size p0 (nI 0) (nI 2)) (va_cnB 3 hts gX2_addToLine_X6_isWithin_n100 rfl rfl rfl hK.2.1 (hts _ (by decide +kernel)) cd2_X6_isWithin ⟨Nat.le_of_ble_eq_true rfl, Nat.le_of_ble_eq_true rfl⟩) (hts _ (by decide +kernel)) [] rfl rfl rfl hl.1 rfl (Nat.le_of_ble_eq_true rfl) dX2_addToLine_3 ⟨Nat.le_of_ble_eq_true rfl, Nat.le_of_ble_eq_true rfl⟩) hP hD hS hA [] rfl rfl (fun _ => rfl) (fun r_1 _ H locs hw_1 hP hD hS => ?_)
  have hz_r_1 := hw_1.2
  have hw_1 := hw_1.1
  subst hw_1
  have hP : va_P G.1 vwCl (LC G a v q) H := hP
  have hD : va_D A (LC G a v q) := hD
  refine lv_if_eq (tgt := 20) hx hb dX2_addToLine_6 (by decide) (fun c_2 => ?_) (fun c_2 => ?_)
  · refine lv_iconst (v := (-1)) hx hb dX2_addToLine_20 (by decide) ?_
    exact end_I C0 hP hD hS (v, q) (by simp only [f_X2_addToLine, if_pos c_2]) rfl dX2_addToLine_21
  · refine lv_aload_n hx hb dX2_addToLine_9 rfl (lv_at hl 0 rfl) ?_
    refine va_get (D := G.1) (ci := 2) (v := .ref (a 9)) (C := RX2) (T := TX2) (N := 14) hx hb hts in_X2_addToLine_RX2 hown hK.1 hP 0 rfl rfl 2 (by decide) (hts _ k_X2_addToLine_f28) (fun _ h9 => h9) rfl dX2_addToLine_10 ?_
    refine lv_iload_n hx hb dX2_addToLine_13 rfl (lv_at hl 1 rfl) ?_
    refine gcall_I (run_V (As := [.int p0]) (rest := []) C0 hK hP hD (c_X5_add l G (a 9) (a 10) (v 25) q H.size p0) (cwV 1 hts gX2_addToLine_X5_add rfl rfl rfl cd_X5_add ⟨Nat.le_of_ble_eq_true rfl, Nat.le_of_ble_eq_true rfl⟩) [9, 10] rfl rfl 9 (ci := 5) rfl rfl rfl rfl hl.1 rfl (Nat.le_of_ble_eq_true rfl) dX2_addToLine_14 ⟨Nat.le_of_ble_eq_true rfl, Nat.le_of_ble_eq_true rfl⟩) hP hD hS hA [9, 10] rfl rfl (fun _ => rfl) (fun r_3 u_3 H locs hw_3 hP hD hS => ?_)
    obtain ⟨ln_c3, q_c3⟩ := u_3
    have hP : va_P G.1 vwCl (LC G a (upd v 25 ln_c3) q_c3) H := hP
    have hD : va_D A (LC G a (upd v 25 ln_c3) q_c3) := hD
    refine lv_goto (tgt := 21) hx hb dX2_addToLine_17 (by decide) ?_
    exact end_I C0 hP hD hS ((upd v 25 ln_c3), q_c3) (by simp only [f_X2_addToLine, if_neg c_2, hw_3]) rfl dX2_addToLine_21

def f_X2_removeFromLine (v : (Nat → Int32)) (q : (Nat → Int32)) (p0 : Int32) : Int32 × (Nat → Int32) × (Nat → Int32) :=
  match f_X5_remove (v 25) q p0 with
  | (r_1, ln_c1, q_c1) =>
    (r_1, (upd v 25 ln_c1), q_c1)
set_option maxRecDepth 20000 in
theorem k_X2_removeFromLine_f28 : Cond.fieldLink RX2 28 "SteamRations$Laundry" "waiting" "LSteamRations$WaitingLine;" ∈ wsX2_removeFromLine := by decide +kernel
set_option maxRecDepth 20000 in
theorem in_X2_removeFromLine_RX2 : ∀ w ∈ u_ws RX2 TX2 14, w ∈ wsX2_removeFromLine := by decide +kernel
theorem cd_X2_removeFromLine : yX2_removeFromLine.cls = RX2 ∧ yX2_removeFromLine.cls ≠ "java/lang/invoke/MethodHandle" ∧ yX2_removeFromLine.cls ≠ "java/lang/invoke/VarHandle" ∧ (parseMethodDescriptor yX2_removeFromLine.desc).map (fun d => d.parameters.length) = some 1 := by decide +kernel
set_option maxHeartbeats 4000000 in
set_option maxRecDepth 100000 in
theorem c_X2_removeFromLine (l : Launch) (G : GG) (a : Nat → Nat) (v : (Nat → Int32)) (q : (Nat → Int32)) (sz : Nat) (p0 : Int32)  : Met l yX2_removeFromLine wsX2_removeFromLine ({ frames := 2, cells := 0, slots := 0, locals := 44 }) (Pre G [.ref (a 0), .int p0] (LC G a v q) sz) (PI G (va_A (LC G a v q) sz) (fun r (u : (Nat → Int32) × (Nat → Int32)) => f_X2_removeFromLine v q p0 = (r, u)) (fun u : (Nat → Int32) × (Nat → Int32) => LC G a u.1 u.2)) 0 0 (va_A (LC G a v q) sz) := by
  refine Met.walk (cc := cX2_removeFromLine) (maxL := 2) (ret := (some .int)) (Qc := fun A => PI G A (fun r (u : (Nat → Int32) × (Nat → Int32)) => f_X2_removeFromLine v q p0 = (r, u)) (fun u : (Nat → Int32) × (Nat → Int32) => LC G a u.1 u.2)) (by decide) rfl (Nat.le_of_ble_eq_true rfl) ?_
  intro p e s m below meth c A H C0 _ hK hsz hP hD hA hS ls hl
  have hx := C0.1
  have hb := C0.2.1
  have hown : s.vm.findClass RX2 = some m.cls := C0.2.2.2.2.1
  have hml := C0.2.2.2.1
  have hts : ∀ w ∈ wsX2_removeFromLine, w.before [.ref (a 0), .int p0].toArray s = true := C0.2.2.2.2.2.1
  have hl : lv_has ls 2 [(0, .ref (a 0)), (1, .int p0)] := hl
  refine lv_aload_n hx hb dX2_removeFromLine_0 rfl (lv_at hl 0 rfl) ?_
  refine va_get (D := G.1) (ci := 2) (v := .ref (a 9)) (C := RX2) (T := TX2) (N := 14) hx hb hts in_X2_removeFromLine_RX2 hown hK.1 hP 0 rfl rfl 2 (by decide) (hts _ k_X2_removeFromLine_f28) (fun _ h9 => h9) rfl dX2_removeFromLine_1 ?_
  refine lv_iload_n hx hb dX2_removeFromLine_4 rfl (lv_at hl 1 rfl) ?_
  refine gcall_I (run_V (As := [.int p0]) (rest := []) C0 hK hP hD (c_X5_remove l G (a 9) (a 10) (v 25) q H.size p0) (cwV 1 hts gX2_removeFromLine_X5_remove rfl rfl rfl cd_X5_remove ⟨Nat.le_of_ble_eq_true rfl, Nat.le_of_ble_eq_true rfl⟩) [9, 10] rfl rfl 9 (ci := 5) rfl rfl rfl rfl hl.1 rfl (Nat.le_of_ble_eq_true rfl) dX2_removeFromLine_5 ⟨Nat.le_of_ble_eq_true rfl, Nat.le_of_ble_eq_true rfl⟩) hP hD hS hA [9, 10] rfl rfl (fun _ => rfl) (fun r_1 u_1 H locs hw_1 hP hD hS => ?_)
  obtain ⟨ln_c1, q_c1⟩ := u_1
  have hP : va_P G.1 vwCl (LC G a (upd v 25 ln_c1) q_c1) H := hP
  have hD : va_D A (LC G a (upd v 25 ln_c1) q_c1) := hD
  exact end_I C0 hP hD hS ((upd v 25 ln_c1), q_c1) (by simp only [f_X2_removeFromLine, hw_1]) rfl dX2_removeFromLine_8

def f_X2_unload (v : (Nat → Int32)) (p0 : Int32) : Int32 × (Nat → Int32) :=
  if p0 = nI 0 then
    if (f_X3_isEmpty (v 13)) = 0 then
      ((v 17), (upd (upd (upd (upd v 13 (-5)) 17 (nI 0)) 21 (nI 0)) 43 ((v 43) + (nI 1))))
    else
      ((-4), v)
  else
    if p0 = nI 1 then
      if (f_X3_isEmpty (v 14)) = 0 then
        ((v 18), (upd (upd (upd (upd v 14 (-5)) 18 (nI 0)) 22 (nI 0)) 43 ((v 43) + (nI 1))))
      else
        ((-4), v)
    else
      if p0 = nI 2 then
        if (f_X3_isEmpty (v 15)) = 0 then
          ((v 19), (upd (upd (upd (upd v 15 (-5)) 19 (nI 0)) 23 (nI 0)) 43 ((v 43) + (nI 1))))
        else
          ((-4), v)
      else
        if p0 = nI 3 then
          if (f_X3_isEmpty (v 16)) = 0 then
            ((v 20), (upd (upd (upd (upd v 16 (-5)) 20 (nI 0)) 24 (nI 0)) 43 ((v 43) + (nI 1))))
          else
            ((-4), v)
        else
          ((-1), v)
set_option maxRecDepth 20000 in
theorem k_X2_unload_f125 : Cond.fieldLink RX2 125 "SteamRations$Machine" "left" "I" ∈ wsX2_unload := by decide +kernel
set_option maxRecDepth 20000 in
theorem k_X2_unload_f67 : Cond.fieldLink RX2 67 "SteamRations$Laundry" "takenOut" "I" ∈ wsX2_unload := by decide +kernel
set_option maxRecDepth 20000 in
theorem in_X2_unload_RX2 : ∀ w ∈ u_ws RX2 TX2 14, w ∈ wsX2_unload := by decide +kernel
set_option maxRecDepth 20000 in
theorem in_X2_unload_RX3 : ∀ w ∈ u_ws RX3 TX3 3, w ∈ wsX2_unload := by decide +kernel
theorem cd_X2_unload : yX2_unload.cls = RX2 ∧ yX2_unload.cls ≠ "java/lang/invoke/MethodHandle" ∧ yX2_unload.cls ≠ "java/lang/invoke/VarHandle" ∧ (parseMethodDescriptor yX2_unload.desc).map (fun d => d.parameters.length) = some 1 := by decide +kernel
set_option maxHeartbeats 4000000 in
set_option maxRecDepth 100000 in
theorem c_X2_unload (l : Launch) (G : GG) (a : Nat → Nat) (v : (Nat → Int32)) (q : (Nat → Int32)) (sz : Nat) (p0 : Int32)  : Met l yX2_unload wsX2_unload ({ frames := 1, cells := 0, slots := 0, locals := 21 }) (Pre G [.ref (a 0), .int p0] (LC G a v q) sz) (PI G (va_A (LC G a v q) sz) (fun r (u : (Nat → Int32)) => f_X2_unload v p0 = (r, u)) (fun u : (Nat → Int32) => LC G a u q)) 0 0 (va_A (LC G a v q) sz) := by
  refine Met.walk (cc := cX2_unload) (maxL := 4) (ret := (some .int)) (Qc := fun A => PI G A (fun r (u : (Nat → Int32)) => f_X2_unload v p0 = (r, u)) (fun u : (Nat → Int32) => LC G a u q)) (by decide) rfl (Nat.le_of_ble_eq_true rfl) ?_
  intro p e s m below meth c A H C0 _ hK hsz hP hD hA hS ls hl
  have hx := C0.1
  have hb := C0.2.1
  have hown : s.vm.findClass RX2 = some m.cls := C0.2.2.2.2.1
  have hml := C0.2.2.2.1
  have hts : ∀ w ∈ wsX2_unload, w.before [.ref (a 0), .int p0].toArray s = true := C0.2.2.2.2.2.1
  have hl : lv_has ls 4 [(0, .ref (a 0)), (1, .int p0)] := hl
  refine lv_aload_n hx hb dX2_unload_0 rfl (lv_at hl 0 rfl) ?_
  refine lv_iload_n hx hb dX2_unload_1 rfl (lv_at hl 1 rfl) ?_
  refine gcall_Q (run_V (As := [.int p0]) (rest := []) C0 hK hP hD (c_X2_machineAt l G a v q H.size p0) (cwV 1 hts gX2_unload_X2_machineAt rfl rfl rfl cd_X2_machineAt ⟨Nat.le_of_ble_eq_true rfl, Nat.le_of_ble_eq_true rfl⟩) [0, 1, 2, 3, 4, 5, 6, 7, 8, 9, 10] rfl rfl 0 (ci := 2) rfl rfl rfl rfl hl.1 rfl (Nat.le_of_ble_eq_true rfl) dX2_unload_2 ⟨Nat.le_of_ble_eq_true rfl, Nat.le_of_ble_eq_true rfl⟩) hP hD hS hA [0, 1, 2, 3, 4, 5, 6, 7, 8, 9, 10] rfl rfl (fun _ => rfl) (fun r_1 _ H locs hw_1 hP hD hS => ?_)
  subst hw_1
  have hP : va_P G.1 vwCl (LC G a v q) H := hP
  have hD : va_D A (LC G a v q) := hD
  by_cases c_2 : p0 = nI 0
  · rw [show f_X2_machineAt a p0 = some (a 5) from by (rw [c_2]; rfl)]
    refine W.eq (g2 := F0 m 5 ls ([.ref (a 5)])) rfl ?_
    refine lv_astore_n (lv' := [(2, .ref (a 5)), (0, .ref (a 0)), (1, .int p0)]) hx hb dX2_unload_5 rfl hl (by decide) rfl (fun ls hl => ?_)
    refine lv_aload_n hx hb dX2_unload_6 rfl (lv_at hl 0 rfl) ?_
    refine lv_ifnonnull (tgt := 12) hx hb dX2_unload_7 (by decide) ?_
    refine lv_aload_n hx hb dX2_unload_12 rfl (lv_at hl 0 rfl) ?_
    refine gcall_I (run_V (As := []) (rest := []) C0 hK hP hD (c_X3_isEmpty l G (a 5) (v 13) (v 17) (v 21) H.size ) (cwV 0 hts gX2_unload_X3_isEmpty rfl rfl rfl cd_X3_isEmpty ⟨Nat.le_of_ble_eq_true rfl, Nat.le_of_ble_eq_true rfl⟩) [5] rfl rfl 5 (ci := 3) rfl rfl rfl rfl hl.1 rfl (Nat.le_of_ble_eq_true rfl) dX2_unload_13 ⟨Nat.le_of_ble_eq_true rfl, Nat.le_of_ble_eq_true rfl⟩) hP hD hS hA [5] rfl rfl (fun _ => rfl) (fun r_3 _ H locs hw_3 hP hD hS => ?_)
    have hz_r_3 := hw_3.2
    have hw_3 := hw_3.1
    subst hw_3
    have hP : va_P G.1 vwCl (LC G a v q) H := hP
    have hD : va_D A (LC G a v q) := hD
    refine lv_if_eq (tgt := 22) hx hb dX2_unload_16 (by decide) (fun c_4 => ?_) (fun c_4 => ?_)
    · refine lv_aload_n hx hb dX2_unload_22 rfl (lv_at hl 0 rfl) ?_
      refine va_get (D := G.1) (ci := 3) (v := .int (v 17)) (C := RX3) (T := TX3) (N := 3) hx hb hts in_X2_unload_RX3 hown hK.1 hP 5 rfl rfl 1 (by decide) (hts _ k_X2_unload_f125) (fun _ h9 => h9) rfl dX2_unload_23 ?_
      refine lv_istore_n (lv' := [(3, .int (v 17)), (2, .ref (a 5)), (0, .ref (a 0)), (1, .int p0)]) hx hb dX2_unload_26 rfl hl (by decide) rfl (fun ls hl => ?_)
      refine lv_aload_n hx hb dX2_unload_27 rfl (lv_at hl 1 rfl) ?_
      refine gcall_V (run_V (As := []) (rest := []) C0 hK hP hD (c_X3_clear l G (a 5) (v 13) (v 17) (v 21) H.size ) (cwV 0 hts gX2_unload_X3_clear rfl rfl rfl cd_X3_clear ⟨Nat.le_of_ble_eq_true rfl, Nat.le_of_ble_eq_true rfl⟩) [5] rfl rfl 5 (ci := 3) rfl rfl rfl rfl hl.1 rfl (Nat.le_of_ble_eq_true rfl) dX2_unload_28 ⟨Nat.le_of_ble_eq_true rfl, Nat.le_of_ble_eq_true rfl⟩) hP hD hS hA [5] rfl rfl (fun _ => rfl) (fun u_5 H locs hw_5 hP hD hS => ?_)
      obtain ⟨mk_c5, mt_c5, mw_c5⟩ := u_5
      simp only [f_X3_clear, Prod.mk.injEq] at hw_5
      obtain ⟨rfl, rfl, rfl⟩ := hw_5
      have hP : va_P G.1 vwCl (LC G a (upd (upd (upd v 13 (-5)) 17 (nI 0)) 21 (nI 0)) q) H := hP
      have hD : va_D A (LC G a (upd (upd (upd v 13 (-5)) 17 (nI 0)) 21 (nI 0)) q) := hD
      refine lv_aload_n hx hb dX2_unload_31 rfl (lv_at hl 2 rfl) ?_
      refine lv_dup hx hb dX2_unload_32 rfl ?_
      refine va_get (D := G.1) (ci := 2) (v := .int (v 43)) (C := RX2) (T := TX2) (N := 14) hx hb hts in_X2_unload_RX2 hown hK.1 hP 0 rfl rfl 11 (by decide) (hts _ k_X2_unload_f67) (fun _ h9 => h9) rfl dX2_unload_33 ?_
      refine lv_iconst (v := (nI 1)) hx hb dX2_unload_36 (by decide) ?_
      refine lv_iadd hx hb dX2_unload_37 ?_
      refine va_put (D := G.1) (ci := 2) (v := .int ((v 43) + (nI 1))) (ty := .int) (C := RX2) (T := TX2) (N := 14) hx hb hts in_X2_unload_RX2 tyX2 tyX2_ok nmX2 hown hK.1 hP hD hS 0 rfl rfl 11 (by decide) (hts _ k_X2_unload_f67) (fun _ h9 => h9) rfl (by decide +kernel) rfl rfl (Nat.le_of_ble_eq_true rfl) dX2_unload_38 (fun H locs hP hD hS => ?_)
      have hP : va_P G.1 vwCl (LC G a (upd (upd (upd (upd v 13 (-5)) 17 (nI 0)) 21 (nI 0)) 43 ((v 43) + (nI 1))) q) H := hP
      have hD : va_D A (LC G a (upd (upd (upd (upd v 13 (-5)) 17 (nI 0)) 21 (nI 0)) 43 ((v 43) + (nI 1))) q) := hD
      refine lv_iload_n hx hb dX2_unload_41 rfl (lv_at hl 0 rfl) ?_
      exact end_I C0 hP hD hS (upd (upd (upd (upd v 13 (-5)) 17 (nI 0)) 21 (nI 0)) 43 ((v 43) + (nI 1))) (by simp only [f_X2_unload, if_pos c_2, if_pos c_4]) rfl dX2_unload_42
    · refine lv_bipush (v := (-4)) hx hb dX2_unload_19 (by decide) ?_
      exact end_I C0 hP hD hS v (by simp only [f_X2_unload, if_pos c_2, if_neg c_4]) rfl dX2_unload_21
  · by_cases c_6 : p0 = nI 1
    · rw [show f_X2_machineAt a p0 = some (a 6) from by (rw [c_6]; rfl)]
      refine W.eq (g2 := F0 m 5 ls ([.ref (a 6)])) rfl ?_
      refine lv_astore_n (lv' := [(2, .ref (a 6)), (0, .ref (a 0)), (1, .int p0)]) hx hb dX2_unload_5 rfl hl (by decide) rfl (fun ls hl => ?_)
      refine lv_aload_n hx hb dX2_unload_6 rfl (lv_at hl 0 rfl) ?_
      refine lv_ifnonnull (tgt := 12) hx hb dX2_unload_7 (by decide) ?_
      refine lv_aload_n hx hb dX2_unload_12 rfl (lv_at hl 0 rfl) ?_
      refine gcall_I (run_V (As := []) (rest := []) C0 hK hP hD (c_X3_isEmpty l G (a 6) (v 14) (v 18) (v 22) H.size ) (cwV 0 hts gX2_unload_X3_isEmpty rfl rfl rfl cd_X3_isEmpty ⟨Nat.le_of_ble_eq_true rfl, Nat.le_of_ble_eq_true rfl⟩) [6] rfl rfl 6 (ci := 3) rfl rfl rfl rfl hl.1 rfl (Nat.le_of_ble_eq_true rfl) dX2_unload_13 ⟨Nat.le_of_ble_eq_true rfl, Nat.le_of_ble_eq_true rfl⟩) hP hD hS hA [6] rfl rfl (fun _ => rfl) (fun r_7 _ H locs hw_7 hP hD hS => ?_)
      have hz_r_7 := hw_7.2
      have hw_7 := hw_7.1
      subst hw_7
      have hP : va_P G.1 vwCl (LC G a v q) H := hP
      have hD : va_D A (LC G a v q) := hD
      refine lv_if_eq (tgt := 22) hx hb dX2_unload_16 (by decide) (fun c_8 => ?_) (fun c_8 => ?_)
      · refine lv_aload_n hx hb dX2_unload_22 rfl (lv_at hl 0 rfl) ?_
        refine va_get (D := G.1) (ci := 3) (v := .int (v 18)) (C := RX3) (T := TX3) (N := 3) hx hb hts in_X2_unload_RX3 hown hK.1 hP 6 rfl rfl 1 (by decide) (hts _ k_X2_unload_f125) (fun _ h9 => h9) rfl dX2_unload_23 ?_
        refine lv_istore_n (lv' := [(3, .int (v 18)), (2, .ref (a 6)), (0, .ref (a 0)), (1, .int p0)]) hx hb dX2_unload_26 rfl hl (by decide) rfl (fun ls hl => ?_)
        refine lv_aload_n hx hb dX2_unload_27 rfl (lv_at hl 1 rfl) ?_
        refine gcall_V (run_V (As := []) (rest := []) C0 hK hP hD (c_X3_clear l G (a 6) (v 14) (v 18) (v 22) H.size ) (cwV 0 hts gX2_unload_X3_clear rfl rfl rfl cd_X3_clear ⟨Nat.le_of_ble_eq_true rfl, Nat.le_of_ble_eq_true rfl⟩) [6] rfl rfl 6 (ci := 3) rfl rfl rfl rfl hl.1 rfl (Nat.le_of_ble_eq_true rfl) dX2_unload_28 ⟨Nat.le_of_ble_eq_true rfl, Nat.le_of_ble_eq_true rfl⟩) hP hD hS hA [6] rfl rfl (fun _ => rfl) (fun u_9 H locs hw_9 hP hD hS => ?_)
        obtain ⟨mk_c9, mt_c9, mw_c9⟩ := u_9
        simp only [f_X3_clear, Prod.mk.injEq] at hw_9
        obtain ⟨rfl, rfl, rfl⟩ := hw_9
        have hP : va_P G.1 vwCl (LC G a (upd (upd (upd v 14 (-5)) 18 (nI 0)) 22 (nI 0)) q) H := hP
        have hD : va_D A (LC G a (upd (upd (upd v 14 (-5)) 18 (nI 0)) 22 (nI 0)) q) := hD
        refine lv_aload_n hx hb dX2_unload_31 rfl (lv_at hl 2 rfl) ?_
        refine lv_dup hx hb dX2_unload_32 rfl ?_
        refine va_get (D := G.1) (ci := 2) (v := .int (v 43)) (C := RX2) (T := TX2) (N := 14) hx hb hts in_X2_unload_RX2 hown hK.1 hP 0 rfl rfl 11 (by decide) (hts _ k_X2_unload_f67) (fun _ h9 => h9) rfl dX2_unload_33 ?_
        refine lv_iconst (v := (nI 1)) hx hb dX2_unload_36 (by decide) ?_
        refine lv_iadd hx hb dX2_unload_37 ?_
        refine va_put (D := G.1) (ci := 2) (v := .int ((v 43) + (nI 1))) (ty := .int) (C := RX2) (T := TX2) (N := 14) hx hb hts in_X2_unload_RX2 tyX2 tyX2_ok nmX2 hown hK.1 hP hD hS 0 rfl rfl 11 (by decide) (hts _ k_X2_unload_f67) (fun _ h9 => h9) rfl (by decide +kernel) rfl rfl (Nat.le_of_ble_eq_true rfl) dX2_unload_38 (fun H locs hP hD hS => ?_)
        have hP : va_P G.1 vwCl (LC G a (upd (upd (upd (upd v 14 (-5)) 18 (nI 0)) 22 (nI 0)) 43 ((v 43) + (nI 1))) q) H := hP
        have hD : va_D A (LC G a (upd (upd (upd (upd v 14 (-5)) 18 (nI 0)) 22 (nI 0)) 43 ((v 43) + (nI 1))) q) := hD
        refine lv_iload_n hx hb dX2_unload_41 rfl (lv_at hl 0 rfl) ?_
        exact end_I C0 hP hD hS (upd (upd (upd (upd v 14 (-5)) 18 (nI 0)) 22 (nI 0)) 43 ((v 43) + (nI 1))) (by simp only [f_X2_unload, if_neg c_2, if_pos c_6, if_pos c_8]) rfl dX2_unload_42
      · refine lv_bipush (v := (-4)) hx hb dX2_unload_19 (by decide) ?_
        exact end_I C0 hP hD hS v (by simp only [f_X2_unload, if_neg c_2, if_pos c_6, if_neg c_8]) rfl dX2_unload_21
    · by_cases c_10 : p0 = nI 2
      · rw [show f_X2_machineAt a p0 = some (a 7) from by (rw [c_10]; rfl)]
        refine W.eq (g2 := F0 m 5 ls ([.ref (a 7)])) rfl ?_
        refine lv_astore_n (lv' := [(2, .ref (a 7)), (0, .ref (a 0)), (1, .int p0)]) hx hb dX2_unload_5 rfl hl (by decide) rfl (fun ls hl => ?_)
        refine lv_aload_n hx hb dX2_unload_6 rfl (lv_at hl 0 rfl) ?_
        refine lv_ifnonnull (tgt := 12) hx hb dX2_unload_7 (by decide) ?_
        refine lv_aload_n hx hb dX2_unload_12 rfl (lv_at hl 0 rfl) ?_
        refine gcall_I (run_V (As := []) (rest := []) C0 hK hP hD (c_X3_isEmpty l G (a 7) (v 15) (v 19) (v 23) H.size ) (cwV 0 hts gX2_unload_X3_isEmpty rfl rfl rfl cd_X3_isEmpty ⟨Nat.le_of_ble_eq_true rfl, Nat.le_of_ble_eq_true rfl⟩) [7] rfl rfl 7 (ci := 3) rfl rfl rfl rfl hl.1 rfl (Nat.le_of_ble_eq_true rfl) dX2_unload_13 ⟨Nat.le_of_ble_eq_true rfl, Nat.le_of_ble_eq_true rfl⟩) hP hD hS hA [7] rfl rfl (fun _ => rfl) (fun r_11 _ H locs hw_11 hP hD hS => ?_)
        have hz_r_11 := hw_11.2
        have hw_11 := hw_11.1
        subst hw_11
        have hP : va_P G.1 vwCl (LC G a v q) H := hP
        have hD : va_D A (LC G a v q) := hD
        refine lv_if_eq (tgt := 22) hx hb dX2_unload_16 (by decide) (fun c_12 => ?_) (fun c_12 => ?_)
        · refine lv_aload_n hx hb dX2_unload_22 rfl (lv_at hl 0 rfl) ?_
          refine va_get (D := G.1) (ci := 3) (v := .int (v 19)) (C := RX3) (T := TX3) (N := 3) hx hb hts in_X2_unload_RX3 hown hK.1 hP 7 rfl rfl 1 (by decide) (hts _ k_X2_unload_f125) (fun _ h9 => h9) rfl dX2_unload_23 ?_
          refine lv_istore_n (lv' := [(3, .int (v 19)), (2, .ref (a 7)), (0, .ref (a 0)), (1, .int p0)]) hx hb dX2_unload_26 rfl hl (by decide) rfl (fun ls hl => ?_)
          refine lv_aload_n hx hb dX2_unload_27 rfl (lv_at hl 1 rfl) ?_
          refine gcall_V (run_V (As := []) (rest := []) C0 hK hP hD (c_X3_clear l G (a 7) (v 15) (v 19) (v 23) H.size ) (cwV 0 hts gX2_unload_X3_clear rfl rfl rfl cd_X3_clear ⟨Nat.le_of_ble_eq_true rfl, Nat.le_of_ble_eq_true rfl⟩) [7] rfl rfl 7 (ci := 3) rfl rfl rfl rfl hl.1 rfl (Nat.le_of_ble_eq_true rfl) dX2_unload_28 ⟨Nat.le_of_ble_eq_true rfl, Nat.le_of_ble_eq_true rfl⟩) hP hD hS hA [7] rfl rfl (fun _ => rfl) (fun u_13 H locs hw_13 hP hD hS => ?_)
          obtain ⟨mk_c13, mt_c13, mw_c13⟩ := u_13
          simp only [f_X3_clear, Prod.mk.injEq] at hw_13
          obtain ⟨rfl, rfl, rfl⟩ := hw_13
          have hP : va_P G.1 vwCl (LC G a (upd (upd (upd v 15 (-5)) 19 (nI 0)) 23 (nI 0)) q) H := hP
          have hD : va_D A (LC G a (upd (upd (upd v 15 (-5)) 19 (nI 0)) 23 (nI 0)) q) := hD
          refine lv_aload_n hx hb dX2_unload_31 rfl (lv_at hl 2 rfl) ?_
          refine lv_dup hx hb dX2_unload_32 rfl ?_
          refine va_get (D := G.1) (ci := 2) (v := .int (v 43)) (C := RX2) (T := TX2) (N := 14) hx hb hts in_X2_unload_RX2 hown hK.1 hP 0 rfl rfl 11 (by decide) (hts _ k_X2_unload_f67) (fun _ h9 => h9) rfl dX2_unload_33 ?_
          refine lv_iconst (v := (nI 1)) hx hb dX2_unload_36 (by decide) ?_
          refine lv_iadd hx hb dX2_unload_37 ?_
          refine va_put (D := G.1) (ci := 2) (v := .int ((v 43) + (nI 1))) (ty := .int) (C := RX2) (T := TX2) (N := 14) hx hb hts in_X2_unload_RX2 tyX2 tyX2_ok nmX2 hown hK.1 hP hD hS 0 rfl rfl 11 (by decide) (hts _ k_X2_unload_f67) (fun _ h9 => h9) rfl (by decide +kernel) rfl rfl (Nat.le_of_ble_eq_true rfl) dX2_unload_38 (fun H locs hP hD hS => ?_)
          have hP : va_P G.1 vwCl (LC G a (upd (upd (upd (upd v 15 (-5)) 19 (nI 0)) 23 (nI 0)) 43 ((v 43) + (nI 1))) q) H := hP
          have hD : va_D A (LC G a (upd (upd (upd (upd v 15 (-5)) 19 (nI 0)) 23 (nI 0)) 43 ((v 43) + (nI 1))) q) := hD
          refine lv_iload_n hx hb dX2_unload_41 rfl (lv_at hl 0 rfl) ?_
          exact end_I C0 hP hD hS (upd (upd (upd (upd v 15 (-5)) 19 (nI 0)) 23 (nI 0)) 43 ((v 43) + (nI 1))) (by simp only [f_X2_unload, if_neg c_2, if_neg c_6, if_pos c_10, if_pos c_12]) rfl dX2_unload_42
        · refine lv_bipush (v := (-4)) hx hb dX2_unload_19 (by decide) ?_
          exact end_I C0 hP hD hS v (by simp only [f_X2_unload, if_neg c_2, if_neg c_6, if_pos c_10, if_neg c_12]) rfl dX2_unload_21
      · by_cases c_14 : p0 = nI 3
        · rw [show f_X2_machineAt a p0 = some (a 8) from by (rw [c_14]; rfl)]
          refine W.eq (g2 := F0 m 5 ls ([.ref (a 8)])) rfl ?_
          refine lv_astore_n (lv' := [(2, .ref (a 8)), (0, .ref (a 0)), (1, .int p0)]) hx hb dX2_unload_5 rfl hl (by decide) rfl (fun ls hl => ?_)
          refine lv_aload_n hx hb dX2_unload_6 rfl (lv_at hl 0 rfl) ?_
          refine lv_ifnonnull (tgt := 12) hx hb dX2_unload_7 (by decide) ?_
          refine lv_aload_n hx hb dX2_unload_12 rfl (lv_at hl 0 rfl) ?_
          refine gcall_I (run_V (As := []) (rest := []) C0 hK hP hD (c_X3_isEmpty l G (a 8) (v 16) (v 20) (v 24) H.size ) (cwV 0 hts gX2_unload_X3_isEmpty rfl rfl rfl cd_X3_isEmpty ⟨Nat.le_of_ble_eq_true rfl, Nat.le_of_ble_eq_true rfl⟩) [8] rfl rfl 8 (ci := 3) rfl rfl rfl rfl hl.1 rfl (Nat.le_of_ble_eq_true rfl) dX2_unload_13 ⟨Nat.le_of_ble_eq_true rfl, Nat.le_of_ble_eq_true rfl⟩) hP hD hS hA [8] rfl rfl (fun _ => rfl) (fun r_15 _ H locs hw_15 hP hD hS => ?_)
          have hz_r_15 := hw_15.2
          have hw_15 := hw_15.1
          subst hw_15
          have hP : va_P G.1 vwCl (LC G a v q) H := hP
          have hD : va_D A (LC G a v q) := hD
          refine lv_if_eq (tgt := 22) hx hb dX2_unload_16 (by decide) (fun c_16 => ?_) (fun c_16 => ?_)
          · refine lv_aload_n hx hb dX2_unload_22 rfl (lv_at hl 0 rfl) ?_
            refine va_get (D := G.1) (ci := 3) (v := .int (v 20)) (C := RX3) (T := TX3) (N := 3) hx hb hts in_X2_unload_RX3 hown hK.1 hP 8 rfl rfl 1 (by decide) (hts _ k_X2_unload_f125) (fun _ h9 => h9) rfl dX2_unload_23 ?_
            refine lv_istore_n (lv' := [(3, .int (v 20)), (2, .ref (a 8)), (0, .ref (a 0)), (1, .int p0)]) hx hb dX2_unload_26 rfl hl (by decide) rfl (fun ls hl => ?_)
            refine lv_aload_n hx hb dX2_unload_27 rfl (lv_at hl 1 rfl) ?_
            refine gcall_V (run_V (As := []) (rest := []) C0 hK hP hD (c_X3_clear l G (a 8) (v 16) (v 20) (v 24) H.size ) (cwV 0 hts gX2_unload_X3_clear rfl rfl rfl cd_X3_clear ⟨Nat.le_of_ble_eq_true rfl, Nat.le_of_ble_eq_true rfl⟩) [8] rfl rfl 8 (ci := 3) rfl rfl rfl rfl hl.1 rfl (Nat.le_of_ble_eq_true rfl) dX2_unload_28 ⟨Nat.le_of_ble_eq_true rfl, Nat.le_of_ble_eq_true rfl⟩) hP hD hS hA [8] rfl rfl (fun _ => rfl) (fun u_17 H locs hw_17 hP hD hS => ?_)
            obtain ⟨mk_c17, mt_c17, mw_c17⟩ := u_17
            simp only [f_X3_clear, Prod.mk.injEq] at hw_17
            obtain ⟨rfl, rfl, rfl⟩ := hw_17
            have hP : va_P G.1 vwCl (LC G a (upd (upd (upd v 16 (-5)) 20 (nI 0)) 24 (nI 0)) q) H := hP
            have hD : va_D A (LC G a (upd (upd (upd v 16 (-5)) 20 (nI 0)) 24 (nI 0)) q) := hD
            refine lv_aload_n hx hb dX2_unload_31 rfl (lv_at hl 2 rfl) ?_
            refine lv_dup hx hb dX2_unload_32 rfl ?_
            refine va_get (D := G.1) (ci := 2) (v := .int (v 43)) (C := RX2) (T := TX2) (N := 14) hx hb hts in_X2_unload_RX2 hown hK.1 hP 0 rfl rfl 11 (by decide) (hts _ k_X2_unload_f67) (fun _ h9 => h9) rfl dX2_unload_33 ?_
            refine lv_iconst (v := (nI 1)) hx hb dX2_unload_36 (by decide) ?_
            refine lv_iadd hx hb dX2_unload_37 ?_
            refine va_put (D := G.1) (ci := 2) (v := .int ((v 43) + (nI 1))) (ty := .int) (C := RX2) (T := TX2) (N := 14) hx hb hts in_X2_unload_RX2 tyX2 tyX2_ok nmX2 hown hK.1 hP hD hS 0 rfl rfl 11 (by decide) (hts _ k_X2_unload_f67) (fun _ h9 => h9) rfl (by decide +kernel) rfl rfl (Nat.le_of_ble_eq_true rfl) dX2_unload_38 (fun H locs hP hD hS => ?_)
            have hP : va_P G.1 vwCl (LC G a (upd (upd (upd (upd v 16 (-5)) 20 (nI 0)) 24 (nI 0)) 43 ((v 43) + (nI 1))) q) H := hP
            have hD : va_D A (LC G a (upd (upd (upd (upd v 16 (-5)) 20 (nI 0)) 24 (nI 0)) 43 ((v 43) + (nI 1))) q) := hD
            refine lv_iload_n hx hb dX2_unload_41 rfl (lv_at hl 0 rfl) ?_
            exact end_I C0 hP hD hS (upd (upd (upd (upd v 16 (-5)) 20 (nI 0)) 24 (nI 0)) 43 ((v 43) + (nI 1))) (by simp only [f_X2_unload, if_neg c_2, if_neg c_6, if_neg c_10, if_pos c_14, if_pos c_16]) rfl dX2_unload_42
          · refine lv_bipush (v := (-4)) hx hb dX2_unload_19 (by decide) ?_
            exact end_I C0 hP hD hS v (by simp only [f_X2_unload, if_neg c_2, if_neg c_6, if_neg c_10, if_pos c_14, if_neg c_16]) rfl dX2_unload_21
        · rw [show f_X2_machineAt a p0 = none from by (exact f_X2_machineAt_none c_2 c_6 c_10 c_14)]
          refine W.eq (g2 := F0 m 5 ls ([.null])) rfl ?_
          refine lv_astore_nN (lv' := [(2, .null), (0, .ref (a 0)), (1, .int p0)]) hx hb dX2_unload_5 rfl hl (by decide) rfl (fun ls hl => ?_)
          refine lv_aload_nN hx hb dX2_unload_6 rfl (lv_at hl 0 rfl) ?_
          refine lv_ifnonnullN hx hb dX2_unload_7 ?_
          refine lv_iconst (v := (-1)) hx hb dX2_unload_10 (by decide) ?_
          exact end_I C0 hP hD hS v (by simp only [f_X2_unload, if_neg c_2, if_neg c_6, if_neg c_10, if_neg c_14]) rfl dX2_unload_11

def f_X2_lightFires (v : (Nat → Int32)) (p0 : Int32) (p1 : Int32) : (Nat → Int32) :=
  (upd (upd v 0 p0) 1 p1)
set_option maxRecDepth 20000 in
theorem k_X2_lightFires_f107 : Cond.fieldLink RX2 107 "SteamRations$Boiler" "fire" "I" ∈ wsX2_lightFires := by decide +kernel
set_option maxRecDepth 20000 in
theorem in_X2_lightFires_RX0 : ∀ w ∈ u_ws RX0 TX0 5, w ∈ wsX2_lightFires := by decide +kernel
theorem cd_X2_lightFires : yX2_lightFires.cls = RX2 ∧ yX2_lightFires.cls ≠ "java/lang/invoke/MethodHandle" ∧ yX2_lightFires.cls ≠ "java/lang/invoke/VarHandle" ∧ (parseMethodDescriptor yX2_lightFires.desc).map (fun d => d.parameters.length) = some 2 := by decide +kernel
set_option maxHeartbeats 4000000 in
set_option maxRecDepth 100000 in
theorem c_X2_lightFires (l : Launch) (G : GG) (a : Nat → Nat) (v : (Nat → Int32)) (q : (Nat → Int32)) (sz : Nat) (p0 : Int32) (p1 : Int32)  : Met l yX2_lightFires wsX2_lightFires ({ frames := 1, cells := 0, slots := 0, locals := 21 }) (Pre G [.ref (a 0), .int p0, .int p1] (LC G a v q) sz) (PV G (va_A (LC G a v q) sz) (fun u : (Nat → Int32) => f_X2_lightFires v p0 p1 = u) (fun u : (Nat → Int32) => LC G a u q)) 0 0 (va_A (LC G a v q) sz) := by
  refine Met.walk (cc := cX2_lightFires) (maxL := 5) (ret := none) (Qc := fun A => PV G A (fun u : (Nat → Int32) => f_X2_lightFires v p0 p1 = u) (fun u : (Nat → Int32) => LC G a u q)) (by decide) rfl (Nat.le_of_ble_eq_true rfl) ?_
  intro p e s m below meth c A H C0 _ hK hsz hP hD hA hS ls hl
  have hx := C0.1
  have hb := C0.2.1
  have hown : s.vm.findClass RX2 = some m.cls := C0.2.2.2.2.1
  have hml := C0.2.2.2.1
  have hts : ∀ w ∈ wsX2_lightFires, w.before [.ref (a 0), .int p0, .int p1].toArray s = true := C0.2.2.2.2.2.1
  have hl : lv_has ls 5 [(0, .ref (a 0)), (1, .int p0), (2, .int p1)] := hl
  refine lv_aload_n hx hb dX2_lightFires_0 rfl (lv_at hl 0 rfl) ?_
  refine lv_iconst (v := (nI 0)) hx hb dX2_lightFires_1 (by decide) ?_
  refine gcall_Q (run_V (As := [.int (nI 0)]) (rest := []) C0 hK hP hD (c_X2_boilerAt l G a v q H.size (nI 0)) (cwV 1 hts gX2_lightFires_X2_boilerAt rfl rfl rfl cd_X2_boilerAt ⟨Nat.le_of_ble_eq_true rfl, Nat.le_of_ble_eq_true rfl⟩) [0, 1, 2, 3, 4, 5, 6, 7, 8, 9, 10] rfl rfl 0 (ci := 2) rfl rfl rfl rfl hl.1 rfl (Nat.le_of_ble_eq_true rfl) dX2_lightFires_2 ⟨Nat.le_of_ble_eq_true rfl, Nat.le_of_ble_eq_true rfl⟩) hP hD hS hA [0, 1, 2, 3, 4, 5, 6, 7, 8, 9, 10] rfl rfl (fun _ => rfl) (fun r_1 _ H locs hw_1 hP hD hS => ?_)
  subst hw_1
  have hP : va_P G.1 vwCl (LC G a v q) H := hP
  have hD : va_D A (LC G a v q) := hD
  rw [show f_X2_boilerAt a (nI 0) = some (a 2) from rfl]
  refine W.eq (g2 := F0 m 5 ls ([.ref (a 2)])) rfl ?_
  refine lv_astore_n (lv' := [(3, .ref (a 2)), (0, .ref (a 0)), (1, .int p0), (2, .int p1)]) hx hb dX2_lightFires_5 rfl hl (by decide) rfl (fun ls hl => ?_)
  refine lv_aload_n hx hb dX2_lightFires_6 rfl (lv_at hl 1 rfl) ?_
  refine lv_iconst (v := (nI 1)) hx hb dX2_lightFires_7 (by decide) ?_
  refine gcall_Q (run_V (As := [.int (nI 1)]) (rest := []) C0 hK hP hD (c_X2_boilerAt l G a v q H.size (nI 1)) (cwV 1 hts gX2_lightFires_X2_boilerAt rfl rfl rfl cd_X2_boilerAt ⟨Nat.le_of_ble_eq_true rfl, Nat.le_of_ble_eq_true rfl⟩) [0, 1, 2, 3, 4, 5, 6, 7, 8, 9, 10] rfl rfl 0 (ci := 2) rfl rfl rfl rfl hl.1 rfl (Nat.le_of_ble_eq_true rfl) dX2_lightFires_8 ⟨Nat.le_of_ble_eq_true rfl, Nat.le_of_ble_eq_true rfl⟩) hP hD hS hA [0, 1, 2, 3, 4, 5, 6, 7, 8, 9, 10] rfl rfl (fun _ => rfl) (fun r_2 _ H locs hw_2 hP hD hS => ?_)
  subst hw_2
  have hP : va_P G.1 vwCl (LC G a v q) H := hP
  have hD : va_D A (LC G a v q) := hD
  rw [show f_X2_boilerAt a (nI 1) = some (a 3) from rfl]
  refine W.eq (g2 := F0 m 11 ls ([.ref (a 3)])) rfl ?_
  refine lv_astore (lv' := [(4, .ref (a 3)), (3, .ref (a 2)), (0, .ref (a 0)), (1, .int p0), (2, .int p1)]) hx hb dX2_lightFires_11 hl (by decide) rfl (fun ls hl => ?_)
  refine lv_aload_n hx hb dX2_lightFires_13 rfl (lv_at hl 1 rfl) ?_
  refine lv_ifnull hx hb dX2_lightFires_14 ?_
  refine lv_aload hx hb dX2_lightFires_17 (lv_at hl 0 rfl) ?_
  refine lv_ifnull hx hb dX2_lightFires_19 ?_
  refine lv_aload_n hx hb dX2_lightFires_22 rfl (lv_at hl 1 rfl) ?_
  refine lv_iload_n hx hb dX2_lightFires_23 rfl (lv_at hl 3 rfl) ?_
  refine va_put (D := G.1) (ci := 0) (v := .int p0) (ty := .int) (C := RX0) (T := TX0) (N := 5) hx hb hts in_X2_lightFires_RX0 tyX0 tyX0_ok nmX0 hown hK.1 hP hD hS 2 rfl rfl 0 (by decide) (hts _ k_X2_lightFires_f107) (fun _ h9 => h9) rfl (by decide +kernel) rfl rfl (Nat.le_of_ble_eq_true rfl) dX2_lightFires_24 (fun H locs hP hD hS => ?_)
  have hP : va_P G.1 vwCl (LC G a (upd v 0 p0) q) H := hP
  have hD : va_D A (LC G a (upd v 0 p0) q) := hD
  refine lv_aload hx hb dX2_lightFires_27 (lv_at hl 0 rfl) ?_
  refine lv_iload_n hx hb dX2_lightFires_29 rfl (lv_at hl 4 rfl) ?_
  refine va_put (D := G.1) (ci := 0) (v := .int p1) (ty := .int) (C := RX0) (T := TX0) (N := 5) hx hb hts in_X2_lightFires_RX0 tyX0 tyX0_ok nmX0 hown hK.1 hP hD hS 3 rfl rfl 0 (by decide) (hts _ k_X2_lightFires_f107) (fun _ h9 => h9) rfl (by decide +kernel) rfl rfl (Nat.le_of_ble_eq_true rfl) dX2_lightFires_30 (fun H locs hP hD hS => ?_)
  have hP : va_P G.1 vwCl (LC G a (upd (upd v 0 p0) 1 p1) q) H := hP
  have hD : va_D A (LC G a (upd (upd v 0 p0) 1 p1) q) := hD
  exact end_V C0 hP hD hS (upd (upd v 0 p0) 1 p1) (by simp only [f_X2_lightFires]) rfl dX2_lightFires_33

def f_X2_receiveRation (v : (Nat → Int32)) : (Nat → Int32) :=
  (upd (upd v 10 ((v 10) + (if ((nI 999) - (v 10)) < (v 11) then ((nI 999) - (v 10)) else (v 11)))) 39 ((v 39) + (if ((nI 999) - (v 10)) < (v 11) then ((nI 999) - (v 10)) else (v 11))))
set_option maxRecDepth 20000 in
theorem k_X2_receiveRation_f32 : Cond.fieldLink RX2 32 "SteamRations$Laundry" "coal" "I" ∈ wsX2_receiveRation := by decide +kernel
set_option maxRecDepth 20000 in
theorem k_X2_receiveRation_f36 : Cond.fieldLink RX2 36 "SteamRations$Laundry" "ration" "I" ∈ wsX2_receiveRation := by decide +kernel
set_option maxRecDepth 20000 in
theorem k_X2_receiveRation_f61 : Cond.fieldLink RX2 61 "SteamRations$Laundry" "rationed" "I" ∈ wsX2_receiveRation := by decide +kernel
set_option maxRecDepth 20000 in
theorem in_X2_receiveRation_RX2 : ∀ w ∈ u_ws RX2 TX2 14, w ∈ wsX2_receiveRation := by decide +kernel
theorem cd_X2_receiveRation : yX2_receiveRation.cls = RX2 ∧ yX2_receiveRation.cls ≠ "java/lang/invoke/MethodHandle" ∧ yX2_receiveRation.cls ≠ "java/lang/invoke/VarHandle" ∧ (parseMethodDescriptor yX2_receiveRation.desc).map (fun d => d.parameters.length) = some 0 := by decide +kernel
set_option maxHeartbeats 4000000 in
set_option maxRecDepth 100000 in
theorem c_X2_receiveRation (l : Launch) (G : GG) (a : Nat → Nat) (v : (Nat → Int32)) (q : (Nat → Int32)) (sz : Nat)   : Met l yX2_receiveRation wsX2_receiveRation ({ frames := 1, cells := 0, slots := 0, locals := 40 }) (Pre G [.ref (a 0)] (LC G a v q) sz) (PV G (va_A (LC G a v q) sz) (fun u : (Nat → Int32) => f_X2_receiveRation v = u) (fun u : (Nat → Int32) => LC G a u q)) 0 0 (va_A (LC G a v q) sz) := by
  refine Met.walk (cc := cX2_receiveRation) (maxL := 2) (ret := none) (Qc := fun A => PV G A (fun u : (Nat → Int32) => f_X2_receiveRation v = u) (fun u : (Nat → Int32) => LC G a u q)) (by decide) rfl (Nat.le_of_ble_eq_true rfl) ?_
  intro p e s m below meth c A H C0 _ hK hsz hP hD hA hS ls hl
  have hx := C0.1
  have hb := C0.2.1
  have hown : s.vm.findClass RX2 = some m.cls := C0.2.2.2.2.1
  have hml := C0.2.2.2.1
  have hts : ∀ w ∈ wsX2_receiveRation, w.before [.ref (a 0)].toArray s = true := C0.2.2.2.2.2.1
  have hl : lv_has ls 2 [(0, .ref (a 0))] := hl
  refine lv_aload_n hx hb dX2_receiveRation_0 rfl (lv_at hl 0 rfl) ?_
  refine va_get (D := G.1) (ci := 2) (v := .int (v 11)) (C := RX2) (T := TX2) (N := 14) hx hb hts in_X2_receiveRation_RX2 hown hK.1 hP 0 rfl rfl 8 (by decide) (hts _ k_X2_receiveRation_f36) (fun _ h9 => h9) rfl dX2_receiveRation_1 ?_
  refine lv_sipush (v := (nI 999)) hx hb dX2_receiveRation_4 (by decide) ?_
  refine lv_aload_n hx hb dX2_receiveRation_7 rfl (lv_at hl 0 rfl) ?_
  refine va_get (D := G.1) (ci := 2) (v := .int (v 10)) (C := RX2) (T := TX2) (N := 14) hx hb hts in_X2_receiveRation_RX2 hown hK.1 hP 0 rfl rfl 7 (by decide) (hts _ k_X2_receiveRation_f32) (fun _ h9 => h9) rfl dX2_receiveRation_8 ?_
  refine lv_isub hx hb dX2_receiveRation_11 ?_
  refine va_mmin hx hb (by rw [hml]; exact hl.1.symm) (own := RX2) (index := 179) hown (hts _ (by decide +kernel)) (hts _ (by decide +kernel)) (hts _ (by decide +kernel)) (hts _ (by decide +kernel)) (Nat.le_of_ble_eq_true rfl) (Nat.le_of_ble_eq_true rfl) (Nat.zero_le _) (Nat.zero_le _) dX2_receiveRation_12 ?_
  refine lv_istore_n (lv' := [(1, .int (if ((nI 999) - (v 10)) < (v 11) then ((nI 999) - (v 10)) else (v 11))), (0, .ref (a 0))]) hx hb dX2_receiveRation_15 rfl hl (by decide) rfl (fun ls hl => ?_)
  refine lv_aload_n hx hb dX2_receiveRation_16 rfl (lv_at hl 1 rfl) ?_
  refine lv_dup hx hb dX2_receiveRation_17 rfl ?_
  refine va_get (D := G.1) (ci := 2) (v := .int (v 10)) (C := RX2) (T := TX2) (N := 14) hx hb hts in_X2_receiveRation_RX2 hown hK.1 hP 0 rfl rfl 7 (by decide) (hts _ k_X2_receiveRation_f32) (fun _ h9 => h9) rfl dX2_receiveRation_18 ?_
  refine lv_iload_n hx hb dX2_receiveRation_21 rfl (lv_at hl 0 rfl) ?_
  refine lv_iadd hx hb dX2_receiveRation_22 ?_
  refine va_put (D := G.1) (ci := 2) (v := .int ((v 10) + (if ((nI 999) - (v 10)) < (v 11) then ((nI 999) - (v 10)) else (v 11)))) (ty := .int) (C := RX2) (T := TX2) (N := 14) hx hb hts in_X2_receiveRation_RX2 tyX2 tyX2_ok nmX2 hown hK.1 hP hD hS 0 rfl rfl 7 (by decide) (hts _ k_X2_receiveRation_f32) (fun _ h9 => h9) rfl (by decide +kernel) rfl rfl (Nat.le_of_ble_eq_true rfl) dX2_receiveRation_23 (fun H locs hP hD hS => ?_)
  have hP : va_P G.1 vwCl (LC G a (upd v 10 ((v 10) + (if ((nI 999) - (v 10)) < (v 11) then ((nI 999) - (v 10)) else (v 11)))) q) H := hP
  have hD : va_D A (LC G a (upd v 10 ((v 10) + (if ((nI 999) - (v 10)) < (v 11) then ((nI 999) - (v 10)) else (v 11)))) q) := hD
  refine lv_aload_n hx hb dX2_receiveRation_26 rfl (lv_at hl 1 rfl) ?_
  refine lv_dup hx hb dX2_receiveRation_27 rfl ?_
  refine va_get (D := G.1) (ci := 2) (v := .int (v 39)) (C := RX2) (T := TX2) (N := 14) hx hb hts in_X2_receiveRation_RX2 hown hK.1 hP 0 rfl rfl 9 (by decide) (hts _ k_X2_receiveRation_f61) (fun _ h9 => h9) rfl dX2_receiveRation_28 ?_
  refine lv_iload_n hx hb dX2_receiveRation_31 rfl (lv_at hl 0 rfl) ?_
  refine lv_iadd hx hb dX2_receiveRation_32 ?_
  refine va_put (D := G.1) (ci := 2) (v := .int ((v 39) + (if ((nI 999) - (v 10)) < (v 11) then ((nI 999) - (v 10)) else (v 11)))) (ty := .int) (C := RX2) (T := TX2) (N := 14) hx hb hts in_X2_receiveRation_RX2 tyX2 tyX2_ok nmX2 hown hK.1 hP hD hS 0 rfl rfl 9 (by decide) (hts _ k_X2_receiveRation_f61) (fun _ h9 => h9) rfl (by decide +kernel) rfl rfl (Nat.le_of_ble_eq_true rfl) dX2_receiveRation_33 (fun H locs hP hD hS => ?_)
  have hP : va_P G.1 vwCl (LC G a (upd (upd v 10 ((v 10) + (if ((nI 999) - (v 10)) < (v 11) then ((nI 999) - (v 10)) else (v 11)))) 39 ((v 39) + (if ((nI 999) - (v 10)) < (v 11) then ((nI 999) - (v 10)) else (v 11)))) q) H := hP
  have hD : va_D A (LC G a (upd (upd v 10 ((v 10) + (if ((nI 999) - (v 10)) < (v 11) then ((nI 999) - (v 10)) else (v 11)))) 39 ((v 39) + (if ((nI 999) - (v 10)) < (v 11) then ((nI 999) - (v 10)) else (v 11)))) q) := hD
  exact end_V C0 hP hD hS (upd (upd v 10 ((v 10) + (if ((nI 999) - (v 10)) < (v 11) then ((nI 999) - (v 10)) else (v 11)))) 39 ((v 39) + (if ((nI 999) - (v 10)) < (v 11) then ((nI 999) - (v 10)) else (v 11)))) (by simp only [f_X2_receiveRation]) rfl dX2_receiveRation_36

def s_X2_takeSteam_2 (p0 : Int32) : Nat → (Nat → Int32) → Nat → (Nat → Int32)
  | 0, _, _ => fun _ => 0
  | n + 1, v_2, i =>
    if p0 ≤ (nI i) then
      v_2
    else
      if (v_2 5) ≤ (v_2 4) then
        s_X2_takeSteam_2 p0 n (upd v_2 4 ((v_2 4) - (nI 1))) (i + 1)
      else
        s_X2_takeSteam_2 p0 n (upd v_2 5 ((v_2 5) - (nI 1))) (i + 1)
def f_X2_takeSteam (v : (Nat → Int32)) (p0 : Int32) : (Nat → Int32) :=
  s_X2_takeSteam_2 p0 (p0.toNatClampNeg + 1) v 0
set_option maxRecDepth 20000 in
theorem k_X2_takeSteam_f12 : Cond.fieldLink RX2 12 "SteamRations$Laundry" "boilers" "[LSteamRations$Boiler;" ∈ wsX2_takeSteam := by decide +kernel
set_option maxRecDepth 20000 in
theorem k_X2_takeSteam_f87 : Cond.fieldLink RX2 87 "SteamRations$Boiler" "pressure" "I" ∈ wsX2_takeSteam := by decide +kernel
set_option maxRecDepth 20000 in
theorem in_X2_takeSteam_RX0 : ∀ w ∈ u_ws RX0 TX0 5, w ∈ wsX2_takeSteam := by decide +kernel
set_option maxRecDepth 20000 in
theorem in_X2_takeSteam_RX2 : ∀ w ∈ u_ws RX2 TX2 14, w ∈ wsX2_takeSteam := by decide +kernel
theorem cd_X2_takeSteam : yX2_takeSteam.cls = RX2 ∧ yX2_takeSteam.cls ≠ "java/lang/invoke/MethodHandle" ∧ yX2_takeSteam.cls ≠ "java/lang/invoke/VarHandle" ∧ (parseMethodDescriptor yX2_takeSteam.desc).map (fun d => d.parameters.length) = some 1 := by decide +kernel
set_option maxHeartbeats 4000000 in
set_option maxRecDepth 100000 in
theorem c_X2_takeSteam (l : Launch) (G : GG) (a : Nat → Nat) (v : (Nat → Int32)) (q : (Nat → Int32)) (sz : Nat) (p0 : Int32)  : Met l yX2_takeSteam wsX2_takeSteam ({ frames := 0, cells := 0, slots := 0, locals := 0 }) (Pre G [.ref (a 0), .int p0] (LC G a v q) sz) (PV G (va_A (LC G a v q) sz) (fun u : (Nat → Int32) => f_X2_takeSteam v p0 = u) (fun u : (Nat → Int32) => LC G a u q)) 0 0 (va_A (LC G a v q) sz) := by
  refine Met.walk (cc := cX2_takeSteam) (maxL := 8) (ret := none) (Qc := fun A => PV G A (fun u : (Nat → Int32) => f_X2_takeSteam v p0 = u) (fun u : (Nat → Int32) => LC G a u q)) (by decide) rfl (Nat.le_of_ble_eq_true rfl) ?_
  intro p e s m below meth c A H C0 _ hK hsz hP hD hA hS ls hl
  have hx := C0.1
  have hb := C0.2.1
  have hown : s.vm.findClass RX2 = some m.cls := C0.2.2.2.2.1
  have hml := C0.2.2.2.1
  have hts : ∀ w ∈ wsX2_takeSteam, w.before [.ref (a 0), .int p0].toArray s = true := C0.2.2.2.2.2.1
  have hl : lv_has ls 8 [(0, .ref (a 0)), (1, .int p0)] := hl
  have hN := natBig p0
  have h_X2_takeSteam_2 : ∀ (n : Nat) (v_2 : (Nat → Int32)) (i : Nat), p0.toNatClampNeg - i < n → (i ≤ p0.toNatClampNeg) → f_X2_takeSteam v p0 = s_X2_takeSteam_2 p0 n v_2 i → ∀ (H : Heap) (locs : List Loc) (ls : Array Slot), va_P G.1 vwCl (LC G a v_2 q) H → va_D A (LC G a v_2 q) → va_S A s.heap H locs → lv_has ls 8 [(2, .int (nI i)), (0, .ref (a 0)), (1, .int p0)] → W p l e ({ frames := 0, cells := 0, slots := 0, locals := 0 }) s m ([.ref (a 0), .int p0] : List Value).toArray below meth c H locs 0 0 (MQ below (PV G A (fun u : (Nat → Int32) => f_X2_takeSteam v p0 = u) (fun u : (Nat → Int32) => LC G a u q)) ([.ref (a 0), .int p0] : List Value).toArray s 0 0 A) (F0 m 2 ls []) := by
    intro n
    induction n with
    | zero =>
      intro v_2 i hm
      exact absurd hm (Nat.not_lt_zero _)
    | succ n ih =>
      intro v_2 i hm hi hE H locs ls hP hD hS hl
      refine lv_iload_n hx hb dX2_takeSteam_2 rfl (lv_at hl 0 rfl) ?_
      refine lv_iload_n hx hb dX2_takeSteam_3 rfl (lv_at hl 2 rfl) ?_
      refine lv_icmp_ge (tgt := 82) hx hb dX2_takeSteam_4 (by decide) (fun c_1 => ?_) (fun c_1 => ?_)
      · exact end_V C0 hP hD hS v_2 (hE.trans (by simp only [s_X2_takeSteam_2, if_pos c_1])) rfl dX2_takeSteam_82
      · have c_1g : i < p0.toNatClampNeg := ltNat c_1 (by omega)
        refine lv_null hx hb dX2_takeSteam_7 ?_
        refine lv_astore_nN (lv' := [(3, .null), (2, .int (nI i)), (0, .ref (a 0)), (1, .int p0)]) hx hb dX2_takeSteam_8 rfl hl (by decide) rfl (fun ls hl => ?_)
        refine lv_aload_n hx hb dX2_takeSteam_9 rfl (lv_at hl 2 rfl) ?_
        refine va_get (D := G.1) (ci := 2) (v := .ref (a 1)) (C := RX2) (T := TX2) (N := 14) hx hb hts in_X2_takeSteam_RX2 hown hK.1 hP 0 rfl rfl 0 (by decide) (hts _ k_X2_takeSteam_f12) (fun _ h9 => h9) rfl dX2_takeSteam_10 ?_
        refine lv_astore (lv' := [(4, .ref (a 1)), (3, .null), (2, .int (nI i)), (0, .ref (a 0)), (1, .int p0)]) hx hb dX2_takeSteam_13 hl (by decide) rfl (fun ls hl => ?_)
        refine lv_aload hx hb dX2_takeSteam_15 (lv_at hl 0 rfl) ?_
        refine n_alen (n := 2) hx hb hK hP 1 2 rfl rfl dX2_takeSteam_17 ?_
        refine lv_istore (lv' := [(5, .int (nI 2)), (4, .ref (a 1)), (3, .null), (2, .int (nI i)), (0, .ref (a 0)), (1, .int p0)]) hx hb dX2_takeSteam_18 hl (by decide) rfl (fun ls hl => ?_)
        refine lv_iconst (v := (nI 0)) hx hb dX2_takeSteam_20 (by decide) ?_
        refine lv_istore (lv' := [(6, .int (nI 0)), (5, .int (nI 2)), (4, .ref (a 1)), (3, .null), (2, .int (nI i)), (0, .ref (a 0)), (1, .int p0)]) hx hb dX2_takeSteam_21 hl (by decide) rfl (fun ls hl => ?_)
        refine lv_iload hx hb dX2_takeSteam_23 (lv_at hl 0 rfl) ?_
        refine lv_iload hx hb dX2_takeSteam_25 (lv_at hl 1 rfl) ?_
        refine lv_icmp_ge (tgt := 62) hx hb dX2_takeSteam_27 (by decide) (fun c_2 => absurd c_2 (by decide +kernel)) (fun c_2 => ?_)
        refine lv_aload hx hb dX2_takeSteam_30 (lv_at hl 2 rfl) ?_
        refine lv_iload hx hb dX2_takeSteam_32 (lv_at hl 0 rfl) ?_
        refine n_aald (j := 0) (v := .ref (a 2)) (Cn := "SteamRations$Boiler") hx hb hK hP 1 2 rfl rfl (by decide) (by decide) rfl dX2_takeSteam_34 ?_
        refine lv_astore (lv' := [(7, .ref (a 2)), (6, .int (nI 0)), (5, .int (nI 2)), (4, .ref (a 1)), (3, .null), (2, .int (nI i)), (0, .ref (a 0)), (1, .int p0)]) hx hb dX2_takeSteam_35 hl (by decide) rfl (fun ls hl => ?_)
        refine lv_aload_nN hx hb dX2_takeSteam_37 rfl (lv_at hl 4 rfl) ?_
        refine lv_ifnullN (tgt := 53) hx hb dX2_takeSteam_38 (by decide) ?_
        refine lv_aload hx hb dX2_takeSteam_53 (lv_at hl 0 rfl) ?_
        refine lv_astore_n (lv' := [(3, .ref (a 2)), (7, .ref (a 2)), (6, .int (nI 0)), (5, .int (nI 2)), (4, .ref (a 1)), (2, .int (nI i)), (0, .ref (a 0)), (1, .int p0)]) hx hb dX2_takeSteam_55 rfl hl (by decide) rfl (fun ls hl => ?_)
        refine lv_iinc (v := (nI 1)) (lv' := [(6, .int (nI 1)), (3, .ref (a 2)), (7, .ref (a 2)), (5, .int (nI 2)), (4, .ref (a 1)), (2, .int (nI i)), (0, .ref (a 0)), (1, .int p0)]) hx hb dX2_takeSteam_56 hl (k := 2) rfl (inc1 0) (by decide) rfl (fun ls hl => ?_)
        refine lv_goto (tgt := 23) hx hb dX2_takeSteam_59 (by decide) ?_
        refine lv_iload hx hb dX2_takeSteam_23 (lv_at hl 0 rfl) ?_
        refine lv_iload hx hb dX2_takeSteam_25 (lv_at hl 3 rfl) ?_
        refine lv_icmp_ge (tgt := 62) hx hb dX2_takeSteam_27 (by decide) (fun c_3 => absurd c_3 (by decide +kernel)) (fun c_3 => ?_)
        refine lv_aload hx hb dX2_takeSteam_30 (lv_at hl 4 rfl) ?_
        refine lv_iload hx hb dX2_takeSteam_32 (lv_at hl 0 rfl) ?_
        refine n_aald (j := 1) (v := .ref (a 3)) (Cn := "SteamRations$Boiler") hx hb hK hP 1 2 rfl rfl (by decide) (by decide) rfl dX2_takeSteam_34 ?_
        refine lv_astore (lv' := [(7, .ref (a 3)), (6, .int (nI 1)), (3, .ref (a 2)), (5, .int (nI 2)), (4, .ref (a 1)), (2, .int (nI i)), (0, .ref (a 0)), (1, .int p0)]) hx hb dX2_takeSteam_35 hl (by decide) rfl (fun ls hl => ?_)
        refine lv_aload_n hx hb dX2_takeSteam_37 rfl (lv_at hl 2 rfl) ?_
        refine lv_ifnull hx hb dX2_takeSteam_38 ?_
        refine lv_aload hx hb dX2_takeSteam_41 (lv_at hl 0 rfl) ?_
        refine va_get (D := G.1) (ci := 0) (v := .int (v_2 5)) (C := RX0) (T := TX0) (N := 5) hx hb hts in_X2_takeSteam_RX0 hown hK.1 hP 3 rfl rfl 2 (by decide) (hts _ k_X2_takeSteam_f87) (fun _ h9 => h9) rfl dX2_takeSteam_43 ?_
        refine lv_aload_n hx hb dX2_takeSteam_46 rfl (lv_at hl 2 rfl) ?_
        refine va_get (D := G.1) (ci := 0) (v := .int (v_2 4)) (C := RX0) (T := TX0) (N := 5) hx hb hts in_X2_takeSteam_RX0 hown hK.1 hP 2 rfl rfl 2 (by decide) (hts _ k_X2_takeSteam_f87) (fun _ h9 => h9) rfl dX2_takeSteam_47 ?_
        refine lv_icmp_le (tgt := 56) hx hb dX2_takeSteam_50 (by decide) (fun c_4 => ?_) (fun c_4 => ?_)
        · refine lv_iinc (v := (nI 2)) (lv' := [(6, .int (nI 2)), (7, .ref (a 3)), (3, .ref (a 2)), (5, .int (nI 2)), (4, .ref (a 1)), (2, .int (nI i)), (0, .ref (a 0)), (1, .int p0)]) hx hb dX2_takeSteam_56 hl (k := 1) rfl (inc1 1) (by decide) rfl (fun ls hl => ?_)
          refine lv_goto (tgt := 23) hx hb dX2_takeSteam_59 (by decide) ?_
          refine lv_iload hx hb dX2_takeSteam_23 (lv_at hl 0 rfl) ?_
          refine lv_iload hx hb dX2_takeSteam_25 (lv_at hl 3 rfl) ?_
          refine lv_icmp_ge (tgt := 62) hx hb dX2_takeSteam_27 (by decide) (fun c_5 => ?_) (fun c_5 => absurd (by decide +kernel) c_5)
          refine lv_aload_n hx hb dX2_takeSteam_62 rfl (lv_at hl 2 rfl) ?_
          refine lv_ifnull hx hb dX2_takeSteam_63 ?_
          refine lv_aload_n hx hb dX2_takeSteam_66 rfl (lv_at hl 2 rfl) ?_
          refine lv_dup hx hb dX2_takeSteam_67 rfl ?_
          refine va_get (D := G.1) (ci := 0) (v := .int (v_2 4)) (C := RX0) (T := TX0) (N := 5) hx hb hts in_X2_takeSteam_RX0 hown hK.1 hP 2 rfl rfl 2 (by decide) (hts _ k_X2_takeSteam_f87) (fun _ h9 => h9) rfl dX2_takeSteam_68 ?_
          refine lv_iconst (v := (nI 1)) hx hb dX2_takeSteam_71 (by decide) ?_
          refine lv_isub hx hb dX2_takeSteam_72 ?_
          refine va_put (D := G.1) (ci := 0) (v := .int ((v_2 4) - (nI 1))) (ty := .int) (C := RX0) (T := TX0) (N := 5) hx hb hts in_X2_takeSteam_RX0 tyX0 tyX0_ok nmX0 hown hK.1 hP hD hS 2 rfl rfl 2 (by decide) (hts _ k_X2_takeSteam_f87) (fun _ h9 => h9) rfl (by decide +kernel) rfl rfl (Nat.le_of_ble_eq_true rfl) dX2_takeSteam_73 (fun H locs hP hD hS => ?_)
          have hP : va_P G.1 vwCl (LC G a (upd v_2 4 ((v_2 4) - (nI 1))) q) H := hP
          have hD : va_D A (LC G a (upd v_2 4 ((v_2 4) - (nI 1))) q) := hD
          refine lv_iinc (v := (nI (i + 1))) (lv' := [(2, .int (nI (i + 1))), (6, .int (nI 2)), (7, .ref (a 3)), (3, .ref (a 2)), (5, .int (nI 2)), (4, .ref (a 1)), (0, .ref (a 0)), (1, .int p0)]) hx hb dX2_takeSteam_76 hl (k := 5) rfl (inc1 i) (by decide) rfl (fun ls hl => ?_)
          refine lv_goto (tgt := 2) hx hb dX2_takeSteam_79 (by decide) ?_
          exact ih (upd v_2 4 ((v_2 4) - (nI 1))) (i + 1) (by omega) (by omega) (hE.trans (by simp only [s_X2_takeSteam_2, if_neg c_1, if_pos c_4])) _ _ _ hP hD hS (lv_sub hl [0, 6, 7] rfl)
        · refine lv_aload hx hb dX2_takeSteam_53 (lv_at hl 0 rfl) ?_
          refine lv_astore_n (lv' := [(3, .ref (a 3)), (7, .ref (a 3)), (6, .int (nI 1)), (5, .int (nI 2)), (4, .ref (a 1)), (2, .int (nI i)), (0, .ref (a 0)), (1, .int p0)]) hx hb dX2_takeSteam_55 rfl hl (by decide) rfl (fun ls hl => ?_)
          refine lv_iinc (v := (nI 2)) (lv' := [(6, .int (nI 2)), (3, .ref (a 3)), (7, .ref (a 3)), (5, .int (nI 2)), (4, .ref (a 1)), (2, .int (nI i)), (0, .ref (a 0)), (1, .int p0)]) hx hb dX2_takeSteam_56 hl (k := 2) rfl (inc1 1) (by decide) rfl (fun ls hl => ?_)
          refine lv_goto (tgt := 23) hx hb dX2_takeSteam_59 (by decide) ?_
          refine lv_iload hx hb dX2_takeSteam_23 (lv_at hl 0 rfl) ?_
          refine lv_iload hx hb dX2_takeSteam_25 (lv_at hl 3 rfl) ?_
          refine lv_icmp_ge (tgt := 62) hx hb dX2_takeSteam_27 (by decide) (fun c_6 => ?_) (fun c_6 => absurd (by decide +kernel) c_6)
          refine lv_aload_n hx hb dX2_takeSteam_62 rfl (lv_at hl 1 rfl) ?_
          refine lv_ifnull hx hb dX2_takeSteam_63 ?_
          refine lv_aload_n hx hb dX2_takeSteam_66 rfl (lv_at hl 1 rfl) ?_
          refine lv_dup hx hb dX2_takeSteam_67 rfl ?_
          refine va_get (D := G.1) (ci := 0) (v := .int (v_2 5)) (C := RX0) (T := TX0) (N := 5) hx hb hts in_X2_takeSteam_RX0 hown hK.1 hP 3 rfl rfl 2 (by decide) (hts _ k_X2_takeSteam_f87) (fun _ h9 => h9) rfl dX2_takeSteam_68 ?_
          refine lv_iconst (v := (nI 1)) hx hb dX2_takeSteam_71 (by decide) ?_
          refine lv_isub hx hb dX2_takeSteam_72 ?_
          refine va_put (D := G.1) (ci := 0) (v := .int ((v_2 5) - (nI 1))) (ty := .int) (C := RX0) (T := TX0) (N := 5) hx hb hts in_X2_takeSteam_RX0 tyX0 tyX0_ok nmX0 hown hK.1 hP hD hS 3 rfl rfl 2 (by decide) (hts _ k_X2_takeSteam_f87) (fun _ h9 => h9) rfl (by decide +kernel) rfl rfl (Nat.le_of_ble_eq_true rfl) dX2_takeSteam_73 (fun H locs hP hD hS => ?_)
          have hP : va_P G.1 vwCl (LC G a (upd v_2 5 ((v_2 5) - (nI 1))) q) H := hP
          have hD : va_D A (LC G a (upd v_2 5 ((v_2 5) - (nI 1))) q) := hD
          refine lv_iinc (v := (nI (i + 1))) (lv' := [(2, .int (nI (i + 1))), (6, .int (nI 2)), (3, .ref (a 3)), (7, .ref (a 3)), (5, .int (nI 2)), (4, .ref (a 1)), (0, .ref (a 0)), (1, .int p0)]) hx hb dX2_takeSteam_76 hl (k := 5) rfl (inc1 i) (by decide) rfl (fun ls hl => ?_)
          refine lv_goto (tgt := 2) hx hb dX2_takeSteam_79 (by decide) ?_
          exact ih (upd v_2 5 ((v_2 5) - (nI 1))) (i + 1) (by omega) (by omega) (hE.trans (by simp only [s_X2_takeSteam_2, if_neg c_1, if_neg c_4])) _ _ _ hP hD hS (lv_sub hl [0, 6, 7] rfl)
  refine lv_iconst (v := (nI 0)) hx hb dX2_takeSteam_0 (by decide) ?_
  refine lv_istore_n (lv' := [(2, .int (nI 0)), (0, .ref (a 0)), (1, .int p0)]) hx hb dX2_takeSteam_1 rfl hl (by decide) rfl (fun ls hl => ?_)
  exact h_X2_takeSteam_2 (p0.toNatClampNeg + 1) v 0 (by omega) (by omega) (by simp only [f_X2_takeSteam]) _ _ _ hP hD hS (lv_sub hl [0, 1, 2] rfl)

def s_X2_workLoads_10_4  (v_10 : (Nat → Int32)) : (Nat → Int32) :=
  v_10
def s_X2_workLoads_10_3  (v_10 : (Nat → Int32)) : (Nat → Int32) :=
  if (f_X3_isEmpty (v_10 16)) = 0 then
    if ((v_10 20) - (nI 1)) = 0 then
      s_X2_workLoads_10_4 (upd (upd (upd (upd (upd (upd v_10 20 ((v_10 20) - (nI 1))) 41 ((v_10 41) + (nI 1))) 44 ((v_10 44) + (f_X6_worthOf (v_10 16)))) 16 (-5)) 20 (nI 0)) 24 (nI 0))
    else
      s_X2_workLoads_10_4 (upd v_10 20 ((v_10 20) - (nI 1)))
  else
    s_X2_workLoads_10_4 v_10
def s_X2_workLoads_10_2  (v_10 : (Nat → Int32)) : (Nat → Int32) :=
  if (f_X3_isEmpty (v_10 15)) = 0 then
    if ((v_10 19) - (nI 1)) = 0 then
      s_X2_workLoads_10_3 (upd (upd (upd (upd (upd (upd v_10 19 ((v_10 19) - (nI 1))) 41 ((v_10 41) + (nI 1))) 44 ((v_10 44) + (f_X6_worthOf (v_10 15)))) 15 (-5)) 19 (nI 0)) 23 (nI 0))
    else
      s_X2_workLoads_10_3 (upd v_10 19 ((v_10 19) - (nI 1)))
  else
    s_X2_workLoads_10_3 v_10
def s_X2_workLoads_10_1  (v_10 : (Nat → Int32)) : (Nat → Int32) :=
  if (f_X3_isEmpty (v_10 14)) = 0 then
    if ((v_10 18) - (nI 1)) = 0 then
      s_X2_workLoads_10_2 (upd (upd (upd (upd (upd (upd v_10 18 ((v_10 18) - (nI 1))) 41 ((v_10 41) + (nI 1))) 44 ((v_10 44) + (f_X6_worthOf (v_10 14)))) 14 (-5)) 18 (nI 0)) 22 (nI 0))
    else
      s_X2_workLoads_10_2 (upd v_10 18 ((v_10 18) - (nI 1)))
  else
    s_X2_workLoads_10_2 v_10
def s_X2_workLoads_10_0  (v_10 : (Nat → Int32)) : (Nat → Int32) :=
  if (f_X3_isEmpty (v_10 13)) = 0 then
    if ((v_10 17) - (nI 1)) = 0 then
      s_X2_workLoads_10_1 (upd (upd (upd (upd (upd (upd v_10 17 ((v_10 17) - (nI 1))) 41 ((v_10 41) + (nI 1))) 44 ((v_10 44) + (f_X6_worthOf (v_10 13)))) 13 (-5)) 17 (nI 0)) 21 (nI 0))
    else
      s_X2_workLoads_10_1 (upd v_10 17 ((v_10 17) - (nI 1)))
  else
    s_X2_workLoads_10_1 v_10
def f_X2_workLoads (v : (Nat → Int32)) : (Nat → Int32) :=
  s_X2_workLoads_10_0 v
set_option maxRecDepth 20000 in
theorem k_X2_workLoads_f125 : Cond.fieldLink RX2 125 "SteamRations$Machine" "left" "I" ∈ wsX2_workLoads := by decide +kernel
set_option maxRecDepth 20000 in
theorem k_X2_workLoads_f185 : Cond.fieldLink RX2 185 "SteamRations$Machine" "kind" "I" ∈ wsX2_workLoads := by decide +kernel
set_option maxRecDepth 20000 in
theorem k_X2_workLoads_f21 : Cond.fieldLink RX2 21 "SteamRations$Laundry" "machines" "[LSteamRations$Machine;" ∈ wsX2_workLoads := by decide +kernel
set_option maxRecDepth 20000 in
theorem k_X2_workLoads_f52 : Cond.fieldLink RX2 52 "SteamRations$Laundry" "washed" "I" ∈ wsX2_workLoads := by decide +kernel
set_option maxRecDepth 20000 in
theorem k_X2_workLoads_f70 : Cond.fieldLink RX2 70 "SteamRations$Laundry" "worth" "I" ∈ wsX2_workLoads := by decide +kernel
set_option maxRecDepth 20000 in
theorem in_X2_workLoads_RX2 : ∀ w ∈ u_ws RX2 TX2 14, w ∈ wsX2_workLoads := by decide +kernel
set_option maxRecDepth 20000 in
theorem in_X2_workLoads_RX3 : ∀ w ∈ u_ws RX3 TX3 3, w ∈ wsX2_workLoads := by decide +kernel
theorem cd_X2_workLoads : yX2_workLoads.cls = RX2 ∧ yX2_workLoads.cls ≠ "java/lang/invoke/MethodHandle" ∧ yX2_workLoads.cls ≠ "java/lang/invoke/VarHandle" ∧ (parseMethodDescriptor yX2_workLoads.desc).map (fun d => d.parameters.length) = some 0 := by decide +kernel
set_option maxHeartbeats 4000000 in
set_option maxRecDepth 100000 in
theorem c_X2_workLoads (l : Launch) (G : GG) (a : Nat → Nat) (v : (Nat → Int32)) (q : (Nat → Int32)) (sz : Nat)   : Met l yX2_workLoads wsX2_workLoads ({ frames := 1, cells := 0, slots := 0, locals := 20 }) (Pre G [.ref (a 0)] (LC G a v q) sz) (PV G (va_A (LC G a v q) sz) (fun u : (Nat → Int32) => f_X2_workLoads v = u) (fun u : (Nat → Int32) => LC G a u q)) 0 0 (va_A (LC G a v q) sz) := by
  refine Met.walk (cc := cX2_workLoads) (maxL := 5) (ret := none) (Qc := fun A => PV G A (fun u : (Nat → Int32) => f_X2_workLoads v = u) (fun u : (Nat → Int32) => LC G a u q)) (by decide) rfl (Nat.le_of_ble_eq_true rfl) ?_
  intro p e s m below meth c A H C0 _ hK hsz hP hD hA hS ls hl
  have hx := C0.1
  have hb := C0.2.1
  have hown : s.vm.findClass RX2 = some m.cls := C0.2.2.2.2.1
  have hml := C0.2.2.2.1
  have hts : ∀ w ∈ wsX2_workLoads, w.before [.ref (a 0)].toArray s = true := C0.2.2.2.2.2.1
  have hl : lv_has ls 5 [(0, .ref (a 0))] := hl
  have h_X2_workLoads_10_4 : ∀ (v_10 : (Nat → Int32)), f_X2_workLoads v = s_X2_workLoads_10_4 v_10 → ∀ (H : Heap) (locs : List Loc) (ls : Array Slot), va_P G.1 vwCl (LC G a v_10 q) H → va_D A (LC G a v_10 q) → va_S A s.heap H locs → lv_has ls 5 [(3, .int (nI 4)), (2, .int (nI 4)), (1, .ref (a 4)), (0, .ref (a 0))] → W p l e ({ frames := 1, cells := 0, slots := 0, locals := 20 }) s m ([.ref (a 0)] : List Value).toArray below meth c H locs 0 0 (MQ below (PV G A (fun u : (Nat → Int32) => f_X2_workLoads v = u) (fun u : (Nat → Int32) => LC G a u q)) ([.ref (a 0)] : List Value).toArray s 0 0 A) (F0 m 10 ls []) := by
    intro v_10  hE H locs ls hP hD hS hl
    refine lv_iload_n hx hb dX2_workLoads_10 rfl (lv_at hl 0 rfl) ?_
    refine lv_iload_n hx hb dX2_workLoads_11 rfl (lv_at hl 1 rfl) ?_
    refine lv_icmp_ge (tgt := 88) hx hb dX2_workLoads_12 (by decide) (fun c_17 => ?_) (fun c_17 => absurd (by decide +kernel) c_17)
    exact end_V C0 hP hD hS v_10 (hE.trans (by simp only [s_X2_workLoads_10_4])) rfl dX2_workLoads_88
  have h_X2_workLoads_10_3 : ∀ (v_10 : (Nat → Int32)), f_X2_workLoads v = s_X2_workLoads_10_3 v_10 → ∀ (H : Heap) (locs : List Loc) (ls : Array Slot), va_P G.1 vwCl (LC G a v_10 q) H → va_D A (LC G a v_10 q) → va_S A s.heap H locs → lv_has ls 5 [(3, .int (nI 3)), (2, .int (nI 4)), (1, .ref (a 4)), (0, .ref (a 0))] → W p l e ({ frames := 1, cells := 0, slots := 0, locals := 20 }) s m ([.ref (a 0)] : List Value).toArray below meth c H locs 0 0 (MQ below (PV G A (fun u : (Nat → Int32) => f_X2_workLoads v = u) (fun u : (Nat → Int32) => LC G a u q)) ([.ref (a 0)] : List Value).toArray s 0 0 A) (F0 m 10 ls []) := by
    intro v_10  hE H locs ls hP hD hS hl
    refine lv_iload_n hx hb dX2_workLoads_10 rfl (lv_at hl 0 rfl) ?_
    refine lv_iload_n hx hb dX2_workLoads_11 rfl (lv_at hl 1 rfl) ?_
    refine lv_icmp_ge (tgt := 88) hx hb dX2_workLoads_12 (by decide) (fun c_13 => absurd c_13 (by decide +kernel)) (fun c_13 => ?_)
    refine lv_aload_n hx hb dX2_workLoads_15 rfl (lv_at hl 2 rfl) ?_
    refine lv_iload_n hx hb dX2_workLoads_16 rfl (lv_at hl 0 rfl) ?_
    refine n_aald (j := 3) (v := .ref (a 8)) (Cn := "SteamRations$Machine") hx hb hK hP 4 3 rfl rfl (by decide) (by decide) rfl dX2_workLoads_17 ?_
    refine lv_astore (lv' := [(4, .ref (a 8)), (3, .int (nI 3)), (2, .int (nI 4)), (1, .ref (a 4)), (0, .ref (a 0))]) hx hb dX2_workLoads_18 hl (by decide) rfl (fun ls hl => ?_)
    refine lv_aload hx hb dX2_workLoads_20 (lv_at hl 0 rfl) ?_
    refine gcall_I (run_V (As := []) (rest := []) C0 hK hP hD (c_X3_isEmpty l G (a 8) (v_10 16) (v_10 20) (v_10 24) H.size ) (cwV 0 hts gX2_workLoads_X3_isEmpty rfl rfl rfl cd_X3_isEmpty ⟨Nat.le_of_ble_eq_true rfl, Nat.le_of_ble_eq_true rfl⟩) [8] rfl rfl 8 (ci := 3) rfl rfl rfl rfl hl.1 rfl (Nat.le_of_ble_eq_true rfl) dX2_workLoads_22 ⟨Nat.le_of_ble_eq_true rfl, Nat.le_of_ble_eq_true rfl⟩) hP hD hS hA [8] rfl rfl (fun _ => rfl) (fun r_14 _ H locs hw_14 hP hD hS => ?_)
    have hz_r_14 := hw_14.2
    have hw_14 := hw_14.1
    subst hw_14
    have hP : va_P G.1 vwCl (LC G a v_10 q) H := hP
    have hD : va_D A (LC G a v_10 q) := hD
    refine lv_if_eq (tgt := 31) hx hb dX2_workLoads_25 (by decide) (fun c_15 => ?_) (fun c_15 => ?_)
    · refine lv_aload hx hb dX2_workLoads_31 (lv_at hl 0 rfl) ?_
      refine lv_dup hx hb dX2_workLoads_33 rfl ?_
      refine va_get (D := G.1) (ci := 3) (v := .int (v_10 20)) (C := RX3) (T := TX3) (N := 3) hx hb hts in_X2_workLoads_RX3 hown hK.1 hP 8 rfl rfl 1 (by decide) (hts _ k_X2_workLoads_f125) (fun _ h9 => h9) rfl dX2_workLoads_34 ?_
      refine lv_iconst (v := (nI 1)) hx hb dX2_workLoads_37 (by decide) ?_
      refine lv_isub hx hb dX2_workLoads_38 ?_
      refine va_put (D := G.1) (ci := 3) (v := .int ((v_10 20) - (nI 1))) (ty := .int) (C := RX3) (T := TX3) (N := 3) hx hb hts in_X2_workLoads_RX3 tyX3 tyX3_ok nmX3 hown hK.1 hP hD hS 8 rfl rfl 1 (by decide) (hts _ k_X2_workLoads_f125) (fun _ h9 => h9) rfl (by decide +kernel) rfl rfl (Nat.le_of_ble_eq_true rfl) dX2_workLoads_39 (fun H locs hP hD hS => ?_)
      have hP : va_P G.1 vwCl (LC G a (upd v_10 20 ((v_10 20) - (nI 1))) q) H := hP
      have hD : va_D A (LC G a (upd v_10 20 ((v_10 20) - (nI 1))) q) := hD
      refine lv_aload hx hb dX2_workLoads_42 (lv_at hl 0 rfl) ?_
      refine va_get (D := G.1) (ci := 3) (v := .int ((v_10 20) - (nI 1))) (C := RX3) (T := TX3) (N := 3) hx hb hts in_X2_workLoads_RX3 hown hK.1 hP 8 rfl rfl 1 (by decide) (hts _ k_X2_workLoads_f125) (fun _ h9 => h9) rfl dX2_workLoads_44 ?_
      refine lv_if_ne (tgt := 82) hx hb dX2_workLoads_47 (by decide) (fun c_16 => ?_) (fun c_16 => ?_)
      · refine lv_iinc (v := (nI 4)) (lv' := [(3, .int (nI 4)), (4, .ref (a 8)), (2, .int (nI 4)), (1, .ref (a 4)), (0, .ref (a 0))]) hx hb dX2_workLoads_82 hl (k := 1) rfl (inc1 3) (by decide) rfl (fun ls hl => ?_)
        refine lv_goto (tgt := 10) hx hb dX2_workLoads_85 (by decide) ?_
        exact h_X2_workLoads_10_4 (upd v_10 20 ((v_10 20) - (nI 1)))  (hE.trans (by simp only [s_X2_workLoads_10_3, if_pos c_15, if_neg c_16])) _ _ _ hP hD hS (lv_sub hl [0, 2, 3, 4] rfl)
      · refine lv_aload_n hx hb dX2_workLoads_50 rfl (lv_at hl 4 rfl) ?_
        refine lv_dup hx hb dX2_workLoads_51 rfl ?_
        refine va_get (D := G.1) (ci := 2) (v := .int (v_10 41)) (C := RX2) (T := TX2) (N := 14) hx hb hts in_X2_workLoads_RX2 hown hK.1 hP 0 rfl rfl 4 (by decide) (hts _ k_X2_workLoads_f52) (fun _ h9 => h9) rfl dX2_workLoads_52 ?_
        refine lv_iconst (v := (nI 1)) hx hb dX2_workLoads_55 (by decide) ?_
        refine lv_iadd hx hb dX2_workLoads_56 ?_
        refine va_put (D := G.1) (ci := 2) (v := .int ((v_10 41) + (nI 1))) (ty := .int) (C := RX2) (T := TX2) (N := 14) hx hb hts in_X2_workLoads_RX2 tyX2 tyX2_ok nmX2 hown hK.1 hP hD hS 0 rfl rfl 4 (by decide) (hts _ k_X2_workLoads_f52) (fun _ h9 => h9) rfl (by decide +kernel) rfl rfl (Nat.le_of_ble_eq_true rfl) dX2_workLoads_57 (fun H locs hP hD hS => ?_)
        have hP : va_P G.1 vwCl (LC G a (upd (upd v_10 20 ((v_10 20) - (nI 1))) 41 ((v_10 41) + (nI 1))) q) H := hP
        have hD : va_D A (LC G a (upd (upd v_10 20 ((v_10 20) - (nI 1))) 41 ((v_10 41) + (nI 1))) q) := hD
        refine lv_aload_n hx hb dX2_workLoads_60 rfl (lv_at hl 4 rfl) ?_
        refine lv_dup hx hb dX2_workLoads_61 rfl ?_
        refine va_get (D := G.1) (ci := 2) (v := .int (v_10 44)) (C := RX2) (T := TX2) (N := 14) hx hb hts in_X2_workLoads_RX2 hown hK.1 hP 0 rfl rfl 12 (by decide) (hts _ k_X2_workLoads_f70) (fun _ h9 => h9) rfl dX2_workLoads_62 ?_
        refine lv_aload hx hb dX2_workLoads_65 (lv_at hl 0 rfl) ?_
        refine va_get (D := G.1) (ci := 3) (v := .int (v_10 16)) (C := RX3) (T := TX3) (N := 3) hx hb hts in_X2_workLoads_RX3 hown hK.1 hP 8 rfl rfl 0 (by decide) (hts _ k_X2_workLoads_f185) (fun _ h9 => h9) rfl dX2_workLoads_67 ?_
        refine gcall_I (run_SN (As := [.int (v_10 16)]) (rest := [.int (v_10 44), .ref (a 0)]) C0 hK hP hD (c_X6_worthOf l G   H.size (v_10 16)) (va_cnB 1 hts gX2_workLoads_X6_worthOf_n191 rfl rfl rfl hK.2.2.2.2.2.1 (hts _ (by decide +kernel)) cd2_X6_worthOf ⟨Nat.le_of_ble_eq_true rfl, Nat.le_of_ble_eq_true rfl⟩) (hts _ (by decide +kernel)) [] rfl rfl rfl hl.1 rfl (Nat.le_of_ble_eq_true rfl) dX2_workLoads_70 ⟨Nat.le_of_ble_eq_true rfl, Nat.le_of_ble_eq_true rfl⟩) hP hD hS hA [] rfl rfl (fun _ => rfl) (fun r_18 _ H locs hw_18 hP hD hS => ?_)
        subst hw_18
        have hP : va_P G.1 vwCl (LC G a (upd (upd v_10 20 ((v_10 20) - (nI 1))) 41 ((v_10 41) + (nI 1))) q) H := hP
        have hD : va_D A (LC G a (upd (upd v_10 20 ((v_10 20) - (nI 1))) 41 ((v_10 41) + (nI 1))) q) := hD
        refine lv_iadd hx hb dX2_workLoads_73 ?_
        refine va_put (D := G.1) (ci := 2) (v := .int ((v_10 44) + (f_X6_worthOf (v_10 16)))) (ty := .int) (C := RX2) (T := TX2) (N := 14) hx hb hts in_X2_workLoads_RX2 tyX2 tyX2_ok nmX2 hown hK.1 hP hD hS 0 rfl rfl 12 (by decide) (hts _ k_X2_workLoads_f70) (fun _ h9 => h9) rfl (by decide +kernel) rfl rfl (Nat.le_of_ble_eq_true rfl) dX2_workLoads_74 (fun H locs hP hD hS => ?_)
        have hP : va_P G.1 vwCl (LC G a (upd (upd (upd v_10 20 ((v_10 20) - (nI 1))) 41 ((v_10 41) + (nI 1))) 44 ((v_10 44) + (f_X6_worthOf (v_10 16)))) q) H := hP
        have hD : va_D A (LC G a (upd (upd (upd v_10 20 ((v_10 20) - (nI 1))) 41 ((v_10 41) + (nI 1))) 44 ((v_10 44) + (f_X6_worthOf (v_10 16)))) q) := hD
        refine lv_aload hx hb dX2_workLoads_77 (lv_at hl 0 rfl) ?_
        refine gcall_V (run_V (As := []) (rest := []) C0 hK hP hD (c_X3_clear l G (a 8) (v_10 16) ((v_10 20) - (nI 1)) (v_10 24) H.size ) (cwV 0 hts gX2_workLoads_X3_clear rfl rfl rfl cd_X3_clear ⟨Nat.le_of_ble_eq_true rfl, Nat.le_of_ble_eq_true rfl⟩) [8] rfl rfl 8 (ci := 3) rfl rfl rfl rfl hl.1 rfl (Nat.le_of_ble_eq_true rfl) dX2_workLoads_79 ⟨Nat.le_of_ble_eq_true rfl, Nat.le_of_ble_eq_true rfl⟩) hP hD hS hA [8] rfl rfl (fun _ => rfl) (fun u_19 H locs hw_19 hP hD hS => ?_)
        obtain ⟨mk_c19, mt_c19, mw_c19⟩ := u_19
        simp only [f_X3_clear, Prod.mk.injEq] at hw_19
        obtain ⟨rfl, rfl, rfl⟩ := hw_19
        have hP : va_P G.1 vwCl (LC G a (upd (upd (upd (upd (upd (upd v_10 20 ((v_10 20) - (nI 1))) 41 ((v_10 41) + (nI 1))) 44 ((v_10 44) + (f_X6_worthOf (v_10 16)))) 16 (-5)) 20 (nI 0)) 24 (nI 0)) q) H := hP
        have hD : va_D A (LC G a (upd (upd (upd (upd (upd (upd v_10 20 ((v_10 20) - (nI 1))) 41 ((v_10 41) + (nI 1))) 44 ((v_10 44) + (f_X6_worthOf (v_10 16)))) 16 (-5)) 20 (nI 0)) 24 (nI 0)) q) := hD
        refine lv_iinc (v := (nI 4)) (lv' := [(3, .int (nI 4)), (4, .ref (a 8)), (2, .int (nI 4)), (1, .ref (a 4)), (0, .ref (a 0))]) hx hb dX2_workLoads_82 hl (k := 1) rfl (inc1 3) (by decide) rfl (fun ls hl => ?_)
        refine lv_goto (tgt := 10) hx hb dX2_workLoads_85 (by decide) ?_
        exact h_X2_workLoads_10_4 (upd (upd (upd (upd (upd (upd v_10 20 ((v_10 20) - (nI 1))) 41 ((v_10 41) + (nI 1))) 44 ((v_10 44) + (f_X6_worthOf (v_10 16)))) 16 (-5)) 20 (nI 0)) 24 (nI 0))  (hE.trans (by simp only [s_X2_workLoads_10_3, if_pos c_15, if_pos c_16])) _ _ _ hP hD hS (lv_sub hl [0, 2, 3, 4] rfl)
    · refine lv_goto (tgt := 82) hx hb dX2_workLoads_28 (by decide) ?_
      refine lv_iinc (v := (nI 4)) (lv' := [(3, .int (nI 4)), (4, .ref (a 8)), (2, .int (nI 4)), (1, .ref (a 4)), (0, .ref (a 0))]) hx hb dX2_workLoads_82 hl (k := 1) rfl (inc1 3) (by decide) rfl (fun ls hl => ?_)
      refine lv_goto (tgt := 10) hx hb dX2_workLoads_85 (by decide) ?_
      exact h_X2_workLoads_10_4 v_10  (hE.trans (by simp only [s_X2_workLoads_10_3, if_neg c_15])) _ _ _ hP hD hS (lv_sub hl [0, 2, 3, 4] rfl)
  have h_X2_workLoads_10_2 : ∀ (v_10 : (Nat → Int32)), f_X2_workLoads v = s_X2_workLoads_10_2 v_10 → ∀ (H : Heap) (locs : List Loc) (ls : Array Slot), va_P G.1 vwCl (LC G a v_10 q) H → va_D A (LC G a v_10 q) → va_S A s.heap H locs → lv_has ls 5 [(3, .int (nI 2)), (2, .int (nI 4)), (1, .ref (a 4)), (0, .ref (a 0))] → W p l e ({ frames := 1, cells := 0, slots := 0, locals := 20 }) s m ([.ref (a 0)] : List Value).toArray below meth c H locs 0 0 (MQ below (PV G A (fun u : (Nat → Int32) => f_X2_workLoads v = u) (fun u : (Nat → Int32) => LC G a u q)) ([.ref (a 0)] : List Value).toArray s 0 0 A) (F0 m 10 ls []) := by
    intro v_10  hE H locs ls hP hD hS hl
    refine lv_iload_n hx hb dX2_workLoads_10 rfl (lv_at hl 0 rfl) ?_
    refine lv_iload_n hx hb dX2_workLoads_11 rfl (lv_at hl 1 rfl) ?_
    refine lv_icmp_ge (tgt := 88) hx hb dX2_workLoads_12 (by decide) (fun c_9 => absurd c_9 (by decide +kernel)) (fun c_9 => ?_)
    refine lv_aload_n hx hb dX2_workLoads_15 rfl (lv_at hl 2 rfl) ?_
    refine lv_iload_n hx hb dX2_workLoads_16 rfl (lv_at hl 0 rfl) ?_
    refine n_aald (j := 2) (v := .ref (a 7)) (Cn := "SteamRations$Machine") hx hb hK hP 4 3 rfl rfl (by decide) (by decide) rfl dX2_workLoads_17 ?_
    refine lv_astore (lv' := [(4, .ref (a 7)), (3, .int (nI 2)), (2, .int (nI 4)), (1, .ref (a 4)), (0, .ref (a 0))]) hx hb dX2_workLoads_18 hl (by decide) rfl (fun ls hl => ?_)
    refine lv_aload hx hb dX2_workLoads_20 (lv_at hl 0 rfl) ?_
    refine gcall_I (run_V (As := []) (rest := []) C0 hK hP hD (c_X3_isEmpty l G (a 7) (v_10 15) (v_10 19) (v_10 23) H.size ) (cwV 0 hts gX2_workLoads_X3_isEmpty rfl rfl rfl cd_X3_isEmpty ⟨Nat.le_of_ble_eq_true rfl, Nat.le_of_ble_eq_true rfl⟩) [7] rfl rfl 7 (ci := 3) rfl rfl rfl rfl hl.1 rfl (Nat.le_of_ble_eq_true rfl) dX2_workLoads_22 ⟨Nat.le_of_ble_eq_true rfl, Nat.le_of_ble_eq_true rfl⟩) hP hD hS hA [7] rfl rfl (fun _ => rfl) (fun r_10 _ H locs hw_10 hP hD hS => ?_)
    have hz_r_10 := hw_10.2
    have hw_10 := hw_10.1
    subst hw_10
    have hP : va_P G.1 vwCl (LC G a v_10 q) H := hP
    have hD : va_D A (LC G a v_10 q) := hD
    refine lv_if_eq (tgt := 31) hx hb dX2_workLoads_25 (by decide) (fun c_11 => ?_) (fun c_11 => ?_)
    · refine lv_aload hx hb dX2_workLoads_31 (lv_at hl 0 rfl) ?_
      refine lv_dup hx hb dX2_workLoads_33 rfl ?_
      refine va_get (D := G.1) (ci := 3) (v := .int (v_10 19)) (C := RX3) (T := TX3) (N := 3) hx hb hts in_X2_workLoads_RX3 hown hK.1 hP 7 rfl rfl 1 (by decide) (hts _ k_X2_workLoads_f125) (fun _ h9 => h9) rfl dX2_workLoads_34 ?_
      refine lv_iconst (v := (nI 1)) hx hb dX2_workLoads_37 (by decide) ?_
      refine lv_isub hx hb dX2_workLoads_38 ?_
      refine va_put (D := G.1) (ci := 3) (v := .int ((v_10 19) - (nI 1))) (ty := .int) (C := RX3) (T := TX3) (N := 3) hx hb hts in_X2_workLoads_RX3 tyX3 tyX3_ok nmX3 hown hK.1 hP hD hS 7 rfl rfl 1 (by decide) (hts _ k_X2_workLoads_f125) (fun _ h9 => h9) rfl (by decide +kernel) rfl rfl (Nat.le_of_ble_eq_true rfl) dX2_workLoads_39 (fun H locs hP hD hS => ?_)
      have hP : va_P G.1 vwCl (LC G a (upd v_10 19 ((v_10 19) - (nI 1))) q) H := hP
      have hD : va_D A (LC G a (upd v_10 19 ((v_10 19) - (nI 1))) q) := hD
      refine lv_aload hx hb dX2_workLoads_42 (lv_at hl 0 rfl) ?_
      refine va_get (D := G.1) (ci := 3) (v := .int ((v_10 19) - (nI 1))) (C := RX3) (T := TX3) (N := 3) hx hb hts in_X2_workLoads_RX3 hown hK.1 hP 7 rfl rfl 1 (by decide) (hts _ k_X2_workLoads_f125) (fun _ h9 => h9) rfl dX2_workLoads_44 ?_
      refine lv_if_ne (tgt := 82) hx hb dX2_workLoads_47 (by decide) (fun c_12 => ?_) (fun c_12 => ?_)
      · refine lv_iinc (v := (nI 3)) (lv' := [(3, .int (nI 3)), (4, .ref (a 7)), (2, .int (nI 4)), (1, .ref (a 4)), (0, .ref (a 0))]) hx hb dX2_workLoads_82 hl (k := 1) rfl (inc1 2) (by decide) rfl (fun ls hl => ?_)
        refine lv_goto (tgt := 10) hx hb dX2_workLoads_85 (by decide) ?_
        exact h_X2_workLoads_10_3 (upd v_10 19 ((v_10 19) - (nI 1)))  (hE.trans (by simp only [s_X2_workLoads_10_2, if_pos c_11, if_neg c_12])) _ _ _ hP hD hS (lv_sub hl [0, 2, 3, 4] rfl)
      · refine lv_aload_n hx hb dX2_workLoads_50 rfl (lv_at hl 4 rfl) ?_
        refine lv_dup hx hb dX2_workLoads_51 rfl ?_
        refine va_get (D := G.1) (ci := 2) (v := .int (v_10 41)) (C := RX2) (T := TX2) (N := 14) hx hb hts in_X2_workLoads_RX2 hown hK.1 hP 0 rfl rfl 4 (by decide) (hts _ k_X2_workLoads_f52) (fun _ h9 => h9) rfl dX2_workLoads_52 ?_
        refine lv_iconst (v := (nI 1)) hx hb dX2_workLoads_55 (by decide) ?_
        refine lv_iadd hx hb dX2_workLoads_56 ?_
        refine va_put (D := G.1) (ci := 2) (v := .int ((v_10 41) + (nI 1))) (ty := .int) (C := RX2) (T := TX2) (N := 14) hx hb hts in_X2_workLoads_RX2 tyX2 tyX2_ok nmX2 hown hK.1 hP hD hS 0 rfl rfl 4 (by decide) (hts _ k_X2_workLoads_f52) (fun _ h9 => h9) rfl (by decide +kernel) rfl rfl (Nat.le_of_ble_eq_true rfl) dX2_workLoads_57 (fun H locs hP hD hS => ?_)
        have hP : va_P G.1 vwCl (LC G a (upd (upd v_10 19 ((v_10 19) - (nI 1))) 41 ((v_10 41) + (nI 1))) q) H := hP
        have hD : va_D A (LC G a (upd (upd v_10 19 ((v_10 19) - (nI 1))) 41 ((v_10 41) + (nI 1))) q) := hD
        refine lv_aload_n hx hb dX2_workLoads_60 rfl (lv_at hl 4 rfl) ?_
        refine lv_dup hx hb dX2_workLoads_61 rfl ?_
        refine va_get (D := G.1) (ci := 2) (v := .int (v_10 44)) (C := RX2) (T := TX2) (N := 14) hx hb hts in_X2_workLoads_RX2 hown hK.1 hP 0 rfl rfl 12 (by decide) (hts _ k_X2_workLoads_f70) (fun _ h9 => h9) rfl dX2_workLoads_62 ?_
        refine lv_aload hx hb dX2_workLoads_65 (lv_at hl 0 rfl) ?_
        refine va_get (D := G.1) (ci := 3) (v := .int (v_10 15)) (C := RX3) (T := TX3) (N := 3) hx hb hts in_X2_workLoads_RX3 hown hK.1 hP 7 rfl rfl 0 (by decide) (hts _ k_X2_workLoads_f185) (fun _ h9 => h9) rfl dX2_workLoads_67 ?_
        refine gcall_I (run_SN (As := [.int (v_10 15)]) (rest := [.int (v_10 44), .ref (a 0)]) C0 hK hP hD (c_X6_worthOf l G   H.size (v_10 15)) (va_cnB 1 hts gX2_workLoads_X6_worthOf_n191 rfl rfl rfl hK.2.2.2.2.2.1 (hts _ (by decide +kernel)) cd2_X6_worthOf ⟨Nat.le_of_ble_eq_true rfl, Nat.le_of_ble_eq_true rfl⟩) (hts _ (by decide +kernel)) [] rfl rfl rfl hl.1 rfl (Nat.le_of_ble_eq_true rfl) dX2_workLoads_70 ⟨Nat.le_of_ble_eq_true rfl, Nat.le_of_ble_eq_true rfl⟩) hP hD hS hA [] rfl rfl (fun _ => rfl) (fun r_20 _ H locs hw_20 hP hD hS => ?_)
        subst hw_20
        have hP : va_P G.1 vwCl (LC G a (upd (upd v_10 19 ((v_10 19) - (nI 1))) 41 ((v_10 41) + (nI 1))) q) H := hP
        have hD : va_D A (LC G a (upd (upd v_10 19 ((v_10 19) - (nI 1))) 41 ((v_10 41) + (nI 1))) q) := hD
        refine lv_iadd hx hb dX2_workLoads_73 ?_
        refine va_put (D := G.1) (ci := 2) (v := .int ((v_10 44) + (f_X6_worthOf (v_10 15)))) (ty := .int) (C := RX2) (T := TX2) (N := 14) hx hb hts in_X2_workLoads_RX2 tyX2 tyX2_ok nmX2 hown hK.1 hP hD hS 0 rfl rfl 12 (by decide) (hts _ k_X2_workLoads_f70) (fun _ h9 => h9) rfl (by decide +kernel) rfl rfl (Nat.le_of_ble_eq_true rfl) dX2_workLoads_74 (fun H locs hP hD hS => ?_)
        have hP : va_P G.1 vwCl (LC G a (upd (upd (upd v_10 19 ((v_10 19) - (nI 1))) 41 ((v_10 41) + (nI 1))) 44 ((v_10 44) + (f_X6_worthOf (v_10 15)))) q) H := hP
        have hD : va_D A (LC G a (upd (upd (upd v_10 19 ((v_10 19) - (nI 1))) 41 ((v_10 41) + (nI 1))) 44 ((v_10 44) + (f_X6_worthOf (v_10 15)))) q) := hD
        refine lv_aload hx hb dX2_workLoads_77 (lv_at hl 0 rfl) ?_
        refine gcall_V (run_V (As := []) (rest := []) C0 hK hP hD (c_X3_clear l G (a 7) (v_10 15) ((v_10 19) - (nI 1)) (v_10 23) H.size ) (cwV 0 hts gX2_workLoads_X3_clear rfl rfl rfl cd_X3_clear ⟨Nat.le_of_ble_eq_true rfl, Nat.le_of_ble_eq_true rfl⟩) [7] rfl rfl 7 (ci := 3) rfl rfl rfl rfl hl.1 rfl (Nat.le_of_ble_eq_true rfl) dX2_workLoads_79 ⟨Nat.le_of_ble_eq_true rfl, Nat.le_of_ble_eq_true rfl⟩) hP hD hS hA [7] rfl rfl (fun _ => rfl) (fun u_21 H locs hw_21 hP hD hS => ?_)
        obtain ⟨mk_c21, mt_c21, mw_c21⟩ := u_21
        simp only [f_X3_clear, Prod.mk.injEq] at hw_21
        obtain ⟨rfl, rfl, rfl⟩ := hw_21
        have hP : va_P G.1 vwCl (LC G a (upd (upd (upd (upd (upd (upd v_10 19 ((v_10 19) - (nI 1))) 41 ((v_10 41) + (nI 1))) 44 ((v_10 44) + (f_X6_worthOf (v_10 15)))) 15 (-5)) 19 (nI 0)) 23 (nI 0)) q) H := hP
        have hD : va_D A (LC G a (upd (upd (upd (upd (upd (upd v_10 19 ((v_10 19) - (nI 1))) 41 ((v_10 41) + (nI 1))) 44 ((v_10 44) + (f_X6_worthOf (v_10 15)))) 15 (-5)) 19 (nI 0)) 23 (nI 0)) q) := hD
        refine lv_iinc (v := (nI 3)) (lv' := [(3, .int (nI 3)), (4, .ref (a 7)), (2, .int (nI 4)), (1, .ref (a 4)), (0, .ref (a 0))]) hx hb dX2_workLoads_82 hl (k := 1) rfl (inc1 2) (by decide) rfl (fun ls hl => ?_)
        refine lv_goto (tgt := 10) hx hb dX2_workLoads_85 (by decide) ?_
        exact h_X2_workLoads_10_3 (upd (upd (upd (upd (upd (upd v_10 19 ((v_10 19) - (nI 1))) 41 ((v_10 41) + (nI 1))) 44 ((v_10 44) + (f_X6_worthOf (v_10 15)))) 15 (-5)) 19 (nI 0)) 23 (nI 0))  (hE.trans (by simp only [s_X2_workLoads_10_2, if_pos c_11, if_pos c_12])) _ _ _ hP hD hS (lv_sub hl [0, 2, 3, 4] rfl)
    · refine lv_goto (tgt := 82) hx hb dX2_workLoads_28 (by decide) ?_
      refine lv_iinc (v := (nI 3)) (lv' := [(3, .int (nI 3)), (4, .ref (a 7)), (2, .int (nI 4)), (1, .ref (a 4)), (0, .ref (a 0))]) hx hb dX2_workLoads_82 hl (k := 1) rfl (inc1 2) (by decide) rfl (fun ls hl => ?_)
      refine lv_goto (tgt := 10) hx hb dX2_workLoads_85 (by decide) ?_
      exact h_X2_workLoads_10_3 v_10  (hE.trans (by simp only [s_X2_workLoads_10_2, if_neg c_11])) _ _ _ hP hD hS (lv_sub hl [0, 2, 3, 4] rfl)
  have h_X2_workLoads_10_1 : ∀ (v_10 : (Nat → Int32)), f_X2_workLoads v = s_X2_workLoads_10_1 v_10 → ∀ (H : Heap) (locs : List Loc) (ls : Array Slot), va_P G.1 vwCl (LC G a v_10 q) H → va_D A (LC G a v_10 q) → va_S A s.heap H locs → lv_has ls 5 [(3, .int (nI 1)), (2, .int (nI 4)), (1, .ref (a 4)), (0, .ref (a 0))] → W p l e ({ frames := 1, cells := 0, slots := 0, locals := 20 }) s m ([.ref (a 0)] : List Value).toArray below meth c H locs 0 0 (MQ below (PV G A (fun u : (Nat → Int32) => f_X2_workLoads v = u) (fun u : (Nat → Int32) => LC G a u q)) ([.ref (a 0)] : List Value).toArray s 0 0 A) (F0 m 10 ls []) := by
    intro v_10  hE H locs ls hP hD hS hl
    refine lv_iload_n hx hb dX2_workLoads_10 rfl (lv_at hl 0 rfl) ?_
    refine lv_iload_n hx hb dX2_workLoads_11 rfl (lv_at hl 1 rfl) ?_
    refine lv_icmp_ge (tgt := 88) hx hb dX2_workLoads_12 (by decide) (fun c_5 => absurd c_5 (by decide +kernel)) (fun c_5 => ?_)
    refine lv_aload_n hx hb dX2_workLoads_15 rfl (lv_at hl 2 rfl) ?_
    refine lv_iload_n hx hb dX2_workLoads_16 rfl (lv_at hl 0 rfl) ?_
    refine n_aald (j := 1) (v := .ref (a 6)) (Cn := "SteamRations$Machine") hx hb hK hP 4 3 rfl rfl (by decide) (by decide) rfl dX2_workLoads_17 ?_
    refine lv_astore (lv' := [(4, .ref (a 6)), (3, .int (nI 1)), (2, .int (nI 4)), (1, .ref (a 4)), (0, .ref (a 0))]) hx hb dX2_workLoads_18 hl (by decide) rfl (fun ls hl => ?_)
    refine lv_aload hx hb dX2_workLoads_20 (lv_at hl 0 rfl) ?_
    refine gcall_I (run_V (As := []) (rest := []) C0 hK hP hD (c_X3_isEmpty l G (a 6) (v_10 14) (v_10 18) (v_10 22) H.size ) (cwV 0 hts gX2_workLoads_X3_isEmpty rfl rfl rfl cd_X3_isEmpty ⟨Nat.le_of_ble_eq_true rfl, Nat.le_of_ble_eq_true rfl⟩) [6] rfl rfl 6 (ci := 3) rfl rfl rfl rfl hl.1 rfl (Nat.le_of_ble_eq_true rfl) dX2_workLoads_22 ⟨Nat.le_of_ble_eq_true rfl, Nat.le_of_ble_eq_true rfl⟩) hP hD hS hA [6] rfl rfl (fun _ => rfl) (fun r_6 _ H locs hw_6 hP hD hS => ?_)
    have hz_r_6 := hw_6.2
    have hw_6 := hw_6.1
    subst hw_6
    have hP : va_P G.1 vwCl (LC G a v_10 q) H := hP
    have hD : va_D A (LC G a v_10 q) := hD
    refine lv_if_eq (tgt := 31) hx hb dX2_workLoads_25 (by decide) (fun c_7 => ?_) (fun c_7 => ?_)
    · refine lv_aload hx hb dX2_workLoads_31 (lv_at hl 0 rfl) ?_
      refine lv_dup hx hb dX2_workLoads_33 rfl ?_
      refine va_get (D := G.1) (ci := 3) (v := .int (v_10 18)) (C := RX3) (T := TX3) (N := 3) hx hb hts in_X2_workLoads_RX3 hown hK.1 hP 6 rfl rfl 1 (by decide) (hts _ k_X2_workLoads_f125) (fun _ h9 => h9) rfl dX2_workLoads_34 ?_
      refine lv_iconst (v := (nI 1)) hx hb dX2_workLoads_37 (by decide) ?_
      refine lv_isub hx hb dX2_workLoads_38 ?_
      refine va_put (D := G.1) (ci := 3) (v := .int ((v_10 18) - (nI 1))) (ty := .int) (C := RX3) (T := TX3) (N := 3) hx hb hts in_X2_workLoads_RX3 tyX3 tyX3_ok nmX3 hown hK.1 hP hD hS 6 rfl rfl 1 (by decide) (hts _ k_X2_workLoads_f125) (fun _ h9 => h9) rfl (by decide +kernel) rfl rfl (Nat.le_of_ble_eq_true rfl) dX2_workLoads_39 (fun H locs hP hD hS => ?_)
      have hP : va_P G.1 vwCl (LC G a (upd v_10 18 ((v_10 18) - (nI 1))) q) H := hP
      have hD : va_D A (LC G a (upd v_10 18 ((v_10 18) - (nI 1))) q) := hD
      refine lv_aload hx hb dX2_workLoads_42 (lv_at hl 0 rfl) ?_
      refine va_get (D := G.1) (ci := 3) (v := .int ((v_10 18) - (nI 1))) (C := RX3) (T := TX3) (N := 3) hx hb hts in_X2_workLoads_RX3 hown hK.1 hP 6 rfl rfl 1 (by decide) (hts _ k_X2_workLoads_f125) (fun _ h9 => h9) rfl dX2_workLoads_44 ?_
      refine lv_if_ne (tgt := 82) hx hb dX2_workLoads_47 (by decide) (fun c_8 => ?_) (fun c_8 => ?_)
      · refine lv_iinc (v := (nI 2)) (lv' := [(3, .int (nI 2)), (4, .ref (a 6)), (2, .int (nI 4)), (1, .ref (a 4)), (0, .ref (a 0))]) hx hb dX2_workLoads_82 hl (k := 1) rfl (inc1 1) (by decide) rfl (fun ls hl => ?_)
        refine lv_goto (tgt := 10) hx hb dX2_workLoads_85 (by decide) ?_
        exact h_X2_workLoads_10_2 (upd v_10 18 ((v_10 18) - (nI 1)))  (hE.trans (by simp only [s_X2_workLoads_10_1, if_pos c_7, if_neg c_8])) _ _ _ hP hD hS (lv_sub hl [0, 2, 3, 4] rfl)
      · refine lv_aload_n hx hb dX2_workLoads_50 rfl (lv_at hl 4 rfl) ?_
        refine lv_dup hx hb dX2_workLoads_51 rfl ?_
        refine va_get (D := G.1) (ci := 2) (v := .int (v_10 41)) (C := RX2) (T := TX2) (N := 14) hx hb hts in_X2_workLoads_RX2 hown hK.1 hP 0 rfl rfl 4 (by decide) (hts _ k_X2_workLoads_f52) (fun _ h9 => h9) rfl dX2_workLoads_52 ?_
        refine lv_iconst (v := (nI 1)) hx hb dX2_workLoads_55 (by decide) ?_
        refine lv_iadd hx hb dX2_workLoads_56 ?_
        refine va_put (D := G.1) (ci := 2) (v := .int ((v_10 41) + (nI 1))) (ty := .int) (C := RX2) (T := TX2) (N := 14) hx hb hts in_X2_workLoads_RX2 tyX2 tyX2_ok nmX2 hown hK.1 hP hD hS 0 rfl rfl 4 (by decide) (hts _ k_X2_workLoads_f52) (fun _ h9 => h9) rfl (by decide +kernel) rfl rfl (Nat.le_of_ble_eq_true rfl) dX2_workLoads_57 (fun H locs hP hD hS => ?_)
        have hP : va_P G.1 vwCl (LC G a (upd (upd v_10 18 ((v_10 18) - (nI 1))) 41 ((v_10 41) + (nI 1))) q) H := hP
        have hD : va_D A (LC G a (upd (upd v_10 18 ((v_10 18) - (nI 1))) 41 ((v_10 41) + (nI 1))) q) := hD
        refine lv_aload_n hx hb dX2_workLoads_60 rfl (lv_at hl 4 rfl) ?_
        refine lv_dup hx hb dX2_workLoads_61 rfl ?_
        refine va_get (D := G.1) (ci := 2) (v := .int (v_10 44)) (C := RX2) (T := TX2) (N := 14) hx hb hts in_X2_workLoads_RX2 hown hK.1 hP 0 rfl rfl 12 (by decide) (hts _ k_X2_workLoads_f70) (fun _ h9 => h9) rfl dX2_workLoads_62 ?_
        refine lv_aload hx hb dX2_workLoads_65 (lv_at hl 0 rfl) ?_
        refine va_get (D := G.1) (ci := 3) (v := .int (v_10 14)) (C := RX3) (T := TX3) (N := 3) hx hb hts in_X2_workLoads_RX3 hown hK.1 hP 6 rfl rfl 0 (by decide) (hts _ k_X2_workLoads_f185) (fun _ h9 => h9) rfl dX2_workLoads_67 ?_
        refine gcall_I (run_SN (As := [.int (v_10 14)]) (rest := [.int (v_10 44), .ref (a 0)]) C0 hK hP hD (c_X6_worthOf l G   H.size (v_10 14)) (va_cnB 1 hts gX2_workLoads_X6_worthOf_n191 rfl rfl rfl hK.2.2.2.2.2.1 (hts _ (by decide +kernel)) cd2_X6_worthOf ⟨Nat.le_of_ble_eq_true rfl, Nat.le_of_ble_eq_true rfl⟩) (hts _ (by decide +kernel)) [] rfl rfl rfl hl.1 rfl (Nat.le_of_ble_eq_true rfl) dX2_workLoads_70 ⟨Nat.le_of_ble_eq_true rfl, Nat.le_of_ble_eq_true rfl⟩) hP hD hS hA [] rfl rfl (fun _ => rfl) (fun r_22 _ H locs hw_22 hP hD hS => ?_)
        subst hw_22
        have hP : va_P G.1 vwCl (LC G a (upd (upd v_10 18 ((v_10 18) - (nI 1))) 41 ((v_10 41) + (nI 1))) q) H := hP
        have hD : va_D A (LC G a (upd (upd v_10 18 ((v_10 18) - (nI 1))) 41 ((v_10 41) + (nI 1))) q) := hD
        refine lv_iadd hx hb dX2_workLoads_73 ?_
        refine va_put (D := G.1) (ci := 2) (v := .int ((v_10 44) + (f_X6_worthOf (v_10 14)))) (ty := .int) (C := RX2) (T := TX2) (N := 14) hx hb hts in_X2_workLoads_RX2 tyX2 tyX2_ok nmX2 hown hK.1 hP hD hS 0 rfl rfl 12 (by decide) (hts _ k_X2_workLoads_f70) (fun _ h9 => h9) rfl (by decide +kernel) rfl rfl (Nat.le_of_ble_eq_true rfl) dX2_workLoads_74 (fun H locs hP hD hS => ?_)
        have hP : va_P G.1 vwCl (LC G a (upd (upd (upd v_10 18 ((v_10 18) - (nI 1))) 41 ((v_10 41) + (nI 1))) 44 ((v_10 44) + (f_X6_worthOf (v_10 14)))) q) H := hP
        have hD : va_D A (LC G a (upd (upd (upd v_10 18 ((v_10 18) - (nI 1))) 41 ((v_10 41) + (nI 1))) 44 ((v_10 44) + (f_X6_worthOf (v_10 14)))) q) := hD
        refine lv_aload hx hb dX2_workLoads_77 (lv_at hl 0 rfl) ?_
        refine gcall_V (run_V (As := []) (rest := []) C0 hK hP hD (c_X3_clear l G (a 6) (v_10 14) ((v_10 18) - (nI 1)) (v_10 22) H.size ) (cwV 0 hts gX2_workLoads_X3_clear rfl rfl rfl cd_X3_clear ⟨Nat.le_of_ble_eq_true rfl, Nat.le_of_ble_eq_true rfl⟩) [6] rfl rfl 6 (ci := 3) rfl rfl rfl rfl hl.1 rfl (Nat.le_of_ble_eq_true rfl) dX2_workLoads_79 ⟨Nat.le_of_ble_eq_true rfl, Nat.le_of_ble_eq_true rfl⟩) hP hD hS hA [6] rfl rfl (fun _ => rfl) (fun u_23 H locs hw_23 hP hD hS => ?_)
        obtain ⟨mk_c23, mt_c23, mw_c23⟩ := u_23
        simp only [f_X3_clear, Prod.mk.injEq] at hw_23
        obtain ⟨rfl, rfl, rfl⟩ := hw_23
        have hP : va_P G.1 vwCl (LC G a (upd (upd (upd (upd (upd (upd v_10 18 ((v_10 18) - (nI 1))) 41 ((v_10 41) + (nI 1))) 44 ((v_10 44) + (f_X6_worthOf (v_10 14)))) 14 (-5)) 18 (nI 0)) 22 (nI 0)) q) H := hP
        have hD : va_D A (LC G a (upd (upd (upd (upd (upd (upd v_10 18 ((v_10 18) - (nI 1))) 41 ((v_10 41) + (nI 1))) 44 ((v_10 44) + (f_X6_worthOf (v_10 14)))) 14 (-5)) 18 (nI 0)) 22 (nI 0)) q) := hD
        refine lv_iinc (v := (nI 2)) (lv' := [(3, .int (nI 2)), (4, .ref (a 6)), (2, .int (nI 4)), (1, .ref (a 4)), (0, .ref (a 0))]) hx hb dX2_workLoads_82 hl (k := 1) rfl (inc1 1) (by decide) rfl (fun ls hl => ?_)
        refine lv_goto (tgt := 10) hx hb dX2_workLoads_85 (by decide) ?_
        exact h_X2_workLoads_10_2 (upd (upd (upd (upd (upd (upd v_10 18 ((v_10 18) - (nI 1))) 41 ((v_10 41) + (nI 1))) 44 ((v_10 44) + (f_X6_worthOf (v_10 14)))) 14 (-5)) 18 (nI 0)) 22 (nI 0))  (hE.trans (by simp only [s_X2_workLoads_10_1, if_pos c_7, if_pos c_8])) _ _ _ hP hD hS (lv_sub hl [0, 2, 3, 4] rfl)
    · refine lv_goto (tgt := 82) hx hb dX2_workLoads_28 (by decide) ?_
      refine lv_iinc (v := (nI 2)) (lv' := [(3, .int (nI 2)), (4, .ref (a 6)), (2, .int (nI 4)), (1, .ref (a 4)), (0, .ref (a 0))]) hx hb dX2_workLoads_82 hl (k := 1) rfl (inc1 1) (by decide) rfl (fun ls hl => ?_)
      refine lv_goto (tgt := 10) hx hb dX2_workLoads_85 (by decide) ?_
      exact h_X2_workLoads_10_2 v_10  (hE.trans (by simp only [s_X2_workLoads_10_1, if_neg c_7])) _ _ _ hP hD hS (lv_sub hl [0, 2, 3, 4] rfl)
  have h_X2_workLoads_10_0 : ∀ (v_10 : (Nat → Int32)), f_X2_workLoads v = s_X2_workLoads_10_0 v_10 → ∀ (H : Heap) (locs : List Loc) (ls : Array Slot), va_P G.1 vwCl (LC G a v_10 q) H → va_D A (LC G a v_10 q) → va_S A s.heap H locs → lv_has ls 5 [(3, .int (nI 0)), (2, .int (nI 4)), (1, .ref (a 4)), (0, .ref (a 0))] → W p l e ({ frames := 1, cells := 0, slots := 0, locals := 20 }) s m ([.ref (a 0)] : List Value).toArray below meth c H locs 0 0 (MQ below (PV G A (fun u : (Nat → Int32) => f_X2_workLoads v = u) (fun u : (Nat → Int32) => LC G a u q)) ([.ref (a 0)] : List Value).toArray s 0 0 A) (F0 m 10 ls []) := by
    intro v_10  hE H locs ls hP hD hS hl
    refine lv_iload_n hx hb dX2_workLoads_10 rfl (lv_at hl 0 rfl) ?_
    refine lv_iload_n hx hb dX2_workLoads_11 rfl (lv_at hl 1 rfl) ?_
    refine lv_icmp_ge (tgt := 88) hx hb dX2_workLoads_12 (by decide) (fun c_1 => absurd c_1 (by decide +kernel)) (fun c_1 => ?_)
    refine lv_aload_n hx hb dX2_workLoads_15 rfl (lv_at hl 2 rfl) ?_
    refine lv_iload_n hx hb dX2_workLoads_16 rfl (lv_at hl 0 rfl) ?_
    refine n_aald (j := 0) (v := .ref (a 5)) (Cn := "SteamRations$Machine") hx hb hK hP 4 3 rfl rfl (by decide) (by decide) rfl dX2_workLoads_17 ?_
    refine lv_astore (lv' := [(4, .ref (a 5)), (3, .int (nI 0)), (2, .int (nI 4)), (1, .ref (a 4)), (0, .ref (a 0))]) hx hb dX2_workLoads_18 hl (by decide) rfl (fun ls hl => ?_)
    refine lv_aload hx hb dX2_workLoads_20 (lv_at hl 0 rfl) ?_
    refine gcall_I (run_V (As := []) (rest := []) C0 hK hP hD (c_X3_isEmpty l G (a 5) (v_10 13) (v_10 17) (v_10 21) H.size ) (cwV 0 hts gX2_workLoads_X3_isEmpty rfl rfl rfl cd_X3_isEmpty ⟨Nat.le_of_ble_eq_true rfl, Nat.le_of_ble_eq_true rfl⟩) [5] rfl rfl 5 (ci := 3) rfl rfl rfl rfl hl.1 rfl (Nat.le_of_ble_eq_true rfl) dX2_workLoads_22 ⟨Nat.le_of_ble_eq_true rfl, Nat.le_of_ble_eq_true rfl⟩) hP hD hS hA [5] rfl rfl (fun _ => rfl) (fun r_2 _ H locs hw_2 hP hD hS => ?_)
    have hz_r_2 := hw_2.2
    have hw_2 := hw_2.1
    subst hw_2
    have hP : va_P G.1 vwCl (LC G a v_10 q) H := hP
    have hD : va_D A (LC G a v_10 q) := hD
    refine lv_if_eq (tgt := 31) hx hb dX2_workLoads_25 (by decide) (fun c_3 => ?_) (fun c_3 => ?_)
    · refine lv_aload hx hb dX2_workLoads_31 (lv_at hl 0 rfl) ?_
      refine lv_dup hx hb dX2_workLoads_33 rfl ?_
      refine va_get (D := G.1) (ci := 3) (v := .int (v_10 17)) (C := RX3) (T := TX3) (N := 3) hx hb hts in_X2_workLoads_RX3 hown hK.1 hP 5 rfl rfl 1 (by decide) (hts _ k_X2_workLoads_f125) (fun _ h9 => h9) rfl dX2_workLoads_34 ?_
      refine lv_iconst (v := (nI 1)) hx hb dX2_workLoads_37 (by decide) ?_
      refine lv_isub hx hb dX2_workLoads_38 ?_
      refine va_put (D := G.1) (ci := 3) (v := .int ((v_10 17) - (nI 1))) (ty := .int) (C := RX3) (T := TX3) (N := 3) hx hb hts in_X2_workLoads_RX3 tyX3 tyX3_ok nmX3 hown hK.1 hP hD hS 5 rfl rfl 1 (by decide) (hts _ k_X2_workLoads_f125) (fun _ h9 => h9) rfl (by decide +kernel) rfl rfl (Nat.le_of_ble_eq_true rfl) dX2_workLoads_39 (fun H locs hP hD hS => ?_)
      have hP : va_P G.1 vwCl (LC G a (upd v_10 17 ((v_10 17) - (nI 1))) q) H := hP
      have hD : va_D A (LC G a (upd v_10 17 ((v_10 17) - (nI 1))) q) := hD
      refine lv_aload hx hb dX2_workLoads_42 (lv_at hl 0 rfl) ?_
      refine va_get (D := G.1) (ci := 3) (v := .int ((v_10 17) - (nI 1))) (C := RX3) (T := TX3) (N := 3) hx hb hts in_X2_workLoads_RX3 hown hK.1 hP 5 rfl rfl 1 (by decide) (hts _ k_X2_workLoads_f125) (fun _ h9 => h9) rfl dX2_workLoads_44 ?_
      refine lv_if_ne (tgt := 82) hx hb dX2_workLoads_47 (by decide) (fun c_4 => ?_) (fun c_4 => ?_)
      · refine lv_iinc (v := (nI 1)) (lv' := [(3, .int (nI 1)), (4, .ref (a 5)), (2, .int (nI 4)), (1, .ref (a 4)), (0, .ref (a 0))]) hx hb dX2_workLoads_82 hl (k := 1) rfl (inc1 0) (by decide) rfl (fun ls hl => ?_)
        refine lv_goto (tgt := 10) hx hb dX2_workLoads_85 (by decide) ?_
        exact h_X2_workLoads_10_1 (upd v_10 17 ((v_10 17) - (nI 1)))  (hE.trans (by simp only [s_X2_workLoads_10_0, if_pos c_3, if_neg c_4])) _ _ _ hP hD hS (lv_sub hl [0, 2, 3, 4] rfl)
      · refine lv_aload_n hx hb dX2_workLoads_50 rfl (lv_at hl 4 rfl) ?_
        refine lv_dup hx hb dX2_workLoads_51 rfl ?_
        refine va_get (D := G.1) (ci := 2) (v := .int (v_10 41)) (C := RX2) (T := TX2) (N := 14) hx hb hts in_X2_workLoads_RX2 hown hK.1 hP 0 rfl rfl 4 (by decide) (hts _ k_X2_workLoads_f52) (fun _ h9 => h9) rfl dX2_workLoads_52 ?_
        refine lv_iconst (v := (nI 1)) hx hb dX2_workLoads_55 (by decide) ?_
        refine lv_iadd hx hb dX2_workLoads_56 ?_
        refine va_put (D := G.1) (ci := 2) (v := .int ((v_10 41) + (nI 1))) (ty := .int) (C := RX2) (T := TX2) (N := 14) hx hb hts in_X2_workLoads_RX2 tyX2 tyX2_ok nmX2 hown hK.1 hP hD hS 0 rfl rfl 4 (by decide) (hts _ k_X2_workLoads_f52) (fun _ h9 => h9) rfl (by decide +kernel) rfl rfl (Nat.le_of_ble_eq_true rfl) dX2_workLoads_57 (fun H locs hP hD hS => ?_)
        have hP : va_P G.1 vwCl (LC G a (upd (upd v_10 17 ((v_10 17) - (nI 1))) 41 ((v_10 41) + (nI 1))) q) H := hP
        have hD : va_D A (LC G a (upd (upd v_10 17 ((v_10 17) - (nI 1))) 41 ((v_10 41) + (nI 1))) q) := hD
        refine lv_aload_n hx hb dX2_workLoads_60 rfl (lv_at hl 4 rfl) ?_
        refine lv_dup hx hb dX2_workLoads_61 rfl ?_
        refine va_get (D := G.1) (ci := 2) (v := .int (v_10 44)) (C := RX2) (T := TX2) (N := 14) hx hb hts in_X2_workLoads_RX2 hown hK.1 hP 0 rfl rfl 12 (by decide) (hts _ k_X2_workLoads_f70) (fun _ h9 => h9) rfl dX2_workLoads_62 ?_
        refine lv_aload hx hb dX2_workLoads_65 (lv_at hl 0 rfl) ?_
        refine va_get (D := G.1) (ci := 3) (v := .int (v_10 13)) (C := RX3) (T := TX3) (N := 3) hx hb hts in_X2_workLoads_RX3 hown hK.1 hP 5 rfl rfl 0 (by decide) (hts _ k_X2_workLoads_f185) (fun _ h9 => h9) rfl dX2_workLoads_67 ?_
        refine gcall_I (run_SN (As := [.int (v_10 13)]) (rest := [.int (v_10 44), .ref (a 0)]) C0 hK hP hD (c_X6_worthOf l G   H.size (v_10 13)) (va_cnB 1 hts gX2_workLoads_X6_worthOf_n191 rfl rfl rfl hK.2.2.2.2.2.1 (hts _ (by decide +kernel)) cd2_X6_worthOf ⟨Nat.le_of_ble_eq_true rfl, Nat.le_of_ble_eq_true rfl⟩) (hts _ (by decide +kernel)) [] rfl rfl rfl hl.1 rfl (Nat.le_of_ble_eq_true rfl) dX2_workLoads_70 ⟨Nat.le_of_ble_eq_true rfl, Nat.le_of_ble_eq_true rfl⟩) hP hD hS hA [] rfl rfl (fun _ => rfl) (fun r_24 _ H locs hw_24 hP hD hS => ?_)
        subst hw_24
        have hP : va_P G.1 vwCl (LC G a (upd (upd v_10 17 ((v_10 17) - (nI 1))) 41 ((v_10 41) + (nI 1))) q) H := hP
        have hD : va_D A (LC G a (upd (upd v_10 17 ((v_10 17) - (nI 1))) 41 ((v_10 41) + (nI 1))) q) := hD
        refine lv_iadd hx hb dX2_workLoads_73 ?_
        refine va_put (D := G.1) (ci := 2) (v := .int ((v_10 44) + (f_X6_worthOf (v_10 13)))) (ty := .int) (C := RX2) (T := TX2) (N := 14) hx hb hts in_X2_workLoads_RX2 tyX2 tyX2_ok nmX2 hown hK.1 hP hD hS 0 rfl rfl 12 (by decide) (hts _ k_X2_workLoads_f70) (fun _ h9 => h9) rfl (by decide +kernel) rfl rfl (Nat.le_of_ble_eq_true rfl) dX2_workLoads_74 (fun H locs hP hD hS => ?_)
        have hP : va_P G.1 vwCl (LC G a (upd (upd (upd v_10 17 ((v_10 17) - (nI 1))) 41 ((v_10 41) + (nI 1))) 44 ((v_10 44) + (f_X6_worthOf (v_10 13)))) q) H := hP
        have hD : va_D A (LC G a (upd (upd (upd v_10 17 ((v_10 17) - (nI 1))) 41 ((v_10 41) + (nI 1))) 44 ((v_10 44) + (f_X6_worthOf (v_10 13)))) q) := hD
        refine lv_aload hx hb dX2_workLoads_77 (lv_at hl 0 rfl) ?_
        refine gcall_V (run_V (As := []) (rest := []) C0 hK hP hD (c_X3_clear l G (a 5) (v_10 13) ((v_10 17) - (nI 1)) (v_10 21) H.size ) (cwV 0 hts gX2_workLoads_X3_clear rfl rfl rfl cd_X3_clear ⟨Nat.le_of_ble_eq_true rfl, Nat.le_of_ble_eq_true rfl⟩) [5] rfl rfl 5 (ci := 3) rfl rfl rfl rfl hl.1 rfl (Nat.le_of_ble_eq_true rfl) dX2_workLoads_79 ⟨Nat.le_of_ble_eq_true rfl, Nat.le_of_ble_eq_true rfl⟩) hP hD hS hA [5] rfl rfl (fun _ => rfl) (fun u_25 H locs hw_25 hP hD hS => ?_)
        obtain ⟨mk_c25, mt_c25, mw_c25⟩ := u_25
        simp only [f_X3_clear, Prod.mk.injEq] at hw_25
        obtain ⟨rfl, rfl, rfl⟩ := hw_25
        have hP : va_P G.1 vwCl (LC G a (upd (upd (upd (upd (upd (upd v_10 17 ((v_10 17) - (nI 1))) 41 ((v_10 41) + (nI 1))) 44 ((v_10 44) + (f_X6_worthOf (v_10 13)))) 13 (-5)) 17 (nI 0)) 21 (nI 0)) q) H := hP
        have hD : va_D A (LC G a (upd (upd (upd (upd (upd (upd v_10 17 ((v_10 17) - (nI 1))) 41 ((v_10 41) + (nI 1))) 44 ((v_10 44) + (f_X6_worthOf (v_10 13)))) 13 (-5)) 17 (nI 0)) 21 (nI 0)) q) := hD
        refine lv_iinc (v := (nI 1)) (lv' := [(3, .int (nI 1)), (4, .ref (a 5)), (2, .int (nI 4)), (1, .ref (a 4)), (0, .ref (a 0))]) hx hb dX2_workLoads_82 hl (k := 1) rfl (inc1 0) (by decide) rfl (fun ls hl => ?_)
        refine lv_goto (tgt := 10) hx hb dX2_workLoads_85 (by decide) ?_
        exact h_X2_workLoads_10_1 (upd (upd (upd (upd (upd (upd v_10 17 ((v_10 17) - (nI 1))) 41 ((v_10 41) + (nI 1))) 44 ((v_10 44) + (f_X6_worthOf (v_10 13)))) 13 (-5)) 17 (nI 0)) 21 (nI 0))  (hE.trans (by simp only [s_X2_workLoads_10_0, if_pos c_3, if_pos c_4])) _ _ _ hP hD hS (lv_sub hl [0, 2, 3, 4] rfl)
    · refine lv_goto (tgt := 82) hx hb dX2_workLoads_28 (by decide) ?_
      refine lv_iinc (v := (nI 1)) (lv' := [(3, .int (nI 1)), (4, .ref (a 5)), (2, .int (nI 4)), (1, .ref (a 4)), (0, .ref (a 0))]) hx hb dX2_workLoads_82 hl (k := 1) rfl (inc1 0) (by decide) rfl (fun ls hl => ?_)
      refine lv_goto (tgt := 10) hx hb dX2_workLoads_85 (by decide) ?_
      exact h_X2_workLoads_10_1 v_10  (hE.trans (by simp only [s_X2_workLoads_10_0, if_neg c_3])) _ _ _ hP hD hS (lv_sub hl [0, 2, 3, 4] rfl)
  refine lv_aload_n hx hb dX2_workLoads_0 rfl (lv_at hl 0 rfl) ?_
  refine va_get (D := G.1) (ci := 2) (v := .ref (a 4)) (C := RX2) (T := TX2) (N := 14) hx hb hts in_X2_workLoads_RX2 hown hK.1 hP 0 rfl rfl 1 (by decide) (hts _ k_X2_workLoads_f21) (fun _ h9 => h9) rfl dX2_workLoads_1 ?_
  refine lv_astore_n (lv' := [(1, .ref (a 4)), (0, .ref (a 0))]) hx hb dX2_workLoads_4 rfl hl (by decide) rfl (fun ls hl => ?_)
  refine lv_aload_n hx hb dX2_workLoads_5 rfl (lv_at hl 0 rfl) ?_
  refine n_alen (n := 4) hx hb hK hP 4 3 rfl rfl dX2_workLoads_6 ?_
  refine lv_istore_n (lv' := [(2, .int (nI 4)), (1, .ref (a 4)), (0, .ref (a 0))]) hx hb dX2_workLoads_7 rfl hl (by decide) rfl (fun ls hl => ?_)
  refine lv_iconst (v := (nI 0)) hx hb dX2_workLoads_8 (by decide) ?_
  refine lv_istore_n (lv' := [(3, .int (nI 0)), (2, .int (nI 4)), (1, .ref (a 4)), (0, .ref (a 0))]) hx hb dX2_workLoads_9 rfl hl (by decide) rfl (fun ls hl => ?_)
  exact h_X2_workLoads_10_0 v  (by simp only [f_X2_workLoads]) _ _ _ hP hD hS (lv_sub hl [0, 1, 2, 3] rfl)

def s_X2_holdLoads_20_4  (v_20 : (Nat → Int32)) : (Nat → Int32) :=
  v_20
def s_X2_holdLoads_20_3  (v_20 : (Nat → Int32)) : (Nat → Int32) :=
  if (f_X3_isEmpty (v_20 16)) = 0 then
    if ((v_20 24) + (nI 1)) = (nI 3) then
      s_X2_holdLoads_20_4 (upd (upd (upd (upd (upd v_20 24 ((v_20 24) + (nI 1))) 42 ((v_20 42) + (nI 1))) 16 (-5)) 20 (nI 0)) 24 (nI 0))
    else
      s_X2_holdLoads_20_4 (upd v_20 24 ((v_20 24) + (nI 1)))
  else
    s_X2_holdLoads_20_4 v_20
def s_X2_holdLoads_20_2  (v_20 : (Nat → Int32)) : (Nat → Int32) :=
  if (f_X3_isEmpty (v_20 15)) = 0 then
    if ((v_20 23) + (nI 1)) = (nI 3) then
      s_X2_holdLoads_20_3 (upd (upd (upd (upd (upd v_20 23 ((v_20 23) + (nI 1))) 42 ((v_20 42) + (nI 1))) 15 (-5)) 19 (nI 0)) 23 (nI 0))
    else
      s_X2_holdLoads_20_3 (upd v_20 23 ((v_20 23) + (nI 1)))
  else
    s_X2_holdLoads_20_3 v_20
def s_X2_holdLoads_20_1  (v_20 : (Nat → Int32)) : (Nat → Int32) :=
  if (f_X3_isEmpty (v_20 14)) = 0 then
    if ((v_20 22) + (nI 1)) = (nI 3) then
      s_X2_holdLoads_20_2 (upd (upd (upd (upd (upd v_20 22 ((v_20 22) + (nI 1))) 42 ((v_20 42) + (nI 1))) 14 (-5)) 18 (nI 0)) 22 (nI 0))
    else
      s_X2_holdLoads_20_2 (upd v_20 22 ((v_20 22) + (nI 1)))
  else
    s_X2_holdLoads_20_2 v_20
def s_X2_holdLoads_20_0  (v_20 : (Nat → Int32)) : (Nat → Int32) :=
  if (f_X3_isEmpty (v_20 13)) = 0 then
    if ((v_20 21) + (nI 1)) = (nI 3) then
      s_X2_holdLoads_20_1 (upd (upd (upd (upd (upd v_20 21 ((v_20 21) + (nI 1))) 42 ((v_20 42) + (nI 1))) 13 (-5)) 17 (nI 0)) 21 (nI 0))
    else
      s_X2_holdLoads_20_1 (upd v_20 21 ((v_20 21) + (nI 1)))
  else
    s_X2_holdLoads_20_1 v_20
def f_X2_holdLoads (v : (Nat → Int32)) : (Nat → Int32) :=
  s_X2_holdLoads_20_0 (upd v 45 ((v 45) + (nI 1)))
set_option maxRecDepth 20000 in
theorem k_X2_holdLoads_f194 : Cond.fieldLink RX2 194 "SteamRations$Machine" "waits" "I" ∈ wsX2_holdLoads := by decide +kernel
set_option maxRecDepth 20000 in
theorem k_X2_holdLoads_f21 : Cond.fieldLink RX2 21 "SteamRations$Laundry" "machines" "[LSteamRations$Machine;" ∈ wsX2_holdLoads := by decide +kernel
set_option maxRecDepth 20000 in
theorem k_X2_holdLoads_f55 : Cond.fieldLink RX2 55 "SteamRations$Laundry" "spoiled" "I" ∈ wsX2_holdLoads := by decide +kernel
set_option maxRecDepth 20000 in
theorem k_X2_holdLoads_f73 : Cond.fieldLink RX2 73 "SteamRations$Laundry" "ticksOfWaits" "I" ∈ wsX2_holdLoads := by decide +kernel
set_option maxRecDepth 20000 in
theorem in_X2_holdLoads_RX2 : ∀ w ∈ u_ws RX2 TX2 14, w ∈ wsX2_holdLoads := by decide +kernel
set_option maxRecDepth 20000 in
theorem in_X2_holdLoads_RX3 : ∀ w ∈ u_ws RX3 TX3 3, w ∈ wsX2_holdLoads := by decide +kernel
theorem cd_X2_holdLoads : yX2_holdLoads.cls = RX2 ∧ yX2_holdLoads.cls ≠ "java/lang/invoke/MethodHandle" ∧ yX2_holdLoads.cls ≠ "java/lang/invoke/VarHandle" ∧ (parseMethodDescriptor yX2_holdLoads.desc).map (fun d => d.parameters.length) = some 0 := by decide +kernel
set_option maxHeartbeats 4000000 in
set_option maxRecDepth 100000 in
theorem c_X2_holdLoads (l : Launch) (G : GG) (a : Nat → Nat) (v : (Nat → Int32)) (q : (Nat → Int32)) (sz : Nat)   : Met l yX2_holdLoads wsX2_holdLoads ({ frames := 1, cells := 0, slots := 0, locals := 20 }) (Pre G [.ref (a 0)] (LC G a v q) sz) (PV G (va_A (LC G a v q) sz) (fun u : (Nat → Int32) => f_X2_holdLoads v = u) (fun u : (Nat → Int32) => LC G a u q)) 0 0 (va_A (LC G a v q) sz) := by
  refine Met.walk (cc := cX2_holdLoads) (maxL := 5) (ret := none) (Qc := fun A => PV G A (fun u : (Nat → Int32) => f_X2_holdLoads v = u) (fun u : (Nat → Int32) => LC G a u q)) (by decide) rfl (Nat.le_of_ble_eq_true rfl) ?_
  intro p e s m below meth c A H C0 _ hK hsz hP hD hA hS ls hl
  have hx := C0.1
  have hb := C0.2.1
  have hown : s.vm.findClass RX2 = some m.cls := C0.2.2.2.2.1
  have hml := C0.2.2.2.1
  have hts : ∀ w ∈ wsX2_holdLoads, w.before [.ref (a 0)].toArray s = true := C0.2.2.2.2.2.1
  have hl : lv_has ls 5 [(0, .ref (a 0))] := hl
  have h_X2_holdLoads_20_4 : ∀ (v_20 : (Nat → Int32)), f_X2_holdLoads v = s_X2_holdLoads_20_4 v_20 → ∀ (H : Heap) (locs : List Loc) (ls : Array Slot), va_P G.1 vwCl (LC G a v_20 q) H → va_D A (LC G a v_20 q) → va_S A s.heap H locs → lv_has ls 5 [(3, .int (nI 4)), (2, .int (nI 4)), (1, .ref (a 4)), (0, .ref (a 0))] → W p l e ({ frames := 1, cells := 0, slots := 0, locals := 20 }) s m ([.ref (a 0)] : List Value).toArray below meth c H locs 0 0 (MQ below (PV G A (fun u : (Nat → Int32) => f_X2_holdLoads v = u) (fun u : (Nat → Int32) => LC G a u q)) ([.ref (a 0)] : List Value).toArray s 0 0 A) (F0 m 20 ls []) := by
    intro v_20  hE H locs ls hP hD hS hl
    refine lv_iload_n hx hb dX2_holdLoads_20 rfl (lv_at hl 0 rfl) ?_
    refine lv_iload_n hx hb dX2_holdLoads_21 rfl (lv_at hl 1 rfl) ?_
    refine lv_icmp_ge (tgt := 82) hx hb dX2_holdLoads_22 (by decide) (fun c_17 => ?_) (fun c_17 => absurd (by decide +kernel) c_17)
    exact end_V C0 hP hD hS v_20 (hE.trans (by simp only [s_X2_holdLoads_20_4])) rfl dX2_holdLoads_82
  have h_X2_holdLoads_20_3 : ∀ (v_20 : (Nat → Int32)), f_X2_holdLoads v = s_X2_holdLoads_20_3 v_20 → ∀ (H : Heap) (locs : List Loc) (ls : Array Slot), va_P G.1 vwCl (LC G a v_20 q) H → va_D A (LC G a v_20 q) → va_S A s.heap H locs → lv_has ls 5 [(3, .int (nI 3)), (2, .int (nI 4)), (1, .ref (a 4)), (0, .ref (a 0))] → W p l e ({ frames := 1, cells := 0, slots := 0, locals := 20 }) s m ([.ref (a 0)] : List Value).toArray below meth c H locs 0 0 (MQ below (PV G A (fun u : (Nat → Int32) => f_X2_holdLoads v = u) (fun u : (Nat → Int32) => LC G a u q)) ([.ref (a 0)] : List Value).toArray s 0 0 A) (F0 m 20 ls []) := by
    intro v_20  hE H locs ls hP hD hS hl
    refine lv_iload_n hx hb dX2_holdLoads_20 rfl (lv_at hl 0 rfl) ?_
    refine lv_iload_n hx hb dX2_holdLoads_21 rfl (lv_at hl 1 rfl) ?_
    refine lv_icmp_ge (tgt := 82) hx hb dX2_holdLoads_22 (by decide) (fun c_13 => absurd c_13 (by decide +kernel)) (fun c_13 => ?_)
    refine lv_aload_n hx hb dX2_holdLoads_25 rfl (lv_at hl 2 rfl) ?_
    refine lv_iload_n hx hb dX2_holdLoads_26 rfl (lv_at hl 0 rfl) ?_
    refine n_aald (j := 3) (v := .ref (a 8)) (Cn := "SteamRations$Machine") hx hb hK hP 4 3 rfl rfl (by decide) (by decide) rfl dX2_holdLoads_27 ?_
    refine lv_astore (lv' := [(4, .ref (a 8)), (3, .int (nI 3)), (2, .int (nI 4)), (1, .ref (a 4)), (0, .ref (a 0))]) hx hb dX2_holdLoads_28 hl (by decide) rfl (fun ls hl => ?_)
    refine lv_aload hx hb dX2_holdLoads_30 (lv_at hl 0 rfl) ?_
    refine gcall_I (run_V (As := []) (rest := []) C0 hK hP hD (c_X3_isEmpty l G (a 8) (v_20 16) (v_20 20) (v_20 24) H.size ) (cwV 0 hts gX2_holdLoads_X3_isEmpty rfl rfl rfl cd_X3_isEmpty ⟨Nat.le_of_ble_eq_true rfl, Nat.le_of_ble_eq_true rfl⟩) [8] rfl rfl 8 (ci := 3) rfl rfl rfl rfl hl.1 rfl (Nat.le_of_ble_eq_true rfl) dX2_holdLoads_32 ⟨Nat.le_of_ble_eq_true rfl, Nat.le_of_ble_eq_true rfl⟩) hP hD hS hA [8] rfl rfl (fun _ => rfl) (fun r_14 _ H locs hw_14 hP hD hS => ?_)
    have hz_r_14 := hw_14.2
    have hw_14 := hw_14.1
    subst hw_14
    have hP : va_P G.1 vwCl (LC G a v_20 q) H := hP
    have hD : va_D A (LC G a v_20 q) := hD
    refine lv_if_eq (tgt := 41) hx hb dX2_holdLoads_35 (by decide) (fun c_15 => ?_) (fun c_15 => ?_)
    · refine lv_aload hx hb dX2_holdLoads_41 (lv_at hl 0 rfl) ?_
      refine lv_dup hx hb dX2_holdLoads_43 rfl ?_
      refine va_get (D := G.1) (ci := 3) (v := .int (v_20 24)) (C := RX3) (T := TX3) (N := 3) hx hb hts in_X2_holdLoads_RX3 hown hK.1 hP 8 rfl rfl 2 (by decide) (hts _ k_X2_holdLoads_f194) (fun _ h9 => h9) rfl dX2_holdLoads_44 ?_
      refine lv_iconst (v := (nI 1)) hx hb dX2_holdLoads_47 (by decide) ?_
      refine lv_iadd hx hb dX2_holdLoads_48 ?_
      refine va_put (D := G.1) (ci := 3) (v := .int ((v_20 24) + (nI 1))) (ty := .int) (C := RX3) (T := TX3) (N := 3) hx hb hts in_X2_holdLoads_RX3 tyX3 tyX3_ok nmX3 hown hK.1 hP hD hS 8 rfl rfl 2 (by decide) (hts _ k_X2_holdLoads_f194) (fun _ h9 => h9) rfl (by decide +kernel) rfl rfl (Nat.le_of_ble_eq_true rfl) dX2_holdLoads_49 (fun H locs hP hD hS => ?_)
      have hP : va_P G.1 vwCl (LC G a (upd v_20 24 ((v_20 24) + (nI 1))) q) H := hP
      have hD : va_D A (LC G a (upd v_20 24 ((v_20 24) + (nI 1))) q) := hD
      refine lv_aload hx hb dX2_holdLoads_52 (lv_at hl 0 rfl) ?_
      refine va_get (D := G.1) (ci := 3) (v := .int ((v_20 24) + (nI 1))) (C := RX3) (T := TX3) (N := 3) hx hb hts in_X2_holdLoads_RX3 hown hK.1 hP 8 rfl rfl 2 (by decide) (hts _ k_X2_holdLoads_f194) (fun _ h9 => h9) rfl dX2_holdLoads_54 ?_
      refine lv_iconst (v := (nI 3)) hx hb dX2_holdLoads_57 (by decide) ?_
      refine lv_icmp_ne (tgt := 76) hx hb dX2_holdLoads_58 (by decide) (fun c_16 => ?_) (fun c_16 => ?_)
      · refine lv_iinc (v := (nI 4)) (lv' := [(3, .int (nI 4)), (4, .ref (a 8)), (2, .int (nI 4)), (1, .ref (a 4)), (0, .ref (a 0))]) hx hb dX2_holdLoads_76 hl (k := 1) rfl (inc1 3) (by decide) rfl (fun ls hl => ?_)
        refine lv_goto (tgt := 20) hx hb dX2_holdLoads_79 (by decide) ?_
        exact h_X2_holdLoads_20_4 (upd v_20 24 ((v_20 24) + (nI 1)))  (hE.trans (by simp only [s_X2_holdLoads_20_3, if_pos c_15, if_neg c_16])) _ _ _ hP hD hS (lv_sub hl [0, 2, 3, 4] rfl)
      · refine lv_aload_n hx hb dX2_holdLoads_61 rfl (lv_at hl 4 rfl) ?_
        refine lv_dup hx hb dX2_holdLoads_62 rfl ?_
        refine va_get (D := G.1) (ci := 2) (v := .int (v_20 42)) (C := RX2) (T := TX2) (N := 14) hx hb hts in_X2_holdLoads_RX2 hown hK.1 hP 0 rfl rfl 5 (by decide) (hts _ k_X2_holdLoads_f55) (fun _ h9 => h9) rfl dX2_holdLoads_63 ?_
        refine lv_iconst (v := (nI 1)) hx hb dX2_holdLoads_66 (by decide) ?_
        refine lv_iadd hx hb dX2_holdLoads_67 ?_
        refine va_put (D := G.1) (ci := 2) (v := .int ((v_20 42) + (nI 1))) (ty := .int) (C := RX2) (T := TX2) (N := 14) hx hb hts in_X2_holdLoads_RX2 tyX2 tyX2_ok nmX2 hown hK.1 hP hD hS 0 rfl rfl 5 (by decide) (hts _ k_X2_holdLoads_f55) (fun _ h9 => h9) rfl (by decide +kernel) rfl rfl (Nat.le_of_ble_eq_true rfl) dX2_holdLoads_68 (fun H locs hP hD hS => ?_)
        have hP : va_P G.1 vwCl (LC G a (upd (upd v_20 24 ((v_20 24) + (nI 1))) 42 ((v_20 42) + (nI 1))) q) H := hP
        have hD : va_D A (LC G a (upd (upd v_20 24 ((v_20 24) + (nI 1))) 42 ((v_20 42) + (nI 1))) q) := hD
        refine lv_aload hx hb dX2_holdLoads_71 (lv_at hl 0 rfl) ?_
        refine gcall_V (run_V (As := []) (rest := []) C0 hK hP hD (c_X3_clear l G (a 8) (v_20 16) (v_20 20) ((v_20 24) + (nI 1)) H.size ) (cwV 0 hts gX2_holdLoads_X3_clear rfl rfl rfl cd_X3_clear ⟨Nat.le_of_ble_eq_true rfl, Nat.le_of_ble_eq_true rfl⟩) [8] rfl rfl 8 (ci := 3) rfl rfl rfl rfl hl.1 rfl (Nat.le_of_ble_eq_true rfl) dX2_holdLoads_73 ⟨Nat.le_of_ble_eq_true rfl, Nat.le_of_ble_eq_true rfl⟩) hP hD hS hA [8] rfl rfl (fun _ => rfl) (fun u_18 H locs hw_18 hP hD hS => ?_)
        obtain ⟨mk_c18, mt_c18, mw_c18⟩ := u_18
        simp only [f_X3_clear, Prod.mk.injEq] at hw_18
        obtain ⟨rfl, rfl, rfl⟩ := hw_18
        have hP : va_P G.1 vwCl (LC G a (upd (upd (upd (upd (upd v_20 24 ((v_20 24) + (nI 1))) 42 ((v_20 42) + (nI 1))) 16 (-5)) 20 (nI 0)) 24 (nI 0)) q) H := hP
        have hD : va_D A (LC G a (upd (upd (upd (upd (upd v_20 24 ((v_20 24) + (nI 1))) 42 ((v_20 42) + (nI 1))) 16 (-5)) 20 (nI 0)) 24 (nI 0)) q) := hD
        refine lv_iinc (v := (nI 4)) (lv' := [(3, .int (nI 4)), (4, .ref (a 8)), (2, .int (nI 4)), (1, .ref (a 4)), (0, .ref (a 0))]) hx hb dX2_holdLoads_76 hl (k := 1) rfl (inc1 3) (by decide) rfl (fun ls hl => ?_)
        refine lv_goto (tgt := 20) hx hb dX2_holdLoads_79 (by decide) ?_
        exact h_X2_holdLoads_20_4 (upd (upd (upd (upd (upd v_20 24 ((v_20 24) + (nI 1))) 42 ((v_20 42) + (nI 1))) 16 (-5)) 20 (nI 0)) 24 (nI 0))  (hE.trans (by simp only [s_X2_holdLoads_20_3, if_pos c_15, if_pos c_16])) _ _ _ hP hD hS (lv_sub hl [0, 2, 3, 4] rfl)
    · refine lv_goto (tgt := 76) hx hb dX2_holdLoads_38 (by decide) ?_
      refine lv_iinc (v := (nI 4)) (lv' := [(3, .int (nI 4)), (4, .ref (a 8)), (2, .int (nI 4)), (1, .ref (a 4)), (0, .ref (a 0))]) hx hb dX2_holdLoads_76 hl (k := 1) rfl (inc1 3) (by decide) rfl (fun ls hl => ?_)
      refine lv_goto (tgt := 20) hx hb dX2_holdLoads_79 (by decide) ?_
      exact h_X2_holdLoads_20_4 v_20  (hE.trans (by simp only [s_X2_holdLoads_20_3, if_neg c_15])) _ _ _ hP hD hS (lv_sub hl [0, 2, 3, 4] rfl)
  have h_X2_holdLoads_20_2 : ∀ (v_20 : (Nat → Int32)), f_X2_holdLoads v = s_X2_holdLoads_20_2 v_20 → ∀ (H : Heap) (locs : List Loc) (ls : Array Slot), va_P G.1 vwCl (LC G a v_20 q) H → va_D A (LC G a v_20 q) → va_S A s.heap H locs → lv_has ls 5 [(3, .int (nI 2)), (2, .int (nI 4)), (1, .ref (a 4)), (0, .ref (a 0))] → W p l e ({ frames := 1, cells := 0, slots := 0, locals := 20 }) s m ([.ref (a 0)] : List Value).toArray below meth c H locs 0 0 (MQ below (PV G A (fun u : (Nat → Int32) => f_X2_holdLoads v = u) (fun u : (Nat → Int32) => LC G a u q)) ([.ref (a 0)] : List Value).toArray s 0 0 A) (F0 m 20 ls []) := by
    intro v_20  hE H locs ls hP hD hS hl
    refine lv_iload_n hx hb dX2_holdLoads_20 rfl (lv_at hl 0 rfl) ?_
    refine lv_iload_n hx hb dX2_holdLoads_21 rfl (lv_at hl 1 rfl) ?_
    refine lv_icmp_ge (tgt := 82) hx hb dX2_holdLoads_22 (by decide) (fun c_9 => absurd c_9 (by decide +kernel)) (fun c_9 => ?_)
    refine lv_aload_n hx hb dX2_holdLoads_25 rfl (lv_at hl 2 rfl) ?_
    refine lv_iload_n hx hb dX2_holdLoads_26 rfl (lv_at hl 0 rfl) ?_
    refine n_aald (j := 2) (v := .ref (a 7)) (Cn := "SteamRations$Machine") hx hb hK hP 4 3 rfl rfl (by decide) (by decide) rfl dX2_holdLoads_27 ?_
    refine lv_astore (lv' := [(4, .ref (a 7)), (3, .int (nI 2)), (2, .int (nI 4)), (1, .ref (a 4)), (0, .ref (a 0))]) hx hb dX2_holdLoads_28 hl (by decide) rfl (fun ls hl => ?_)
    refine lv_aload hx hb dX2_holdLoads_30 (lv_at hl 0 rfl) ?_
    refine gcall_I (run_V (As := []) (rest := []) C0 hK hP hD (c_X3_isEmpty l G (a 7) (v_20 15) (v_20 19) (v_20 23) H.size ) (cwV 0 hts gX2_holdLoads_X3_isEmpty rfl rfl rfl cd_X3_isEmpty ⟨Nat.le_of_ble_eq_true rfl, Nat.le_of_ble_eq_true rfl⟩) [7] rfl rfl 7 (ci := 3) rfl rfl rfl rfl hl.1 rfl (Nat.le_of_ble_eq_true rfl) dX2_holdLoads_32 ⟨Nat.le_of_ble_eq_true rfl, Nat.le_of_ble_eq_true rfl⟩) hP hD hS hA [7] rfl rfl (fun _ => rfl) (fun r_10 _ H locs hw_10 hP hD hS => ?_)
    have hz_r_10 := hw_10.2
    have hw_10 := hw_10.1
    subst hw_10
    have hP : va_P G.1 vwCl (LC G a v_20 q) H := hP
    have hD : va_D A (LC G a v_20 q) := hD
    refine lv_if_eq (tgt := 41) hx hb dX2_holdLoads_35 (by decide) (fun c_11 => ?_) (fun c_11 => ?_)
    · refine lv_aload hx hb dX2_holdLoads_41 (lv_at hl 0 rfl) ?_
      refine lv_dup hx hb dX2_holdLoads_43 rfl ?_
      refine va_get (D := G.1) (ci := 3) (v := .int (v_20 23)) (C := RX3) (T := TX3) (N := 3) hx hb hts in_X2_holdLoads_RX3 hown hK.1 hP 7 rfl rfl 2 (by decide) (hts _ k_X2_holdLoads_f194) (fun _ h9 => h9) rfl dX2_holdLoads_44 ?_
      refine lv_iconst (v := (nI 1)) hx hb dX2_holdLoads_47 (by decide) ?_
      refine lv_iadd hx hb dX2_holdLoads_48 ?_
      refine va_put (D := G.1) (ci := 3) (v := .int ((v_20 23) + (nI 1))) (ty := .int) (C := RX3) (T := TX3) (N := 3) hx hb hts in_X2_holdLoads_RX3 tyX3 tyX3_ok nmX3 hown hK.1 hP hD hS 7 rfl rfl 2 (by decide) (hts _ k_X2_holdLoads_f194) (fun _ h9 => h9) rfl (by decide +kernel) rfl rfl (Nat.le_of_ble_eq_true rfl) dX2_holdLoads_49 (fun H locs hP hD hS => ?_)
      have hP : va_P G.1 vwCl (LC G a (upd v_20 23 ((v_20 23) + (nI 1))) q) H := hP
      have hD : va_D A (LC G a (upd v_20 23 ((v_20 23) + (nI 1))) q) := hD
      refine lv_aload hx hb dX2_holdLoads_52 (lv_at hl 0 rfl) ?_
      refine va_get (D := G.1) (ci := 3) (v := .int ((v_20 23) + (nI 1))) (C := RX3) (T := TX3) (N := 3) hx hb hts in_X2_holdLoads_RX3 hown hK.1 hP 7 rfl rfl 2 (by decide) (hts _ k_X2_holdLoads_f194) (fun _ h9 => h9) rfl dX2_holdLoads_54 ?_
      refine lv_iconst (v := (nI 3)) hx hb dX2_holdLoads_57 (by decide) ?_
      refine lv_icmp_ne (tgt := 76) hx hb dX2_holdLoads_58 (by decide) (fun c_12 => ?_) (fun c_12 => ?_)
      · refine lv_iinc (v := (nI 3)) (lv' := [(3, .int (nI 3)), (4, .ref (a 7)), (2, .int (nI 4)), (1, .ref (a 4)), (0, .ref (a 0))]) hx hb dX2_holdLoads_76 hl (k := 1) rfl (inc1 2) (by decide) rfl (fun ls hl => ?_)
        refine lv_goto (tgt := 20) hx hb dX2_holdLoads_79 (by decide) ?_
        exact h_X2_holdLoads_20_3 (upd v_20 23 ((v_20 23) + (nI 1)))  (hE.trans (by simp only [s_X2_holdLoads_20_2, if_pos c_11, if_neg c_12])) _ _ _ hP hD hS (lv_sub hl [0, 2, 3, 4] rfl)
      · refine lv_aload_n hx hb dX2_holdLoads_61 rfl (lv_at hl 4 rfl) ?_
        refine lv_dup hx hb dX2_holdLoads_62 rfl ?_
        refine va_get (D := G.1) (ci := 2) (v := .int (v_20 42)) (C := RX2) (T := TX2) (N := 14) hx hb hts in_X2_holdLoads_RX2 hown hK.1 hP 0 rfl rfl 5 (by decide) (hts _ k_X2_holdLoads_f55) (fun _ h9 => h9) rfl dX2_holdLoads_63 ?_
        refine lv_iconst (v := (nI 1)) hx hb dX2_holdLoads_66 (by decide) ?_
        refine lv_iadd hx hb dX2_holdLoads_67 ?_
        refine va_put (D := G.1) (ci := 2) (v := .int ((v_20 42) + (nI 1))) (ty := .int) (C := RX2) (T := TX2) (N := 14) hx hb hts in_X2_holdLoads_RX2 tyX2 tyX2_ok nmX2 hown hK.1 hP hD hS 0 rfl rfl 5 (by decide) (hts _ k_X2_holdLoads_f55) (fun _ h9 => h9) rfl (by decide +kernel) rfl rfl (Nat.le_of_ble_eq_true rfl) dX2_holdLoads_68 (fun H locs hP hD hS => ?_)
        have hP : va_P G.1 vwCl (LC G a (upd (upd v_20 23 ((v_20 23) + (nI 1))) 42 ((v_20 42) + (nI 1))) q) H := hP
        have hD : va_D A (LC G a (upd (upd v_20 23 ((v_20 23) + (nI 1))) 42 ((v_20 42) + (nI 1))) q) := hD
        refine lv_aload hx hb dX2_holdLoads_71 (lv_at hl 0 rfl) ?_
        refine gcall_V (run_V (As := []) (rest := []) C0 hK hP hD (c_X3_clear l G (a 7) (v_20 15) (v_20 19) ((v_20 23) + (nI 1)) H.size ) (cwV 0 hts gX2_holdLoads_X3_clear rfl rfl rfl cd_X3_clear ⟨Nat.le_of_ble_eq_true rfl, Nat.le_of_ble_eq_true rfl⟩) [7] rfl rfl 7 (ci := 3) rfl rfl rfl rfl hl.1 rfl (Nat.le_of_ble_eq_true rfl) dX2_holdLoads_73 ⟨Nat.le_of_ble_eq_true rfl, Nat.le_of_ble_eq_true rfl⟩) hP hD hS hA [7] rfl rfl (fun _ => rfl) (fun u_19 H locs hw_19 hP hD hS => ?_)
        obtain ⟨mk_c19, mt_c19, mw_c19⟩ := u_19
        simp only [f_X3_clear, Prod.mk.injEq] at hw_19
        obtain ⟨rfl, rfl, rfl⟩ := hw_19
        have hP : va_P G.1 vwCl (LC G a (upd (upd (upd (upd (upd v_20 23 ((v_20 23) + (nI 1))) 42 ((v_20 42) + (nI 1))) 15 (-5)) 19 (nI 0)) 23 (nI 0)) q) H := hP
        have hD : va_D A (LC G a (upd (upd (upd (upd (upd v_20 23 ((v_20 23) + (nI 1))) 42 ((v_20 42) + (nI 1))) 15 (-5)) 19 (nI 0)) 23 (nI 0)) q) := hD
        refine lv_iinc (v := (nI 3)) (lv' := [(3, .int (nI 3)), (4, .ref (a 7)), (2, .int (nI 4)), (1, .ref (a 4)), (0, .ref (a 0))]) hx hb dX2_holdLoads_76 hl (k := 1) rfl (inc1 2) (by decide) rfl (fun ls hl => ?_)
        refine lv_goto (tgt := 20) hx hb dX2_holdLoads_79 (by decide) ?_
        exact h_X2_holdLoads_20_3 (upd (upd (upd (upd (upd v_20 23 ((v_20 23) + (nI 1))) 42 ((v_20 42) + (nI 1))) 15 (-5)) 19 (nI 0)) 23 (nI 0))  (hE.trans (by simp only [s_X2_holdLoads_20_2, if_pos c_11, if_pos c_12])) _ _ _ hP hD hS (lv_sub hl [0, 2, 3, 4] rfl)
    · refine lv_goto (tgt := 76) hx hb dX2_holdLoads_38 (by decide) ?_
      refine lv_iinc (v := (nI 3)) (lv' := [(3, .int (nI 3)), (4, .ref (a 7)), (2, .int (nI 4)), (1, .ref (a 4)), (0, .ref (a 0))]) hx hb dX2_holdLoads_76 hl (k := 1) rfl (inc1 2) (by decide) rfl (fun ls hl => ?_)
      refine lv_goto (tgt := 20) hx hb dX2_holdLoads_79 (by decide) ?_
      exact h_X2_holdLoads_20_3 v_20  (hE.trans (by simp only [s_X2_holdLoads_20_2, if_neg c_11])) _ _ _ hP hD hS (lv_sub hl [0, 2, 3, 4] rfl)
  have h_X2_holdLoads_20_1 : ∀ (v_20 : (Nat → Int32)), f_X2_holdLoads v = s_X2_holdLoads_20_1 v_20 → ∀ (H : Heap) (locs : List Loc) (ls : Array Slot), va_P G.1 vwCl (LC G a v_20 q) H → va_D A (LC G a v_20 q) → va_S A s.heap H locs → lv_has ls 5 [(3, .int (nI 1)), (2, .int (nI 4)), (1, .ref (a 4)), (0, .ref (a 0))] → W p l e ({ frames := 1, cells := 0, slots := 0, locals := 20 }) s m ([.ref (a 0)] : List Value).toArray below meth c H locs 0 0 (MQ below (PV G A (fun u : (Nat → Int32) => f_X2_holdLoads v = u) (fun u : (Nat → Int32) => LC G a u q)) ([.ref (a 0)] : List Value).toArray s 0 0 A) (F0 m 20 ls []) := by
    intro v_20  hE H locs ls hP hD hS hl
    refine lv_iload_n hx hb dX2_holdLoads_20 rfl (lv_at hl 0 rfl) ?_
    refine lv_iload_n hx hb dX2_holdLoads_21 rfl (lv_at hl 1 rfl) ?_
    refine lv_icmp_ge (tgt := 82) hx hb dX2_holdLoads_22 (by decide) (fun c_5 => absurd c_5 (by decide +kernel)) (fun c_5 => ?_)
    refine lv_aload_n hx hb dX2_holdLoads_25 rfl (lv_at hl 2 rfl) ?_
    refine lv_iload_n hx hb dX2_holdLoads_26 rfl (lv_at hl 0 rfl) ?_
    refine n_aald (j := 1) (v := .ref (a 6)) (Cn := "SteamRations$Machine") hx hb hK hP 4 3 rfl rfl (by decide) (by decide) rfl dX2_holdLoads_27 ?_
    refine lv_astore (lv' := [(4, .ref (a 6)), (3, .int (nI 1)), (2, .int (nI 4)), (1, .ref (a 4)), (0, .ref (a 0))]) hx hb dX2_holdLoads_28 hl (by decide) rfl (fun ls hl => ?_)
    refine lv_aload hx hb dX2_holdLoads_30 (lv_at hl 0 rfl) ?_
    refine gcall_I (run_V (As := []) (rest := []) C0 hK hP hD (c_X3_isEmpty l G (a 6) (v_20 14) (v_20 18) (v_20 22) H.size ) (cwV 0 hts gX2_holdLoads_X3_isEmpty rfl rfl rfl cd_X3_isEmpty ⟨Nat.le_of_ble_eq_true rfl, Nat.le_of_ble_eq_true rfl⟩) [6] rfl rfl 6 (ci := 3) rfl rfl rfl rfl hl.1 rfl (Nat.le_of_ble_eq_true rfl) dX2_holdLoads_32 ⟨Nat.le_of_ble_eq_true rfl, Nat.le_of_ble_eq_true rfl⟩) hP hD hS hA [6] rfl rfl (fun _ => rfl) (fun r_6 _ H locs hw_6 hP hD hS => ?_)
    have hz_r_6 := hw_6.2
    have hw_6 := hw_6.1
    subst hw_6
    have hP : va_P G.1 vwCl (LC G a v_20 q) H := hP
    have hD : va_D A (LC G a v_20 q) := hD
    refine lv_if_eq (tgt := 41) hx hb dX2_holdLoads_35 (by decide) (fun c_7 => ?_) (fun c_7 => ?_)
    · refine lv_aload hx hb dX2_holdLoads_41 (lv_at hl 0 rfl) ?_
      refine lv_dup hx hb dX2_holdLoads_43 rfl ?_
      refine va_get (D := G.1) (ci := 3) (v := .int (v_20 22)) (C := RX3) (T := TX3) (N := 3) hx hb hts in_X2_holdLoads_RX3 hown hK.1 hP 6 rfl rfl 2 (by decide) (hts _ k_X2_holdLoads_f194) (fun _ h9 => h9) rfl dX2_holdLoads_44 ?_
      refine lv_iconst (v := (nI 1)) hx hb dX2_holdLoads_47 (by decide) ?_
      refine lv_iadd hx hb dX2_holdLoads_48 ?_
      refine va_put (D := G.1) (ci := 3) (v := .int ((v_20 22) + (nI 1))) (ty := .int) (C := RX3) (T := TX3) (N := 3) hx hb hts in_X2_holdLoads_RX3 tyX3 tyX3_ok nmX3 hown hK.1 hP hD hS 6 rfl rfl 2 (by decide) (hts _ k_X2_holdLoads_f194) (fun _ h9 => h9) rfl (by decide +kernel) rfl rfl (Nat.le_of_ble_eq_true rfl) dX2_holdLoads_49 (fun H locs hP hD hS => ?_)
      have hP : va_P G.1 vwCl (LC G a (upd v_20 22 ((v_20 22) + (nI 1))) q) H := hP
      have hD : va_D A (LC G a (upd v_20 22 ((v_20 22) + (nI 1))) q) := hD
      refine lv_aload hx hb dX2_holdLoads_52 (lv_at hl 0 rfl) ?_
      refine va_get (D := G.1) (ci := 3) (v := .int ((v_20 22) + (nI 1))) (C := RX3) (T := TX3) (N := 3) hx hb hts in_X2_holdLoads_RX3 hown hK.1 hP 6 rfl rfl 2 (by decide) (hts _ k_X2_holdLoads_f194) (fun _ h9 => h9) rfl dX2_holdLoads_54 ?_
      refine lv_iconst (v := (nI 3)) hx hb dX2_holdLoads_57 (by decide) ?_
      refine lv_icmp_ne (tgt := 76) hx hb dX2_holdLoads_58 (by decide) (fun c_8 => ?_) (fun c_8 => ?_)
      · refine lv_iinc (v := (nI 2)) (lv' := [(3, .int (nI 2)), (4, .ref (a 6)), (2, .int (nI 4)), (1, .ref (a 4)), (0, .ref (a 0))]) hx hb dX2_holdLoads_76 hl (k := 1) rfl (inc1 1) (by decide) rfl (fun ls hl => ?_)
        refine lv_goto (tgt := 20) hx hb dX2_holdLoads_79 (by decide) ?_
        exact h_X2_holdLoads_20_2 (upd v_20 22 ((v_20 22) + (nI 1)))  (hE.trans (by simp only [s_X2_holdLoads_20_1, if_pos c_7, if_neg c_8])) _ _ _ hP hD hS (lv_sub hl [0, 2, 3, 4] rfl)
      · refine lv_aload_n hx hb dX2_holdLoads_61 rfl (lv_at hl 4 rfl) ?_
        refine lv_dup hx hb dX2_holdLoads_62 rfl ?_
        refine va_get (D := G.1) (ci := 2) (v := .int (v_20 42)) (C := RX2) (T := TX2) (N := 14) hx hb hts in_X2_holdLoads_RX2 hown hK.1 hP 0 rfl rfl 5 (by decide) (hts _ k_X2_holdLoads_f55) (fun _ h9 => h9) rfl dX2_holdLoads_63 ?_
        refine lv_iconst (v := (nI 1)) hx hb dX2_holdLoads_66 (by decide) ?_
        refine lv_iadd hx hb dX2_holdLoads_67 ?_
        refine va_put (D := G.1) (ci := 2) (v := .int ((v_20 42) + (nI 1))) (ty := .int) (C := RX2) (T := TX2) (N := 14) hx hb hts in_X2_holdLoads_RX2 tyX2 tyX2_ok nmX2 hown hK.1 hP hD hS 0 rfl rfl 5 (by decide) (hts _ k_X2_holdLoads_f55) (fun _ h9 => h9) rfl (by decide +kernel) rfl rfl (Nat.le_of_ble_eq_true rfl) dX2_holdLoads_68 (fun H locs hP hD hS => ?_)
        have hP : va_P G.1 vwCl (LC G a (upd (upd v_20 22 ((v_20 22) + (nI 1))) 42 ((v_20 42) + (nI 1))) q) H := hP
        have hD : va_D A (LC G a (upd (upd v_20 22 ((v_20 22) + (nI 1))) 42 ((v_20 42) + (nI 1))) q) := hD
        refine lv_aload hx hb dX2_holdLoads_71 (lv_at hl 0 rfl) ?_
        refine gcall_V (run_V (As := []) (rest := []) C0 hK hP hD (c_X3_clear l G (a 6) (v_20 14) (v_20 18) ((v_20 22) + (nI 1)) H.size ) (cwV 0 hts gX2_holdLoads_X3_clear rfl rfl rfl cd_X3_clear ⟨Nat.le_of_ble_eq_true rfl, Nat.le_of_ble_eq_true rfl⟩) [6] rfl rfl 6 (ci := 3) rfl rfl rfl rfl hl.1 rfl (Nat.le_of_ble_eq_true rfl) dX2_holdLoads_73 ⟨Nat.le_of_ble_eq_true rfl, Nat.le_of_ble_eq_true rfl⟩) hP hD hS hA [6] rfl rfl (fun _ => rfl) (fun u_20 H locs hw_20 hP hD hS => ?_)
        obtain ⟨mk_c20, mt_c20, mw_c20⟩ := u_20
        simp only [f_X3_clear, Prod.mk.injEq] at hw_20
        obtain ⟨rfl, rfl, rfl⟩ := hw_20
        have hP : va_P G.1 vwCl (LC G a (upd (upd (upd (upd (upd v_20 22 ((v_20 22) + (nI 1))) 42 ((v_20 42) + (nI 1))) 14 (-5)) 18 (nI 0)) 22 (nI 0)) q) H := hP
        have hD : va_D A (LC G a (upd (upd (upd (upd (upd v_20 22 ((v_20 22) + (nI 1))) 42 ((v_20 42) + (nI 1))) 14 (-5)) 18 (nI 0)) 22 (nI 0)) q) := hD
        refine lv_iinc (v := (nI 2)) (lv' := [(3, .int (nI 2)), (4, .ref (a 6)), (2, .int (nI 4)), (1, .ref (a 4)), (0, .ref (a 0))]) hx hb dX2_holdLoads_76 hl (k := 1) rfl (inc1 1) (by decide) rfl (fun ls hl => ?_)
        refine lv_goto (tgt := 20) hx hb dX2_holdLoads_79 (by decide) ?_
        exact h_X2_holdLoads_20_2 (upd (upd (upd (upd (upd v_20 22 ((v_20 22) + (nI 1))) 42 ((v_20 42) + (nI 1))) 14 (-5)) 18 (nI 0)) 22 (nI 0))  (hE.trans (by simp only [s_X2_holdLoads_20_1, if_pos c_7, if_pos c_8])) _ _ _ hP hD hS (lv_sub hl [0, 2, 3, 4] rfl)
    · refine lv_goto (tgt := 76) hx hb dX2_holdLoads_38 (by decide) ?_
      refine lv_iinc (v := (nI 2)) (lv' := [(3, .int (nI 2)), (4, .ref (a 6)), (2, .int (nI 4)), (1, .ref (a 4)), (0, .ref (a 0))]) hx hb dX2_holdLoads_76 hl (k := 1) rfl (inc1 1) (by decide) rfl (fun ls hl => ?_)
      refine lv_goto (tgt := 20) hx hb dX2_holdLoads_79 (by decide) ?_
      exact h_X2_holdLoads_20_2 v_20  (hE.trans (by simp only [s_X2_holdLoads_20_1, if_neg c_7])) _ _ _ hP hD hS (lv_sub hl [0, 2, 3, 4] rfl)
  have h_X2_holdLoads_20_0 : ∀ (v_20 : (Nat → Int32)), f_X2_holdLoads v = s_X2_holdLoads_20_0 v_20 → ∀ (H : Heap) (locs : List Loc) (ls : Array Slot), va_P G.1 vwCl (LC G a v_20 q) H → va_D A (LC G a v_20 q) → va_S A s.heap H locs → lv_has ls 5 [(3, .int (nI 0)), (2, .int (nI 4)), (1, .ref (a 4)), (0, .ref (a 0))] → W p l e ({ frames := 1, cells := 0, slots := 0, locals := 20 }) s m ([.ref (a 0)] : List Value).toArray below meth c H locs 0 0 (MQ below (PV G A (fun u : (Nat → Int32) => f_X2_holdLoads v = u) (fun u : (Nat → Int32) => LC G a u q)) ([.ref (a 0)] : List Value).toArray s 0 0 A) (F0 m 20 ls []) := by
    intro v_20  hE H locs ls hP hD hS hl
    refine lv_iload_n hx hb dX2_holdLoads_20 rfl (lv_at hl 0 rfl) ?_
    refine lv_iload_n hx hb dX2_holdLoads_21 rfl (lv_at hl 1 rfl) ?_
    refine lv_icmp_ge (tgt := 82) hx hb dX2_holdLoads_22 (by decide) (fun c_1 => absurd c_1 (by decide +kernel)) (fun c_1 => ?_)
    refine lv_aload_n hx hb dX2_holdLoads_25 rfl (lv_at hl 2 rfl) ?_
    refine lv_iload_n hx hb dX2_holdLoads_26 rfl (lv_at hl 0 rfl) ?_
    refine n_aald (j := 0) (v := .ref (a 5)) (Cn := "SteamRations$Machine") hx hb hK hP 4 3 rfl rfl (by decide) (by decide) rfl dX2_holdLoads_27 ?_
    refine lv_astore (lv' := [(4, .ref (a 5)), (3, .int (nI 0)), (2, .int (nI 4)), (1, .ref (a 4)), (0, .ref (a 0))]) hx hb dX2_holdLoads_28 hl (by decide) rfl (fun ls hl => ?_)
    refine lv_aload hx hb dX2_holdLoads_30 (lv_at hl 0 rfl) ?_
    refine gcall_I (run_V (As := []) (rest := []) C0 hK hP hD (c_X3_isEmpty l G (a 5) (v_20 13) (v_20 17) (v_20 21) H.size ) (cwV 0 hts gX2_holdLoads_X3_isEmpty rfl rfl rfl cd_X3_isEmpty ⟨Nat.le_of_ble_eq_true rfl, Nat.le_of_ble_eq_true rfl⟩) [5] rfl rfl 5 (ci := 3) rfl rfl rfl rfl hl.1 rfl (Nat.le_of_ble_eq_true rfl) dX2_holdLoads_32 ⟨Nat.le_of_ble_eq_true rfl, Nat.le_of_ble_eq_true rfl⟩) hP hD hS hA [5] rfl rfl (fun _ => rfl) (fun r_2 _ H locs hw_2 hP hD hS => ?_)
    have hz_r_2 := hw_2.2
    have hw_2 := hw_2.1
    subst hw_2
    have hP : va_P G.1 vwCl (LC G a v_20 q) H := hP
    have hD : va_D A (LC G a v_20 q) := hD
    refine lv_if_eq (tgt := 41) hx hb dX2_holdLoads_35 (by decide) (fun c_3 => ?_) (fun c_3 => ?_)
    · refine lv_aload hx hb dX2_holdLoads_41 (lv_at hl 0 rfl) ?_
      refine lv_dup hx hb dX2_holdLoads_43 rfl ?_
      refine va_get (D := G.1) (ci := 3) (v := .int (v_20 21)) (C := RX3) (T := TX3) (N := 3) hx hb hts in_X2_holdLoads_RX3 hown hK.1 hP 5 rfl rfl 2 (by decide) (hts _ k_X2_holdLoads_f194) (fun _ h9 => h9) rfl dX2_holdLoads_44 ?_
      refine lv_iconst (v := (nI 1)) hx hb dX2_holdLoads_47 (by decide) ?_
      refine lv_iadd hx hb dX2_holdLoads_48 ?_
      refine va_put (D := G.1) (ci := 3) (v := .int ((v_20 21) + (nI 1))) (ty := .int) (C := RX3) (T := TX3) (N := 3) hx hb hts in_X2_holdLoads_RX3 tyX3 tyX3_ok nmX3 hown hK.1 hP hD hS 5 rfl rfl 2 (by decide) (hts _ k_X2_holdLoads_f194) (fun _ h9 => h9) rfl (by decide +kernel) rfl rfl (Nat.le_of_ble_eq_true rfl) dX2_holdLoads_49 (fun H locs hP hD hS => ?_)
      have hP : va_P G.1 vwCl (LC G a (upd v_20 21 ((v_20 21) + (nI 1))) q) H := hP
      have hD : va_D A (LC G a (upd v_20 21 ((v_20 21) + (nI 1))) q) := hD
      refine lv_aload hx hb dX2_holdLoads_52 (lv_at hl 0 rfl) ?_
      refine va_get (D := G.1) (ci := 3) (v := .int ((v_20 21) + (nI 1))) (C := RX3) (T := TX3) (N := 3) hx hb hts in_X2_holdLoads_RX3 hown hK.1 hP 5 rfl rfl 2 (by decide) (hts _ k_X2_holdLoads_f194) (fun _ h9 => h9) rfl dX2_holdLoads_54 ?_
      refine lv_iconst (v := (nI 3)) hx hb dX2_holdLoads_57 (by decide) ?_
      refine lv_icmp_ne (tgt := 76) hx hb dX2_holdLoads_58 (by decide) (fun c_4 => ?_) (fun c_4 => ?_)
      · refine lv_iinc (v := (nI 1)) (lv' := [(3, .int (nI 1)), (4, .ref (a 5)), (2, .int (nI 4)), (1, .ref (a 4)), (0, .ref (a 0))]) hx hb dX2_holdLoads_76 hl (k := 1) rfl (inc1 0) (by decide) rfl (fun ls hl => ?_)
        refine lv_goto (tgt := 20) hx hb dX2_holdLoads_79 (by decide) ?_
        exact h_X2_holdLoads_20_1 (upd v_20 21 ((v_20 21) + (nI 1)))  (hE.trans (by simp only [s_X2_holdLoads_20_0, if_pos c_3, if_neg c_4])) _ _ _ hP hD hS (lv_sub hl [0, 2, 3, 4] rfl)
      · refine lv_aload_n hx hb dX2_holdLoads_61 rfl (lv_at hl 4 rfl) ?_
        refine lv_dup hx hb dX2_holdLoads_62 rfl ?_
        refine va_get (D := G.1) (ci := 2) (v := .int (v_20 42)) (C := RX2) (T := TX2) (N := 14) hx hb hts in_X2_holdLoads_RX2 hown hK.1 hP 0 rfl rfl 5 (by decide) (hts _ k_X2_holdLoads_f55) (fun _ h9 => h9) rfl dX2_holdLoads_63 ?_
        refine lv_iconst (v := (nI 1)) hx hb dX2_holdLoads_66 (by decide) ?_
        refine lv_iadd hx hb dX2_holdLoads_67 ?_
        refine va_put (D := G.1) (ci := 2) (v := .int ((v_20 42) + (nI 1))) (ty := .int) (C := RX2) (T := TX2) (N := 14) hx hb hts in_X2_holdLoads_RX2 tyX2 tyX2_ok nmX2 hown hK.1 hP hD hS 0 rfl rfl 5 (by decide) (hts _ k_X2_holdLoads_f55) (fun _ h9 => h9) rfl (by decide +kernel) rfl rfl (Nat.le_of_ble_eq_true rfl) dX2_holdLoads_68 (fun H locs hP hD hS => ?_)
        have hP : va_P G.1 vwCl (LC G a (upd (upd v_20 21 ((v_20 21) + (nI 1))) 42 ((v_20 42) + (nI 1))) q) H := hP
        have hD : va_D A (LC G a (upd (upd v_20 21 ((v_20 21) + (nI 1))) 42 ((v_20 42) + (nI 1))) q) := hD
        refine lv_aload hx hb dX2_holdLoads_71 (lv_at hl 0 rfl) ?_
        refine gcall_V (run_V (As := []) (rest := []) C0 hK hP hD (c_X3_clear l G (a 5) (v_20 13) (v_20 17) ((v_20 21) + (nI 1)) H.size ) (cwV 0 hts gX2_holdLoads_X3_clear rfl rfl rfl cd_X3_clear ⟨Nat.le_of_ble_eq_true rfl, Nat.le_of_ble_eq_true rfl⟩) [5] rfl rfl 5 (ci := 3) rfl rfl rfl rfl hl.1 rfl (Nat.le_of_ble_eq_true rfl) dX2_holdLoads_73 ⟨Nat.le_of_ble_eq_true rfl, Nat.le_of_ble_eq_true rfl⟩) hP hD hS hA [5] rfl rfl (fun _ => rfl) (fun u_21 H locs hw_21 hP hD hS => ?_)
        obtain ⟨mk_c21, mt_c21, mw_c21⟩ := u_21
        simp only [f_X3_clear, Prod.mk.injEq] at hw_21
        obtain ⟨rfl, rfl, rfl⟩ := hw_21
        have hP : va_P G.1 vwCl (LC G a (upd (upd (upd (upd (upd v_20 21 ((v_20 21) + (nI 1))) 42 ((v_20 42) + (nI 1))) 13 (-5)) 17 (nI 0)) 21 (nI 0)) q) H := hP
        have hD : va_D A (LC G a (upd (upd (upd (upd (upd v_20 21 ((v_20 21) + (nI 1))) 42 ((v_20 42) + (nI 1))) 13 (-5)) 17 (nI 0)) 21 (nI 0)) q) := hD
        refine lv_iinc (v := (nI 1)) (lv' := [(3, .int (nI 1)), (4, .ref (a 5)), (2, .int (nI 4)), (1, .ref (a 4)), (0, .ref (a 0))]) hx hb dX2_holdLoads_76 hl (k := 1) rfl (inc1 0) (by decide) rfl (fun ls hl => ?_)
        refine lv_goto (tgt := 20) hx hb dX2_holdLoads_79 (by decide) ?_
        exact h_X2_holdLoads_20_1 (upd (upd (upd (upd (upd v_20 21 ((v_20 21) + (nI 1))) 42 ((v_20 42) + (nI 1))) 13 (-5)) 17 (nI 0)) 21 (nI 0))  (hE.trans (by simp only [s_X2_holdLoads_20_0, if_pos c_3, if_pos c_4])) _ _ _ hP hD hS (lv_sub hl [0, 2, 3, 4] rfl)
    · refine lv_goto (tgt := 76) hx hb dX2_holdLoads_38 (by decide) ?_
      refine lv_iinc (v := (nI 1)) (lv' := [(3, .int (nI 1)), (4, .ref (a 5)), (2, .int (nI 4)), (1, .ref (a 4)), (0, .ref (a 0))]) hx hb dX2_holdLoads_76 hl (k := 1) rfl (inc1 0) (by decide) rfl (fun ls hl => ?_)
      refine lv_goto (tgt := 20) hx hb dX2_holdLoads_79 (by decide) ?_
      exact h_X2_holdLoads_20_1 v_20  (hE.trans (by simp only [s_X2_holdLoads_20_0, if_neg c_3])) _ _ _ hP hD hS (lv_sub hl [0, 2, 3, 4] rfl)
  refine lv_aload_n hx hb dX2_holdLoads_0 rfl (lv_at hl 0 rfl) ?_
  refine lv_dup hx hb dX2_holdLoads_1 rfl ?_
  refine va_get (D := G.1) (ci := 2) (v := .int (v 45)) (C := RX2) (T := TX2) (N := 14) hx hb hts in_X2_holdLoads_RX2 hown hK.1 hP 0 rfl rfl 13 (by decide) (hts _ k_X2_holdLoads_f73) (fun _ h9 => h9) rfl dX2_holdLoads_2 ?_
  refine lv_iconst (v := (nI 1)) hx hb dX2_holdLoads_5 (by decide) ?_
  refine lv_iadd hx hb dX2_holdLoads_6 ?_
  refine va_put (D := G.1) (ci := 2) (v := .int ((v 45) + (nI 1))) (ty := .int) (C := RX2) (T := TX2) (N := 14) hx hb hts in_X2_holdLoads_RX2 tyX2 tyX2_ok nmX2 hown hK.1 hP hD hS 0 rfl rfl 13 (by decide) (hts _ k_X2_holdLoads_f73) (fun _ h9 => h9) rfl (by decide +kernel) rfl rfl (Nat.le_of_ble_eq_true rfl) dX2_holdLoads_7 (fun H locs hP hD hS => ?_)
  have hP : va_P G.1 vwCl (LC G a (upd v 45 ((v 45) + (nI 1))) q) H := hP
  have hD : va_D A (LC G a (upd v 45 ((v 45) + (nI 1))) q) := hD
  refine lv_aload_n hx hb dX2_holdLoads_10 rfl (lv_at hl 0 rfl) ?_
  refine va_get (D := G.1) (ci := 2) (v := .ref (a 4)) (C := RX2) (T := TX2) (N := 14) hx hb hts in_X2_holdLoads_RX2 hown hK.1 hP 0 rfl rfl 1 (by decide) (hts _ k_X2_holdLoads_f21) (fun _ h9 => h9) rfl dX2_holdLoads_11 ?_
  refine lv_astore_n (lv' := [(1, .ref (a 4)), (0, .ref (a 0))]) hx hb dX2_holdLoads_14 rfl hl (by decide) rfl (fun ls hl => ?_)
  refine lv_aload_n hx hb dX2_holdLoads_15 rfl (lv_at hl 0 rfl) ?_
  refine n_alen (n := 4) hx hb hK hP 4 3 rfl rfl dX2_holdLoads_16 ?_
  refine lv_istore_n (lv' := [(2, .int (nI 4)), (1, .ref (a 4)), (0, .ref (a 0))]) hx hb dX2_holdLoads_17 rfl hl (by decide) rfl (fun ls hl => ?_)
  refine lv_iconst (v := (nI 0)) hx hb dX2_holdLoads_18 (by decide) ?_
  refine lv_istore_n (lv' := [(3, .int (nI 0)), (2, .int (nI 4)), (1, .ref (a 4)), (0, .ref (a 0))]) hx hb dX2_holdLoads_19 rfl hl (by decide) rfl (fun ls hl => ?_)
  exact h_X2_holdLoads_20_0 (upd v 45 ((v 45) + (nI 1)))  (by simp only [f_X2_holdLoads]) _ _ _ hP hD hS (lv_sub hl [0, 1, 2, 3] rfl)
