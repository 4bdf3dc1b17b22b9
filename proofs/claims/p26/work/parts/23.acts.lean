def f_X6_recorded (bv : (Nat → Int32)) (bq : (Nat → Int32)) (hn : Nat) (xs : (Nat → Nat → Nat)) (vs : (Nat → Nat → Int32)) (qs : (Nat → Nat → Int32)) (p0 : Int32) : Int32 × Nat × (Nat → Nat → Nat) × (Nat → Nat → Int32) × (Nat → Nat → Int32) :=
  if p0 < 0 then
    (p0, hn, xs, vs, qs)
  else
    match f_X1_push hn xs vs qs bv bq with
    | (hn_c2, xs_c2, vs_c2, qs_c2) =>
      (p0, hn_c2, xs_c2, vs_c2, qs_c2)
set_option maxRecDepth 20000 in
theorem k_X6_recorded_f16 : Cond.fieldLink RX6 16 "SteamRations" "before" "LSteamRations$Laundry;" ∈ wsX6_recorded := by decide +kernel
set_option maxRecDepth 20000 in
theorem k_X6_recorded_f31 : Cond.fieldLink RX6 31 "SteamRations" "history" "LSteamRations$History;" ∈ wsX6_recorded := by decide +kernel
set_option maxRecDepth 20000 in
theorem in_X6_recorded_RX6 : ∀ w ∈ u_ws RX6 TX6 10, w ∈ wsX6_recorded := by decide +kernel
theorem cd_X6_recorded : yX6_recorded.cls = RX6 ∧ yX6_recorded.cls ≠ "java/lang/invoke/MethodHandle" ∧ yX6_recorded.cls ≠ "java/lang/invoke/VarHandle" ∧ (parseMethodDescriptor yX6_recorded.desc).map (fun d => d.parameters.length) = some 1 := by decide +kernel
set_option maxHeartbeats 4000000 in
set_option maxRecDepth 100000 in
theorem c_X6_recorded (l : Launch) (G : GG) (h : Nat) (xn : Nat → Nat) (xb : Nat → Nat) (xe : Nat → Nat) (xt : Nat → Nat) (xz : Nat → Nat) (hh : Nat) (ht : Nat) (hk : Nat) (hs : Int32) (sn : Int32) (se : Int32) (bv : (Nat → Int32)) (bq : (Nat → Int32)) (hn : Nat) (xs : (Nat → Nat → Nat)) (vs : (Nat → Nat → Int32)) (qs : (Nat → Nat → Int32)) (sz : Nat) (p0 : Int32) (hn4 : hn ≤ 4) : Met l yX6_recorded wsX6_recorded ({ frames := 3, cells := 0, slots := 0, locals := 65 }) (Pre G [.ref h, .int p0] (SC h xn xb xe xt xz hh ht hs sn se ++ LC G xb bv bq ++ HB G hh hk hn xs vs qs) sz) (PI G (va_A (SC h xn xb xe xt xz hh ht hs sn se ++ LC G xb bv bq ++ HB G hh hk hn xs vs qs) sz) (fun r (u : Nat × (Nat → Nat → Nat) × (Nat → Nat → Int32) × (Nat → Nat → Int32)) => f_X6_recorded bv bq hn xs vs qs p0 = (r, u)) (fun u : Nat × (Nat → Nat → Nat) × (Nat → Nat → Int32) × (Nat → Nat → Int32) => SC h xn xb xe xt xz hh ht hs sn se ++ LC G xb bv bq ++ HB G hh hk u.1 u.2.1 u.2.2.1 u.2.2.2)) 0 0 (va_A (SC h xn xb xe xt xz hh ht hs sn se ++ LC G xb bv bq ++ HB G hh hk hn xs vs qs) sz) := by
  refine Met.walk (cc := cX6_recorded) (maxL := 2) (ret := (some .int)) (Qc := fun A => PI G A (fun r (u : Nat × (Nat → Nat → Nat) × (Nat → Nat → Int32) × (Nat → Nat → Int32)) => f_X6_recorded bv bq hn xs vs qs p0 = (r, u)) (fun u : Nat × (Nat → Nat → Nat) × (Nat → Nat → Int32) × (Nat → Nat → Int32) => SC h xn xb xe xt xz hh ht hs sn se ++ LC G xb bv bq ++ HB G hh hk u.1 u.2.1 u.2.2.1 u.2.2.2)) (by decide) rfl (Nat.le_of_ble_eq_true rfl) ?_
  intro p e s m below meth c A H C0 _ hK hsz hP hD hA hS ls hl
  have hx := C0.1
  have hb := C0.2.1
  have hown : s.vm.findClass RX6 = some m.cls := C0.2.2.2.2.1
  have hml := C0.2.2.2.1
  have hts : ∀ w ∈ wsX6_recorded, w.before [.ref h, .int p0].toArray s = true := C0.2.2.2.2.2.1
  have hl : lv_has ls 2 [(0, .ref h), (1, .int p0)] := hl
  refine lv_iload_n hx hb dX6_recorded_0 rfl (lv_at hl 1 rfl) ?_
  refine lv_if_lt (tgt := 15) hx hb dX6_recorded_1 (by decide) (fun c_1 => ?_) (fun c_1 => ?_)
  · refine lv_iload_n hx hb dX6_recorded_15 rfl (lv_at hl 1 rfl) ?_
    exact end_I C0 hP hD hS (hn, xs, vs, qs) (by simp only [f_X6_recorded, if_pos c_1]) rfl dX6_recorded_16
  · refine lv_aload_n hx hb dX6_recorded_4 rfl (lv_at hl 0 rfl) ?_
    refine va_get (D := G.1) (ci := 6) (v := .ref hh) (C := RX6) (T := TX6) (N := 10) hx hb hts in_X6_recorded_RX6 hown hK.1 hP 0 rfl rfl 5 (by decide) (hts _ k_X6_recorded_f31) (fun _ h9 => h9) rfl dX6_recorded_5 ?_
    refine lv_aload_n hx hb dX6_recorded_8 rfl (lv_at hl 0 rfl) ?_
    refine va_get (D := G.1) (ci := 6) (v := .ref (xb 0)) (C := RX6) (T := TX6) (N := 10) hx hb hts in_X6_recorded_RX6 hown hK.1 hP 0 rfl rfl 1 (by decide) (hts _ k_X6_recorded_f16) (fun _ h9 => h9) rfl dX6_recorded_9 ?_
    have hW : BW G A [SC h xn xb xe xt xz hh ht hs sn se, LC G xb bv bq, HB G hh hk hn xs vs qs] H := BW.of hP hD
    refine gcallB_V (bc := [HB G hh hk hn xs vs qs, LC G xb bv bq]) (runB_V (As := [.ref (xb 0)]) (rest := []) (bc := [HB G hh hk hn xs vs qs, LC G xb bv bq]) C0 hK hW (c_X1_push l G hh hk xb hn xs vs qs bv bq H.size  hn4) (cwV 1 hts gX6_recorded_X1_push rfl rfl rfl cd_X1_push ⟨Nat.le_of_ble_eq_true rfl, Nat.le_of_ble_eq_true rfl⟩) [2, 1] rfl rfl rfl 2 0 rfl (ci := 1) rfl rfl rfl rfl hl.1 rfl (Nat.le_of_ble_eq_true rfl) dX6_recorded_12 ⟨Nat.le_of_ble_eq_true rfl, Nat.le_of_ble_eq_true rfl⟩) hW hS hA [2, 1] rfl rfl rfl (fun u => [HB G hh hk u.1 u.2.1 u.2.2.1 u.2.2.2, LC G xb bv bq]) (fun _ => rfl) (fun _ => rfl) (fun u_2 H locs hw_2 hW hS => ?_)
    obtain ⟨hP, hD⟩ := hW.flat
    obtain ⟨hn_c2, xs_c2, vs_c2, qs_c2⟩ := u_2
    have hP : va_P G.1 vwCl (SC h xn xb xe xt xz hh ht hs sn se ++ LC G xb bv bq ++ HB G hh hk hn_c2 xs_c2 vs_c2 qs_c2) H := hP
    have hD : va_D A (SC h xn xb xe xt xz hh ht hs sn se ++ LC G xb bv bq ++ HB G hh hk hn_c2 xs_c2 vs_c2 qs_c2) := hD
    refine lv_iload_n hx hb dX6_recorded_15 rfl (lv_at hl 1 rfl) ?_
    exact end_I C0 hP hD hS (hn_c2, xs_c2, vs_c2, qs_c2) (by simp only [f_X6_recorded, if_neg c_1, hw_2]) rfl dX6_recorded_16

def f_X6_setFire (nv : (Nat → Int32)) (nq : (Nat → Int32)) (hn : Nat) (xs : (Nat → Nat → Nat)) (vs : (Nat → Nat → Int32)) (qs : (Nat → Nat → Int32)) (p0 : Int32) (p1 : Int32) : Int32 × (Nat → Int32) × (Nat → Int32) × (Nat → Int32) × Nat × (Nat → Nat → Nat) × (Nat → Nat → Int32) × (Nat → Nat → Int32) :=
  match f_X2_changeFire nv p0 p1 with
  | (r_2, v_c2) =>
    match f_X6_recorded nv nq hn xs vs qs r_2 with
    | (r_3, hn_c3, xs_c3, vs_c3, qs_c3) =>
      (r_3, v_c2, nv, nq, hn_c3, xs_c3, vs_c3, qs_c3)
set_option maxRecDepth 20000 in
theorem k_X6_setFire_f10 : Cond.fieldLink RX6 10 "SteamRations" "now" "LSteamRations$Laundry;" ∈ wsX6_setFire := by decide +kernel
set_option maxRecDepth 20000 in
theorem k_X6_setFire_f16 : Cond.fieldLink RX6 16 "SteamRations" "before" "LSteamRations$Laundry;" ∈ wsX6_setFire := by decide +kernel
set_option maxRecDepth 20000 in
theorem in_X6_setFire_RX6 : ∀ w ∈ u_ws RX6 TX6 10, w ∈ wsX6_setFire := by decide +kernel
theorem cd_X6_setFire : yX6_setFire.cls = RX6 ∧ yX6_setFire.cls ≠ "java/lang/invoke/MethodHandle" ∧ yX6_setFire.cls ≠ "java/lang/invoke/VarHandle" ∧ (parseMethodDescriptor yX6_setFire.desc).map (fun d => d.parameters.length) = some 2 := by decide +kernel
set_option maxHeartbeats 4000000 in
set_option maxRecDepth 100000 in
theorem c_X6_setFire (l : Launch) (G : GG) (h : Nat) (xn : Nat → Nat) (xb : Nat → Nat) (xe : Nat → Nat) (xt : Nat → Nat) (xz : Nat → Nat) (hh : Nat) (ht : Nat) (hk : Nat) (hs : Int32) (sn : Int32) (se : Int32) (nv : (Nat → Int32)) (nq : (Nat → Int32)) (bv : (Nat → Int32)) (bq : (Nat → Int32)) (hn : Nat) (xs : (Nat → Nat → Nat)) (vs : (Nat → Nat → Int32)) (qs : (Nat → Nat → Int32)) (sz : Nat) (p0 : Int32) (p1 : Int32) (hn4 : hn ≤ 4) : Met l yX6_setFire wsX6_setFire ({ frames := 4, cells := 0, slots := 0, locals := 86 }) (Pre G [.ref h, .int p0, .int p1] (SC h xn xb xe xt xz hh ht hs sn se ++ LC G xn nv nq ++ LC G xb bv bq ++ HB G hh hk hn xs vs qs) sz) (PI G (va_A (SC h xn xb xe xt xz hh ht hs sn se ++ LC G xn nv nq ++ LC G xb bv bq ++ HB G hh hk hn xs vs qs) sz) (fun r (u : (Nat → Int32) × (Nat → Int32) × (Nat → Int32) × Nat × (Nat → Nat → Nat) × (Nat → Nat → Int32) × (Nat → Nat → Int32)) => f_X6_setFire nv nq hn xs vs qs p0 p1 = (r, u)) (fun u : (Nat → Int32) × (Nat → Int32) × (Nat → Int32) × Nat × (Nat → Nat → Nat) × (Nat → Nat → Int32) × (Nat → Nat → Int32) => SC h xn xb xe xt xz hh ht hs sn se ++ LC G xn u.1 nq ++ LC G xb u.2.1 u.2.2.1 ++ HB G hh hk u.2.2.2.1 u.2.2.2.2.1 u.2.2.2.2.2.1 u.2.2.2.2.2.2)) 0 0 (va_A (SC h xn xb xe xt xz hh ht hs sn se ++ LC G xn nv nq ++ LC G xb bv bq ++ HB G hh hk hn xs vs qs) sz) := by
  refine Met.walk (cc := cX6_setFire) (maxL := 3) (ret := (some .int)) (Qc := fun A => PI G A (fun r (u : (Nat → Int32) × (Nat → Int32) × (Nat → Int32) × Nat × (Nat → Nat → Nat) × (Nat → Nat → Int32) × (Nat → Nat → Int32)) => f_X6_setFire nv nq hn xs vs qs p0 p1 = (r, u)) (fun u : (Nat → Int32) × (Nat → Int32) × (Nat → Int32) × Nat × (Nat → Nat → Nat) × (Nat → Nat → Int32) × (Nat → Nat → Int32) => SC h xn xb xe xt xz hh ht hs sn se ++ LC G xn u.1 nq ++ LC G xb u.2.1 u.2.2.1 ++ HB G hh hk u.2.2.2.1 u.2.2.2.2.1 u.2.2.2.2.2.1 u.2.2.2.2.2.2)) (by decide) rfl (Nat.le_of_ble_eq_true rfl) ?_
  intro p e s m below meth c A H C0 _ hK hsz hP hD hA hS ls hl
  have hx := C0.1
  have hb := C0.2.1
  have hown : s.vm.findClass RX6 = some m.cls := C0.2.2.2.2.1
  have hml := C0.2.2.2.1
  have hts : ∀ w ∈ wsX6_setFire, w.before [.ref h, .int p0, .int p1].toArray s = true := C0.2.2.2.2.2.1
  have hl : lv_has ls 3 [(0, .ref h), (1, .int p0), (2, .int p1)] := hl
  refine lv_aload_n hx hb dX6_setFire_0 rfl (lv_at hl 0 rfl) ?_
  refine va_get (D := G.1) (ci := 6) (v := .ref (xb 0)) (C := RX6) (T := TX6) (N := 10) hx hb hts in_X6_setFire_RX6 hown hK.1 hP 0 rfl rfl 1 (by decide) (hts _ k_X6_setFire_f16) (fun _ h9 => h9) rfl dX6_setFire_1 ?_
  refine lv_aload_n hx hb dX6_setFire_4 rfl (lv_at hl 0 rfl) ?_
  refine va_get (D := G.1) (ci := 6) (v := .ref (xn 0)) (C := RX6) (T := TX6) (N := 10) hx hb hts in_X6_setFire_RX6 hown hK.1 hP 0 rfl rfl 0 (by decide) (hts _ k_X6_setFire_f10) (fun _ h9 => h9) rfl dX6_setFire_5 ?_
  have hW : BW G A [SC h xn xb xe xt xz hh ht hs sn se, LC G xn nv nq, LC G xb bv bq, HB G hh hk hn xs vs qs] H := BW.of hP hD
  refine gcallB_V (bc := [LC G xb bv bq, LC G xn nv nq]) (runB_V (As := [.ref (xn 0)]) (rest := []) (bc := [LC G xb bv bq, LC G xn nv nq]) C0 hK hW (c_X2_copyFrom l G xb xn bv bq nv nq H.size ) (cwV 1 hts gX6_setFire_X2_copyFrom rfl rfl rfl cd_X2_copyFrom ⟨Nat.le_of_ble_eq_true rfl, Nat.le_of_ble_eq_true rfl⟩) [2, 1] rfl rfl rfl 2 0 rfl (ci := 2) rfl rfl rfl rfl hl.1 rfl (Nat.le_of_ble_eq_true rfl) dX6_setFire_8 ⟨Nat.le_of_ble_eq_true rfl, Nat.le_of_ble_eq_true rfl⟩) hW hS hA [2, 1] rfl rfl rfl (fun u => [LC G xb u.1 u.2, LC G xn nv nq]) (fun _ => rfl) (fun _ => rfl) (fun u_1 H locs hw_1 hW hS => ?_)
  obtain ⟨hP, hD⟩ := hW.flat
  obtain ⟨v_c1, q_c1⟩ := u_1
  simp only [f_X2_copyFrom, Prod.mk.injEq] at hw_1
  obtain ⟨rfl, rfl⟩ := hw_1
  have hP : va_P G.1 vwCl (SC h xn xb xe xt xz hh ht hs sn se ++ LC G xn nv nq ++ LC G xb nv nq ++ HB G hh hk hn xs vs qs) H := hP
  have hD : va_D A (SC h xn xb xe xt xz hh ht hs sn se ++ LC G xn nv nq ++ LC G xb nv nq ++ HB G hh hk hn xs vs qs) := hD
  refine lv_aload_n hx hb dX6_setFire_11 rfl (lv_at hl 0 rfl) ?_
  refine lv_aload_n hx hb dX6_setFire_12 rfl (lv_at hl 0 rfl) ?_
  refine va_get (D := G.1) (ci := 6) (v := .ref (xn 0)) (C := RX6) (T := TX6) (N := 10) hx hb hts in_X6_setFire_RX6 hown hK.1 hP 0 rfl rfl 0 (by decide) (hts _ k_X6_setFire_f10) (fun _ h9 => h9) rfl dX6_setFire_13 ?_
  refine lv_iload_n hx hb dX6_setFire_16 rfl (lv_at hl 1 rfl) ?_
  refine lv_iload_n hx hb dX6_setFire_17 rfl (lv_at hl 2 rfl) ?_
  have hW : BW G A [SC h xn xb xe xt xz hh ht hs sn se, LC G xn nv nq, LC G xb nv nq, HB G hh hk hn xs vs qs] H := BW.of hP hD
  refine gcallB_I (bc := [LC G xn nv nq]) (runB_V (As := [.int p0, .int p1]) (rest := [.ref h]) (bc := [LC G xn nv nq]) C0 hK hW (c_X2_changeFire l G xn nv nq H.size p0 p1) (cwV 2 hts gX6_setFire_X2_changeFire rfl rfl rfl cd_X2_changeFire ⟨Nat.le_of_ble_eq_true rfl, Nat.le_of_ble_eq_true rfl⟩) [1] rfl rfl rfl 1 0 rfl (ci := 2) rfl rfl rfl rfl hl.1 rfl (Nat.le_of_ble_eq_true rfl) dX6_setFire_18 ⟨Nat.le_of_ble_eq_true rfl, Nat.le_of_ble_eq_true rfl⟩) hW hS hA [1] rfl rfl rfl (fun u => [LC G xn u nq]) (fun _ => rfl) (fun _ => rfl) (fun r_2 u_2 H locs hw_2 hW hS => ?_)
  obtain ⟨hP, hD⟩ := hW.flat
  obtain ⟨v_c2, rfl⟩ : ∃ z, z = u_2 := ⟨_, rfl⟩
  have hP : va_P G.1 vwCl (SC h xn xb xe xt xz hh ht hs sn se ++ LC G xn v_c2 nq ++ LC G xb nv nq ++ HB G hh hk hn xs vs qs) H := hP
  have hD : va_D A (SC h xn xb xe xt xz hh ht hs sn se ++ LC G xn v_c2 nq ++ LC G xb nv nq ++ HB G hh hk hn xs vs qs) := hD
  have hW : BW G A [SC h xn xb xe xt xz hh ht hs sn se, LC G xn v_c2 nq, LC G xb nv nq, HB G hh hk hn xs vs qs] H := BW.of hP hD
  refine gcallB_I (bc := [SC h xn xb xe xt xz hh ht hs sn se, LC G xb nv nq, HB G hh hk hn xs vs qs]) (runB_V (As := [.int r_2]) (rest := []) (bc := [SC h xn xb xe xt xz hh ht hs sn se, LC G xb nv nq, HB G hh hk hn xs vs qs]) C0 hK hW (c_X6_recorded l G h xn xb xe xt xz hh ht hk hs sn se nv nq hn xs vs qs H.size r_2 hn4) (cwV 1 hts gX6_setFire_X6_recorded rfl rfl rfl cd_X6_recorded ⟨Nat.le_of_ble_eq_true rfl, Nat.le_of_ble_eq_true rfl⟩) [0, 2, 3] rfl rfl rfl 0 0 rfl (ci := 6) rfl rfl rfl rfl hl.1 rfl (Nat.le_of_ble_eq_true rfl) dX6_setFire_21 ⟨Nat.le_of_ble_eq_true rfl, Nat.le_of_ble_eq_true rfl⟩) hW hS hA [0, 2, 3] rfl rfl rfl (fun u => [SC h xn xb xe xt xz hh ht hs sn se, LC G xb nv nq, HB G hh hk u.1 u.2.1 u.2.2.1 u.2.2.2]) (fun _ => rfl) (fun _ => rfl) (fun r_3 u_3 H locs hw_3 hW hS => ?_)
  obtain ⟨hP, hD⟩ := hW.flat
  obtain ⟨hn_c3, xs_c3, vs_c3, qs_c3⟩ := u_3
  have hP : va_P G.1 vwCl (SC h xn xb xe xt xz hh ht hs sn se ++ LC G xn v_c2 nq ++ LC G xb nv nq ++ HB G hh hk hn_c3 xs_c3 vs_c3 qs_c3) H := hP
  have hD : va_D A (SC h xn xb xe xt xz hh ht hs sn se ++ LC G xn v_c2 nq ++ LC G xb nv nq ++ HB G hh hk hn_c3 xs_c3 vs_c3 qs_c3) := hD
  exact end_I C0 hP hD hS (v_c2, nv, nq, hn_c3, xs_c3, vs_c3, qs_c3) (by simp only [f_X6_setFire, hw_2, hw_3]) rfl dX6_setFire_24

def f_X6_fill (nv : (Nat → Int32)) (nq : (Nat → Int32)) (hn : Nat) (xs : (Nat → Nat → Nat)) (vs : (Nat → Nat → Int32)) (qs : (Nat → Nat → Int32)) (p0 : Int32) (p1 : Int32) : Int32 × (Nat → Int32) × (Nat → Int32) × (Nat → Int32) × Nat × (Nat → Nat → Nat) × (Nat → Nat → Int32) × (Nat → Nat → Int32) :=
  match f_X2_letWaterIn nv p0 p1 with
  | (r_2, v_c2) =>
    match f_X6_recorded nv nq hn xs vs qs r_2 with
    | (r_3, hn_c3, xs_c3, vs_c3, qs_c3) =>
      (r_3, v_c2, nv, nq, hn_c3, xs_c3, vs_c3, qs_c3)
set_option maxRecDepth 20000 in
theorem k_X6_fill_f10 : Cond.fieldLink RX6 10 "SteamRations" "now" "LSteamRations$Laundry;" ∈ wsX6_fill := by decide +kernel
set_option maxRecDepth 20000 in
theorem k_X6_fill_f16 : Cond.fieldLink RX6 16 "SteamRations" "before" "LSteamRations$Laundry;" ∈ wsX6_fill := by decide +kernel
set_option maxRecDepth 20000 in
theorem in_X6_fill_RX6 : ∀ w ∈ u_ws RX6 TX6 10, w ∈ wsX6_fill := by decide +kernel
theorem cd_X6_fill : yX6_fill.cls = RX6 ∧ yX6_fill.cls ≠ "java/lang/invoke/MethodHandle" ∧ yX6_fill.cls ≠ "java/lang/invoke/VarHandle" ∧ (parseMethodDescriptor yX6_fill.desc).map (fun d => d.parameters.length) = some 2 := by decide +kernel
set_option maxHeartbeats 4000000 in
set_option maxRecDepth 100000 in
theorem c_X6_fill (l : Launch) (G : GG) (h : Nat) (xn : Nat → Nat) (xb : Nat → Nat) (xe : Nat → Nat) (xt : Nat → Nat) (xz : Nat → Nat) (hh : Nat) (ht : Nat) (hk : Nat) (hs : Int32) (sn : Int32) (se : Int32) (nv : (Nat → Int32)) (nq : (Nat → Int32)) (bv : (Nat → Int32)) (bq : (Nat → Int32)) (hn : Nat) (xs : (Nat → Nat → Nat)) (vs : (Nat → Nat → Int32)) (qs : (Nat → Nat → Int32)) (sz : Nat) (p0 : Int32) (p1 : Int32) (hn4 : hn ≤ 4) : Met l yX6_fill wsX6_fill ({ frames := 4, cells := 0, slots := 0, locals := 86 }) (Pre G [.ref h, .int p0, .int p1] (SC h xn xb xe xt xz hh ht hs sn se ++ LC G xn nv nq ++ LC G xb bv bq ++ HB G hh hk hn xs vs qs) sz) (PI G (va_A (SC h xn xb xe xt xz hh ht hs sn se ++ LC G xn nv nq ++ LC G xb bv bq ++ HB G hh hk hn xs vs qs) sz) (fun r (u : (Nat → Int32) × (Nat → Int32) × (Nat → Int32) × Nat × (Nat → Nat → Nat) × (Nat → Nat → Int32) × (Nat → Nat → Int32)) => f_X6_fill nv nq hn xs vs qs p0 p1 = (r, u)) (fun u : (Nat → Int32) × (Nat → Int32) × (Nat → Int32) × Nat × (Nat → Nat → Nat) × (Nat → Nat → Int32) × (Nat → Nat → Int32) => SC h xn xb xe xt xz hh ht hs sn se ++ LC G xn u.1 nq ++ LC G xb u.2.1 u.2.2.1 ++ HB G hh hk u.2.2.2.1 u.2.2.2.2.1 u.2.2.2.2.2.1 u.2.2.2.2.2.2)) 0 0 (va_A (SC h xn xb xe xt xz hh ht hs sn se ++ LC G xn nv nq ++ LC G xb bv bq ++ HB G hh hk hn xs vs qs) sz) := by
  refine Met.walk (cc := cX6_fill) (maxL := 3) (ret := (some .int)) (Qc := fun A => PI G A (fun r (u : (Nat → Int32) × (Nat → Int32) × (Nat → Int32) × Nat × (Nat → Nat → Nat) × (Nat → Nat → Int32) × (Nat → Nat → Int32)) => f_X6_fill nv nq hn xs vs qs p0 p1 = (r, u)) (fun u : (Nat → Int32) × (Nat → Int32) × (Nat → Int32) × Nat × (Nat → Nat → Nat) × (Nat → Nat → Int32) × (Nat → Nat → Int32) => SC h xn xb xe xt xz hh ht hs sn se ++ LC G xn u.1 nq ++ LC G xb u.2.1 u.2.2.1 ++ HB G hh hk u.2.2.2.1 u.2.2.2.2.1 u.2.2.2.2.2.1 u.2.2.2.2.2.2)) (by decide) rfl (Nat.le_of_ble_eq_true rfl) ?_
  intro p e s m below meth c A H C0 _ hK hsz hP hD hA hS ls hl
  have hx := C0.1
  have hb := C0.2.1
  have hown : s.vm.findClass RX6 = some m.cls := C0.2.2.2.2.1
  have hml := C0.2.2.2.1
  have hts : ∀ w ∈ wsX6_fill, w.before [.ref h, .int p0, .int p1].toArray s = true := C0.2.2.2.2.2.1
  have hl : lv_has ls 3 [(0, .ref h), (1, .int p0), (2, .int p1)] := hl
  refine lv_aload_n hx hb dX6_fill_0 rfl (lv_at hl 0 rfl) ?_
  refine va_get (D := G.1) (ci := 6) (v := .ref (xb 0)) (C := RX6) (T := TX6) (N := 10) hx hb hts in_X6_fill_RX6 hown hK.1 hP 0 rfl rfl 1 (by decide) (hts _ k_X6_fill_f16) (fun _ h9 => h9) rfl dX6_fill_1 ?_
  refine lv_aload_n hx hb dX6_fill_4 rfl (lv_at hl 0 rfl) ?_
  refine va_get (D := G.1) (ci := 6) (v := .ref (xn 0)) (C := RX6) (T := TX6) (N := 10) hx hb hts in_X6_fill_RX6 hown hK.1 hP 0 rfl rfl 0 (by decide) (hts _ k_X6_fill_f10) (fun _ h9 => h9) rfl dX6_fill_5 ?_
  have hW : BW G A [SC h xn xb xe xt xz hh ht hs sn se, LC G xn nv nq, LC G xb bv bq, HB G hh hk hn xs vs qs] H := BW.of hP hD
  refine gcallB_V (bc := [LC G xb bv bq, LC G xn nv nq]) (runB_V (As := [.ref (xn 0)]) (rest := []) (bc := [LC G xb bv bq, LC G xn nv nq]) C0 hK hW (c_X2_copyFrom l G xb xn bv bq nv nq H.size ) (cwV 1 hts gX6_fill_X2_copyFrom rfl rfl rfl cd_X2_copyFrom ⟨Nat.le_of_ble_eq_true rfl, Nat.le_of_ble_eq_true rfl⟩) [2, 1] rfl rfl rfl 2 0 rfl (ci := 2) rfl rfl rfl rfl hl.1 rfl (Nat.le_of_ble_eq_true rfl) dX6_fill_8 ⟨Nat.le_of_ble_eq_true rfl, Nat.le_of_ble_eq_true rfl⟩) hW hS hA [2, 1] rfl rfl rfl (fun u => [LC G xb u.1 u.2, LC G xn nv nq]) (fun _ => rfl) (fun _ => rfl) (fun u_1 H locs hw_1 hW hS => ?_)
  obtain ⟨hP, hD⟩ := hW.flat
  obtain ⟨v_c1, q_c1⟩ := u_1
  simp only [f_X2_copyFrom, Prod.mk.injEq] at hw_1
  obtain ⟨rfl, rfl⟩ := hw_1
  have hP : va_P G.1 vwCl (SC h xn xb xe xt xz hh ht hs sn se ++ LC G xn nv nq ++ LC G xb nv nq ++ HB G hh hk hn xs vs qs) H := hP
  have hD : va_D A (SC h xn xb xe xt xz hh ht hs sn se ++ LC G xn nv nq ++ LC G xb nv nq ++ HB G hh hk hn xs vs qs) := hD
  refine lv_aload_n hx hb dX6_fill_11 rfl (lv_at hl 0 rfl) ?_
  refine lv_aload_n hx hb dX6_fill_12 rfl (lv_at hl 0 rfl) ?_
  refine va_get (D := G.1) (ci := 6) (v := .ref (xn 0)) (C := RX6) (T := TX6) (N := 10) hx hb hts in_X6_fill_RX6 hown hK.1 hP 0 rfl rfl 0 (by decide) (hts _ k_X6_fill_f10) (fun _ h9 => h9) rfl dX6_fill_13 ?_
  refine lv_iload_n hx hb dX6_fill_16 rfl (lv_at hl 1 rfl) ?_
  refine lv_iload_n hx hb dX6_fill_17 rfl (lv_at hl 2 rfl) ?_
  have hW : BW G A [SC h xn xb xe xt xz hh ht hs sn se, LC G xn nv nq, LC G xb nv nq, HB G hh hk hn xs vs qs] H := BW.of hP hD
  refine gcallB_I (bc := [LC G xn nv nq]) (runB_V (As := [.int p0, .int p1]) (rest := [.ref h]) (bc := [LC G xn nv nq]) C0 hK hW (c_X2_letWaterIn l G xn nv nq H.size p0 p1) (cwV 2 hts gX6_fill_X2_letWaterIn rfl rfl rfl cd_X2_letWaterIn ⟨Nat.le_of_ble_eq_true rfl, Nat.le_of_ble_eq_true rfl⟩) [1] rfl rfl rfl 1 0 rfl (ci := 2) rfl rfl rfl rfl hl.1 rfl (Nat.le_of_ble_eq_true rfl) dX6_fill_18 ⟨Nat.le_of_ble_eq_true rfl, Nat.le_of_ble_eq_true rfl⟩) hW hS hA [1] rfl rfl rfl (fun u => [LC G xn u nq]) (fun _ => rfl) (fun _ => rfl) (fun r_2 u_2 H locs hw_2 hW hS => ?_)
  obtain ⟨hP, hD⟩ := hW.flat
  obtain ⟨v_c2, rfl⟩ : ∃ z, z = u_2 := ⟨_, rfl⟩
  have hP : va_P G.1 vwCl (SC h xn xb xe xt xz hh ht hs sn se ++ LC G xn v_c2 nq ++ LC G xb nv nq ++ HB G hh hk hn xs vs qs) H := hP
  have hD : va_D A (SC h xn xb xe xt xz hh ht hs sn se ++ LC G xn v_c2 nq ++ LC G xb nv nq ++ HB G hh hk hn xs vs qs) := hD
  have hW : BW G A [SC h xn xb xe xt xz hh ht hs sn se, LC G xn v_c2 nq, LC G xb nv nq, HB G hh hk hn xs vs qs] H := BW.of hP hD
  refine gcallB_I (bc := [SC h xn xb xe xt xz hh ht hs sn se, LC G xb nv nq, HB G hh hk hn xs vs qs]) (runB_V (As := [.int r_2]) (rest := []) (bc := [SC h xn xb xe xt xz hh ht hs sn se, LC G xb nv nq, HB G hh hk hn xs vs qs]) C0 hK hW (c_X6_recorded l G h xn xb xe xt xz hh ht hk hs sn se nv nq hn xs vs qs H.size r_2 hn4) (cwV 1 hts gX6_fill_X6_recorded rfl rfl rfl cd_X6_recorded ⟨Nat.le_of_ble_eq_true rfl, Nat.le_of_ble_eq_true rfl⟩) [0, 2, 3] rfl rfl rfl 0 0 rfl (ci := 6) rfl rfl rfl rfl hl.1 rfl (Nat.le_of_ble_eq_true rfl) dX6_fill_21 ⟨Nat.le_of_ble_eq_true rfl, Nat.le_of_ble_eq_true rfl⟩) hW hS hA [0, 2, 3] rfl rfl rfl (fun u => [SC h xn xb xe xt xz hh ht hs sn se, LC G xb nv nq, HB G hh hk u.1 u.2.1 u.2.2.1 u.2.2.2]) (fun _ => rfl) (fun _ => rfl) (fun r_3 u_3 H locs hw_3 hW hS => ?_)
  obtain ⟨hP, hD⟩ := hW.flat
  obtain ⟨hn_c3, xs_c3, vs_c3, qs_c3⟩ := u_3
  have hP : va_P G.1 vwCl (SC h xn xb xe xt xz hh ht hs sn se ++ LC G xn v_c2 nq ++ LC G xb nv nq ++ HB G hh hk hn_c3 xs_c3 vs_c3 qs_c3) H := hP
  have hD : va_D A (SC h xn xb xe xt xz hh ht hs sn se ++ LC G xn v_c2 nq ++ LC G xb nv nq ++ HB G hh hk hn_c3 xs_c3 vs_c3 qs_c3) := hD
  exact end_I C0 hP hD hS (v_c2, nv, nq, hn_c3, xs_c3, vs_c3, qs_c3) (by simp only [f_X6_fill, hw_2, hw_3]) rfl dX6_fill_24

def f_X6_setRation (nv : (Nat → Int32)) (nq : (Nat → Int32)) (hn : Nat) (xs : (Nat → Nat → Nat)) (vs : (Nat → Nat → Int32)) (qs : (Nat → Nat → Int32)) (p0 : Int32) : Int32 × (Nat → Int32) × (Nat → Int32) × (Nat → Int32) × Nat × (Nat → Nat → Nat) × (Nat → Nat → Int32) × (Nat → Nat → Int32) :=
  match f_X2_changeRation nv p0 with
  | (r_2, v_c2) =>
    match f_X6_recorded nv nq hn xs vs qs r_2 with
    | (r_3, hn_c3, xs_c3, vs_c3, qs_c3) =>
      (r_3, v_c2, nv, nq, hn_c3, xs_c3, vs_c3, qs_c3)
set_option maxRecDepth 20000 in
theorem k_X6_setRation_f10 : Cond.fieldLink RX6 10 "SteamRations" "now" "LSteamRations$Laundry;" ∈ wsX6_setRation := by decide +kernel
set_option maxRecDepth 20000 in
theorem k_X6_setRation_f16 : Cond.fieldLink RX6 16 "SteamRations" "before" "LSteamRations$Laundry;" ∈ wsX6_setRation := by decide +kernel
set_option maxRecDepth 20000 in
theorem in_X6_setRation_RX6 : ∀ w ∈ u_ws RX6 TX6 10, w ∈ wsX6_setRation := by decide +kernel
theorem cd_X6_setRation : yX6_setRation.cls = RX6 ∧ yX6_setRation.cls ≠ "java/lang/invoke/MethodHandle" ∧ yX6_setRation.cls ≠ "java/lang/invoke/VarHandle" ∧ (parseMethodDescriptor yX6_setRation.desc).map (fun d => d.parameters.length) = some 1 := by decide +kernel
set_option maxHeartbeats 4000000 in
set_option maxRecDepth 100000 in
theorem c_X6_setRation (l : Launch) (G : GG) (h : Nat) (xn : Nat → Nat) (xb : Nat → Nat) (xe : Nat → Nat) (xt : Nat → Nat) (xz : Nat → Nat) (hh : Nat) (ht : Nat) (hk : Nat) (hs : Int32) (sn : Int32) (se : Int32) (nv : (Nat → Int32)) (nq : (Nat → Int32)) (bv : (Nat → Int32)) (bq : (Nat → Int32)) (hn : Nat) (xs : (Nat → Nat → Nat)) (vs : (Nat → Nat → Int32)) (qs : (Nat → Nat → Int32)) (sz : Nat) (p0 : Int32) (hn4 : hn ≤ 4) : Met l yX6_setRation wsX6_setRation ({ frames := 4, cells := 0, slots := 0, locals := 86 }) (Pre G [.ref h, .int p0] (SC h xn xb xe xt xz hh ht hs sn se ++ LC G xn nv nq ++ LC G xb bv bq ++ HB G hh hk hn xs vs qs) sz) (PI G (va_A (SC h xn xb xe xt xz hh ht hs sn se ++ LC G xn nv nq ++ LC G xb bv bq ++ HB G hh hk hn xs vs qs) sz) (fun r (u : (Nat → Int32) × (Nat → Int32) × (Nat → Int32) × Nat × (Nat → Nat → Nat) × (Nat → Nat → Int32) × (Nat → Nat → Int32)) => f_X6_setRation nv nq hn xs vs qs p0 = (r, u)) (fun u : (Nat → Int32) × (Nat → Int32) × (Nat → Int32) × Nat × (Nat → Nat → Nat) × (Nat → Nat → Int32) × (Nat → Nat → Int32) => SC h xn xb xe xt xz hh ht hs sn se ++ LC G xn u.1 nq ++ LC G xb u.2.1 u.2.2.1 ++ HB G hh hk u.2.2.2.1 u.2.2.2.2.1 u.2.2.2.2.2.1 u.2.2.2.2.2.2)) 0 0 (va_A (SC h xn xb xe xt xz hh ht hs sn se ++ LC G xn nv nq ++ LC G xb bv bq ++ HB G hh hk hn xs vs qs) sz) := by
  refine Met.walk (cc := cX6_setRation) (maxL := 2) (ret := (some .int)) (Qc := fun A => PI G A (fun r (u : (Nat → Int32) × (Nat → Int32) × (Nat → Int32) × Nat × (Nat → Nat → Nat) × (Nat → Nat → Int32) × (Nat → Nat → Int32)) => f_X6_setRation nv nq hn xs vs qs p0 = (r, u)) (fun u : (Nat → Int32) × (Nat → Int32) × (Nat → Int32) × Nat × (Nat → Nat → Nat) × (Nat → Nat → Int32) × (Nat → Nat → Int32) => SC h xn xb xe xt xz hh ht hs sn se ++ LC G xn u.1 nq ++ LC G xb u.2.1 u.2.2.1 ++ HB G hh hk u.2.2.2.1 u.2.2.2.2.1 u.2.2.2.2.2.1 u.2.2.2.2.2.2)) (by decide) rfl (Nat.le_of_ble_eq_true rfl) ?_
  intro p e s m below meth c A H C0 _ hK hsz hP hD hA hS ls hl
  have hx := C0.1
  have hb := C0.2.1
  have hown : s.vm.findClass RX6 = some m.cls := C0.2.2.2.2.1
  have hml := C0.2.2.2.1
  have hts : ∀ w ∈ wsX6_setRation, w.before [.ref h, .int p0].toArray s = true := C0.2.2.2.2.2.1
  have hl : lv_has ls 2 [(0, .ref h), (1, .int p0)] := hl
  refine lv_aload_n hx hb dX6_setRation_0 rfl (lv_at hl 0 rfl) ?_
  refine va_get (D := G.1) (ci := 6) (v := .ref (xb 0)) (C := RX6) (T := TX6) (N := 10) hx hb hts in_X6_setRation_RX6 hown hK.1 hP 0 rfl rfl 1 (by decide) (hts _ k_X6_setRation_f16) (fun _ h9 => h9) rfl dX6_setRation_1 ?_
  refine lv_aload_n hx hb dX6_setRation_4 rfl (lv_at hl 0 rfl) ?_
  refine va_get (D := G.1) (ci := 6) (v := .ref (xn 0)) (C := RX6) (T := TX6) (N := 10) hx hb hts in_X6_setRation_RX6 hown hK.1 hP 0 rfl rfl 0 (by decide) (hts _ k_X6_setRation_f10) (fun _ h9 => h9) rfl dX6_setRation_5 ?_
  have hW : BW G A [SC h xn xb xe xt xz hh ht hs sn se, LC G xn nv nq, LC G xb bv bq, HB G hh hk hn xs vs qs] H := BW.of hP hD
  refine gcallB_V (bc := [LC G xb bv bq, LC G xn nv nq]) (runB_V (As := [.ref (xn 0)]) (rest := []) (bc := [LC G xb bv bq, LC G xn nv nq]) C0 hK hW (c_X2_copyFrom l G xb xn bv bq nv nq H.size ) (cwV 1 hts gX6_setRation_X2_copyFrom rfl rfl rfl cd_X2_copyFrom ⟨Nat.le_of_ble_eq_true rfl, Nat.le_of_ble_eq_true rfl⟩) [2, 1] rfl rfl rfl 2 0 rfl (ci := 2) rfl rfl rfl rfl hl.1 rfl (Nat.le_of_ble_eq_true rfl) dX6_setRation_8 ⟨Nat.le_of_ble_eq_true rfl, Nat.le_of_ble_eq_true rfl⟩) hW hS hA [2, 1] rfl rfl rfl (fun u => [LC G xb u.1 u.2, LC G xn nv nq]) (fun _ => rfl) (fun _ => rfl) (fun u_1 H locs hw_1 hW hS => ?_)
  obtain ⟨hP, hD⟩ := hW.flat
  obtain ⟨v_c1, q_c1⟩ := u_1
  simp only [f_X2_copyFrom, Prod.mk.injEq] at hw_1
  obtain ⟨rfl, rfl⟩ := hw_1
  have hP : va_P G.1 vwCl (SC h xn xb xe xt xz hh ht hs sn se ++ LC G xn nv nq ++ LC G xb nv nq ++ HB G hh hk hn xs vs qs) H := hP
  have hD : va_D A (SC h xn xb xe xt xz hh ht hs sn se ++ LC G xn nv nq ++ LC G xb nv nq ++ HB G hh hk hn xs vs qs) := hD
  refine lv_aload_n hx hb dX6_setRation_11 rfl (lv_at hl 0 rfl) ?_
  refine lv_aload_n hx hb dX6_setRation_12 rfl (lv_at hl 0 rfl) ?_
  refine va_get (D := G.1) (ci := 6) (v := .ref (xn 0)) (C := RX6) (T := TX6) (N := 10) hx hb hts in_X6_setRation_RX6 hown hK.1 hP 0 rfl rfl 0 (by decide) (hts _ k_X6_setRation_f10) (fun _ h9 => h9) rfl dX6_setRation_13 ?_
  refine lv_iload_n hx hb dX6_setRation_16 rfl (lv_at hl 1 rfl) ?_
  have hW : BW G A [SC h xn xb xe xt xz hh ht hs sn se, LC G xn nv nq, LC G xb nv nq, HB G hh hk hn xs vs qs] H := BW.of hP hD
  refine gcallB_I (bc := [LC G xn nv nq]) (runB_V (As := [.int p0]) (rest := [.ref h]) (bc := [LC G xn nv nq]) C0 hK hW (c_X2_changeRation l G xn nv nq H.size p0) (cwV 1 hts gX6_setRation_X2_changeRation rfl rfl rfl cd_X2_changeRation ⟨Nat.le_of_ble_eq_true rfl, Nat.le_of_ble_eq_true rfl⟩) [1] rfl rfl rfl 1 0 rfl (ci := 2) rfl rfl rfl rfl hl.1 rfl (Nat.le_of_ble_eq_true rfl) dX6_setRation_17 ⟨Nat.le_of_ble_eq_true rfl, Nat.le_of_ble_eq_true rfl⟩) hW hS hA [1] rfl rfl rfl (fun u => [LC G xn u nq]) (fun _ => rfl) (fun _ => rfl) (fun r_2 u_2 H locs hw_2 hW hS => ?_)
  obtain ⟨hP, hD⟩ := hW.flat
  obtain ⟨v_c2, rfl⟩ : ∃ z, z = u_2 := ⟨_, rfl⟩
  have hP : va_P G.1 vwCl (SC h xn xb xe xt xz hh ht hs sn se ++ LC G xn v_c2 nq ++ LC G xb nv nq ++ HB G hh hk hn xs vs qs) H := hP
  have hD : va_D A (SC h xn xb xe xt xz hh ht hs sn se ++ LC G xn v_c2 nq ++ LC G xb nv nq ++ HB G hh hk hn xs vs qs) := hD
  have hW : BW G A [SC h xn xb xe xt xz hh ht hs sn se, LC G xn v_c2 nq, LC G xb nv nq, HB G hh hk hn xs vs qs] H := BW.of hP hD
  refine gcallB_I (bc := [SC h xn xb xe xt xz hh ht hs sn se, LC G xb nv nq, HB G hh hk hn xs vs qs]) (runB_V (As := [.int r_2]) (rest := []) (bc := [SC h xn xb xe xt xz hh ht hs sn se, LC G xb nv nq, HB G hh hk hn xs vs qs]) C0 hK hW (c_X6_recorded l G h xn xb xe xt xz hh ht hk hs sn se nv nq hn xs vs qs H.size r_2 hn4) (cwV 1 hts gX6_setRation_X6_recorded rfl rfl rfl cd_X6_recorded ⟨Nat.le_of_ble_eq_true rfl, Nat.le_of_ble_eq_true rfl⟩) [0, 2, 3] rfl rfl rfl 0 0 rfl (ci := 6) rfl rfl rfl rfl hl.1 rfl (Nat.le_of_ble_eq_true rfl) dX6_setRation_20 ⟨Nat.le_of_ble_eq_true rfl, Nat.le_of_ble_eq_true rfl⟩) hW hS hA [0, 2, 3] rfl rfl rfl (fun u => [SC h xn xb xe xt xz hh ht hs sn se, LC G xb nv nq, HB G hh hk u.1 u.2.1 u.2.2.1 u.2.2.2]) (fun _ => rfl) (fun _ => rfl) (fun r_3 u_3 H locs hw_3 hW hS => ?_)
  obtain ⟨hP, hD⟩ := hW.flat
  obtain ⟨hn_c3, xs_c3, vs_c3, qs_c3⟩ := u_3
  have hP : va_P G.1 vwCl (SC h xn xb xe xt xz hh ht hs sn se ++ LC G xn v_c2 nq ++ LC G xb nv nq ++ HB G hh hk hn_c3 xs_c3 vs_c3 qs_c3) H := hP
  have hD : va_D A (SC h xn xb xe xt xz hh ht hs sn se ++ LC G xn v_c2 nq ++ LC G xb nv nq ++ HB G hh hk hn_c3 xs_c3 vs_c3 qs_c3) := hD
  exact end_I C0 hP hD hS (v_c2, nv, nq, hn_c3, xs_c3, vs_c3, qs_c3) (by simp only [f_X6_setRation, hw_2, hw_3]) rfl dX6_setRation_23

def f_X6_queue (nv : (Nat → Int32)) (nq : (Nat → Int32)) (hn : Nat) (xs : (Nat → Nat → Nat)) (vs : (Nat → Nat → Int32)) (qs : (Nat → Nat → Int32)) (p0 : Int32) : Int32 × (Nat → Int32) × (Nat → Int32) × (Nat → Int32) × (Nat → Int32) × Nat × (Nat → Nat → Nat) × (Nat → Nat → Int32) × (Nat → Nat → Int32) :=
  match f_X2_addToLine nv nq p0 with
  | (r_2, v_c2, q_c2) =>
    match f_X6_recorded nv nq hn xs vs qs r_2 with
    | (r_3, hn_c3, xs_c3, vs_c3, qs_c3) =>
      (r_3, v_c2, q_c2, nv, nq, hn_c3, xs_c3, vs_c3, qs_c3)
set_option maxRecDepth 20000 in
theorem k_X6_queue_f10 : Cond.fieldLink RX6 10 "SteamRations" "now" "LSteamRations$Laundry;" ∈ wsX6_queue := by decide +kernel
set_option maxRecDepth 20000 in
theorem k_X6_queue_f16 : Cond.fieldLink RX6 16 "SteamRations" "before" "LSteamRations$Laundry;" ∈ wsX6_queue := by decide +kernel
set_option maxRecDepth 20000 in
theorem in_X6_queue_RX6 : ∀ w ∈ u_ws RX6 TX6 10, w ∈ wsX6_queue := by decide +kernel
theorem cd_X6_queue : yX6_queue.cls = RX6 ∧ yX6_queue.cls ≠ "java/lang/invoke/MethodHandle" ∧ yX6_queue.cls ≠ "java/lang/invoke/VarHandle" ∧ (parseMethodDescriptor yX6_queue.desc).map (fun d => d.parameters.length) = some 1 := by decide +kernel
set_option maxHeartbeats 4000000 in
set_option maxRecDepth 100000 in
theorem c_X6_queue (l : Launch) (G : GG) (h : Nat) (xn : Nat → Nat) (xb : Nat → Nat) (xe : Nat → Nat) (xt : Nat → Nat) (xz : Nat → Nat) (hh : Nat) (ht : Nat) (hk : Nat) (hs : Int32) (sn : Int32) (se : Int32) (nv : (Nat → Int32)) (nq : (Nat → Int32)) (bv : (Nat → Int32)) (bq : (Nat → Int32)) (hn : Nat) (xs : (Nat → Nat → Nat)) (vs : (Nat → Nat → Int32)) (qs : (Nat → Nat → Int32)) (sz : Nat) (p0 : Int32) (hn4 : hn ≤ 4) : Met l yX6_queue wsX6_queue ({ frames := 4, cells := 0, slots := 0, locals := 86 }) (Pre G [.ref h, .int p0] (SC h xn xb xe xt xz hh ht hs sn se ++ LC G xn nv nq ++ LC G xb bv bq ++ HB G hh hk hn xs vs qs) sz) (PI G (va_A (SC h xn xb xe xt xz hh ht hs sn se ++ LC G xn nv nq ++ LC G xb bv bq ++ HB G hh hk hn xs vs qs) sz) (fun r (u : (Nat → Int32) × (Nat → Int32) × (Nat → Int32) × (Nat → Int32) × Nat × (Nat → Nat → Nat) × (Nat → Nat → Int32) × (Nat → Nat → Int32)) => f_X6_queue nv nq hn xs vs qs p0 = (r, u)) (fun u : (Nat → Int32) × (Nat → Int32) × (Nat → Int32) × (Nat → Int32) × Nat × (Nat → Nat → Nat) × (Nat → Nat → Int32) × (Nat → Nat → Int32) => SC h xn xb xe xt xz hh ht hs sn se ++ LC G xn u.1 u.2.1 ++ LC G xb u.2.2.1 u.2.2.2.1 ++ HB G hh hk u.2.2.2.2.1 u.2.2.2.2.2.1 u.2.2.2.2.2.2.1 u.2.2.2.2.2.2.2)) 0 0 (va_A (SC h xn xb xe xt xz hh ht hs sn se ++ LC G xn nv nq ++ LC G xb bv bq ++ HB G hh hk hn xs vs qs) sz) := by
  refine Met.walk (cc := cX6_queue) (maxL := 2) (ret := (some .int)) (Qc := fun A => PI G A (fun r (u : (Nat → Int32) × (Nat → Int32) × (Nat → Int32) × (Nat → Int32) × Nat × (Nat → Nat → Nat) × (Nat → Nat → Int32) × (Nat → Nat → Int32)) => f_X6_queue nv nq hn xs vs qs p0 = (r, u)) (fun u : (Nat → Int32) × (Nat → Int32) × (Nat → Int32) × (Nat → Int32) × Nat × (Nat → Nat → Nat) × (Nat → Nat → Int32) × (Nat → Nat → Int32) => SC h xn xb xe xt xz hh ht hs sn se ++ LC G xn u.1 u.2.1 ++ LC G xb u.2.2.1 u.2.2.2.1 ++ HB G hh hk u.2.2.2.2.1 u.2.2.2.2.2.1 u.2.2.2.2.2.2.1 u.2.2.2.2.2.2.2)) (by decide) rfl (Nat.le_of_ble_eq_true rfl) ?_
  intro p e s m below meth c A H C0 _ hK hsz hP hD hA hS ls hl
  have hx := C0.1
  have hb := C0.2.1
  have hown : s.vm.findClass RX6 = some m.cls := C0.2.2.2.2.1
  have hml := C0.2.2.2.1
  have hts : ∀ w ∈ wsX6_queue, w.before [.ref h, .int p0].toArray s = true := C0.2.2.2.2.2.1
  have hl : lv_has ls 2 [(0, .ref h), (1, .int p0)] := hl
  refine lv_aload_n hx hb dX6_queue_0 rfl (lv_at hl 0 rfl) ?_
  refine va_get (D := G.1) (ci := 6) (v := .ref (xb 0)) (C := RX6) (T := TX6) (N := 10) hx hb hts in_X6_queue_RX6 hown hK.1 hP 0 rfl rfl 1 (by decide) (hts _ k_X6_queue_f16) (fun _ h9 => h9) rfl dX6_queue_1 ?_
  refine lv_aload_n hx hb dX6_queue_4 rfl (lv_at hl 0 rfl) ?_
  refine va_get (D := G.1) (ci := 6) (v := .ref (xn 0)) (C := RX6) (T := TX6) (N := 10) hx hb hts in_X6_queue_RX6 hown hK.1 hP 0 rfl rfl 0 (by decide) (hts _ k_X6_queue_f10) (fun _ h9 => h9) rfl dX6_queue_5 ?_
  have hW : BW G A [SC h xn xb xe xt xz hh ht hs sn se, LC G xn nv nq, LC G xb bv bq, HB G hh hk hn xs vs qs] H := BW.of hP hD
  refine gcallB_V (bc := [LC G xb bv bq, LC G xn nv nq]) (runB_V (As := [.ref (xn 0)]) (rest := []) (bc := [LC G xb bv bq, LC G xn nv nq]) C0 hK hW (c_X2_copyFrom l G xb xn bv bq nv nq H.size ) (cwV 1 hts gX6_queue_X2_copyFrom rfl rfl rfl cd_X2_copyFrom ⟨Nat.le_of_ble_eq_true rfl, Nat.le_of_ble_eq_true rfl⟩) [2, 1] rfl rfl rfl 2 0 rfl (ci := 2) rfl rfl rfl rfl hl.1 rfl (Nat.le_of_ble_eq_true rfl) dX6_queue_8 ⟨Nat.le_of_ble_eq_true rfl, Nat.le_of_ble_eq_true rfl⟩) hW hS hA [2, 1] rfl rfl rfl (fun u => [LC G xb u.1 u.2, LC G xn nv nq]) (fun _ => rfl) (fun _ => rfl) (fun u_1 H locs hw_1 hW hS => ?_)
  obtain ⟨hP, hD⟩ := hW.flat
  obtain ⟨v_c1, q_c1⟩ := u_1
  simp only [f_X2_copyFrom, Prod.mk.injEq] at hw_1
  obtain ⟨rfl, rfl⟩ := hw_1
  have hP : va_P G.1 vwCl (SC h xn xb xe xt xz hh ht hs sn se ++ LC G xn nv nq ++ LC G xb nv nq ++ HB G hh hk hn xs vs qs) H := hP
  have hD : va_D A (SC h xn xb xe xt xz hh ht hs sn se ++ LC G xn nv nq ++ LC G xb nv nq ++ HB G hh hk hn xs vs qs) := hD
  refine lv_aload_n hx hb dX6_queue_11 rfl (lv_at hl 0 rfl) ?_
  refine lv_aload_n hx hb dX6_queue_12 rfl (lv_at hl 0 rfl) ?_
  refine va_get (D := G.1) (ci := 6) (v := .ref (xn 0)) (C := RX6) (T := TX6) (N := 10) hx hb hts in_X6_queue_RX6 hown hK.1 hP 0 rfl rfl 0 (by decide) (hts _ k_X6_queue_f10) (fun _ h9 => h9) rfl dX6_queue_13 ?_
  refine lv_iload_n hx hb dX6_queue_16 rfl (lv_at hl 1 rfl) ?_
  have hW : BW G A [SC h xn xb xe xt xz hh ht hs sn se, LC G xn nv nq, LC G xb nv nq, HB G hh hk hn xs vs qs] H := BW.of hP hD
  refine gcallB_I (bc := [LC G xn nv nq]) (runB_V (As := [.int p0]) (rest := [.ref h]) (bc := [LC G xn nv nq]) C0 hK hW (c_X2_addToLine l G xn nv nq H.size p0) (cwV 1 hts gX6_queue_X2_addToLine rfl rfl rfl cd_X2_addToLine ⟨Nat.le_of_ble_eq_true rfl, Nat.le_of_ble_eq_true rfl⟩) [1] rfl rfl rfl 1 0 rfl (ci := 2) rfl rfl rfl rfl hl.1 rfl (Nat.le_of_ble_eq_true rfl) dX6_queue_17 ⟨Nat.le_of_ble_eq_true rfl, Nat.le_of_ble_eq_true rfl⟩) hW hS hA [1] rfl rfl rfl (fun u => [LC G xn u.1 u.2]) (fun _ => rfl) (fun _ => rfl) (fun r_2 u_2 H locs hw_2 hW hS => ?_)
  obtain ⟨hP, hD⟩ := hW.flat
  obtain ⟨v_c2, q_c2⟩ := u_2
  have hP : va_P G.1 vwCl (SC h xn xb xe xt xz hh ht hs sn se ++ LC G xn v_c2 q_c2 ++ LC G xb nv nq ++ HB G hh hk hn xs vs qs) H := hP
  have hD : va_D A (SC h xn xb xe xt xz hh ht hs sn se ++ LC G xn v_c2 q_c2 ++ LC G xb nv nq ++ HB G hh hk hn xs vs qs) := hD
  have hW : BW G A [SC h xn xb xe xt xz hh ht hs sn se, LC G xn v_c2 q_c2, LC G xb nv nq, HB G hh hk hn xs vs qs] H := BW.of hP hD
  refine gcallB_I (bc := [SC h xn xb xe xt xz hh ht hs sn se, LC G xb nv nq, HB G hh hk hn xs vs qs]) (runB_V (As := [.int r_2]) (rest := []) (bc := [SC h xn xb xe xt xz hh ht hs sn se, LC G xb nv nq, HB G hh hk hn xs vs qs]) C0 hK hW (c_X6_recorded l G h xn xb xe xt xz hh ht hk hs sn se nv nq hn xs vs qs H.size r_2 hn4) (cwV 1 hts gX6_queue_X6_recorded rfl rfl rfl cd_X6_recorded ⟨Nat.le_of_ble_eq_true rfl, Nat.le_of_ble_eq_true rfl⟩) [0, 2, 3] rfl rfl rfl 0 0 rfl (ci := 6) rfl rfl rfl rfl hl.1 rfl (Nat.le_of_ble_eq_true rfl) dX6_queue_20 ⟨Nat.le_of_ble_eq_true rfl, Nat.le_of_ble_eq_true rfl⟩) hW hS hA [0, 2, 3] rfl rfl rfl (fun u => [SC h xn xb xe xt xz hh ht hs sn se, LC G xb nv nq, HB G hh hk u.1 u.2.1 u.2.2.1 u.2.2.2]) (fun _ => rfl) (fun _ => rfl) (fun r_3 u_3 H locs hw_3 hW hS => ?_)
  obtain ⟨hP, hD⟩ := hW.flat
  obtain ⟨hn_c3, xs_c3, vs_c3, qs_c3⟩ := u_3
  have hP : va_P G.1 vwCl (SC h xn xb xe xt xz hh ht hs sn se ++ LC G xn v_c2 q_c2 ++ LC G xb nv nq ++ HB G hh hk hn_c3 xs_c3 vs_c3 qs_c3) H := hP
  have hD : va_D A (SC h xn xb xe xt xz hh ht hs sn se ++ LC G xn v_c2 q_c2 ++ LC G xb nv nq ++ HB G hh hk hn_c3 xs_c3 vs_c3 qs_c3) := hD
  exact end_I C0 hP hD hS (v_c2, q_c2, nv, nq, hn_c3, xs_c3, vs_c3, qs_c3) (by simp only [f_X6_queue, hw_2, hw_3]) rfl dX6_queue_23

def f_X6_unqueue (nv : (Nat → Int32)) (nq : (Nat → Int32)) (hn : Nat) (xs : (Nat → Nat → Nat)) (vs : (Nat → Nat → Int32)) (qs : (Nat → Nat → Int32)) (p0 : Int32) : Int32 × (Nat → Int32) × (Nat → Int32) × (Nat → Int32) × (Nat → Int32) × Nat × (Nat → Nat → Nat) × (Nat → Nat → Int32) × (Nat → Nat → Int32) :=
  match f_X2_removeFromLine nv nq p0 with
  | (r_2, v_c2, q_c2) =>
    match f_X6_recorded nv nq hn xs vs qs r_2 with
    | (r_3, hn_c3, xs_c3, vs_c3, qs_c3) =>
      (r_3, v_c2, q_c2, nv, nq, hn_c3, xs_c3, vs_c3, qs_c3)
set_option maxRecDepth 20000 in
theorem k_X6_unqueue_f10 : Cond.fieldLink RX6 10 "SteamRations" "now" "LSteamRations$Laundry;" ∈ wsX6_unqueue := by decide +kernel
set_option maxRecDepth 20000 in
theorem k_X6_unqueue_f16 : Cond.fieldLink RX6 16 "SteamRations" "before" "LSteamRations$Laundry;" ∈ wsX6_unqueue := by decide +kernel
set_option maxRecDepth 20000 in
theorem in_X6_unqueue_RX6 : ∀ w ∈ u_ws RX6 TX6 10, w ∈ wsX6_unqueue := by decide +kernel
theorem cd_X6_unqueue : yX6_unqueue.cls = RX6 ∧ yX6_unqueue.cls ≠ "java/lang/invoke/MethodHandle" ∧ yX6_unqueue.cls ≠ "java/lang/invoke/VarHandle" ∧ (parseMethodDescriptor yX6_unqueue.desc).map (fun d => d.parameters.length) = some 1 := by decide +kernel
set_option maxHeartbeats 4000000 in
set_option maxRecDepth 100000 in
theorem c_X6_unqueue (l : Launch) (G : GG) (h : Nat) (xn : Nat → Nat) (xb : Nat → Nat) (xe : Nat → Nat) (xt : Nat → Nat) (xz : Nat → Nat) (hh : Nat) (ht : Nat) (hk : Nat) (hs : Int32) (sn : Int32) (se : Int32) (nv : (Nat → Int32)) (nq : (Nat → Int32)) (bv : (Nat → Int32)) (bq : (Nat → Int32)) (hn : Nat) (xs : (Nat → Nat → Nat)) (vs : (Nat → Nat → Int32)) (qs : (Nat → Nat → Int32)) (sz : Nat) (p0 : Int32) (hn4 : hn ≤ 4) : Met l yX6_unqueue wsX6_unqueue ({ frames := 4, cells := 0, slots := 0, locals := 86 }) (Pre G [.ref h, .int p0] (SC h xn xb xe xt xz hh ht hs sn se ++ LC G xn nv nq ++ LC G xb bv bq ++ HB G hh hk hn xs vs qs) sz) (PI G (va_A (SC h xn xb xe xt xz hh ht hs sn se ++ LC G xn nv nq ++ LC G xb bv bq ++ HB G hh hk hn xs vs qs) sz) (fun r (u : (Nat → Int32) × (Nat → Int32) × (Nat → Int32) × (Nat → Int32) × Nat × (Nat → Nat → Nat) × (Nat → Nat → Int32) × (Nat → Nat → Int32)) => f_X6_unqueue nv nq hn xs vs qs p0 = (r, u)) (fun u : (Nat → Int32) × (Nat → Int32) × (Nat → Int32) × (Nat → Int32) × Nat × (Nat → Nat → Nat) × (Nat → Nat → Int32) × (Nat → Nat → Int32) => SC h xn xb xe xt xz hh ht hs sn se ++ LC G xn u.1 u.2.1 ++ LC G xb u.2.2.1 u.2.2.2.1 ++ HB G hh hk u.2.2.2.2.1 u.2.2.2.2.2.1 u.2.2.2.2.2.2.1 u.2.2.2.2.2.2.2)) 0 0 (va_A (SC h xn xb xe xt xz hh ht hs sn se ++ LC G xn nv nq ++ LC G xb bv bq ++ HB G hh hk hn xs vs qs) sz) := by
  refine Met.walk (cc := cX6_unqueue) (maxL := 2) (ret := (some .int)) (Qc := fun A => PI G A (fun r (u : (Nat → Int32) × (Nat → Int32) × (Nat → Int32) × (Nat → Int32) × Nat × (Nat → Nat → Nat) × (Nat → Nat → Int32) × (Nat → Nat → Int32)) => f_X6_unqueue nv nq hn xs vs qs p0 = (r, u)) (fun u : (Nat → Int32) × (Nat → Int32) × (Nat → Int32) × (Nat → Int32) × Nat × (Nat → Nat → Nat) × (Nat → Nat → Int32) × (Nat → Nat → Int32) => SC h xn xb xe xt xz hh ht hs sn se ++ LC G xn u.1 u.2.1 ++ LC G xb u.2.2.1 u.2.2.2.1 ++ HB G hh hk u.2.2.2.2.1 u.2.2.2.2.2.1 u.2.2.2.2.2.2.1 u.2.2.2.2.2.2.2)) (by decide) rfl (Nat.le_of_ble_eq_true rfl) ?_
  intro p e s m below meth c A H C0 _ hK hsz hP hD hA hS ls hl
  have hx := C0.1
  have hb := C0.2.1
  have hown : s.vm.findClass RX6 = some m.cls := C0.2.2.2.2.1
  have hml := C0.2.2.2.1
  have hts : ∀ w ∈ wsX6_unqueue, w.before [.ref h, .int p0].toArray s = true := C0.2.2.2.2.2.1
  have hl : lv_has ls 2 [(0, .ref h), (1, .int p0)] := hl
  refine lv_aload_n hx hb dX6_unqueue_0 rfl (lv_at hl 0 rfl) ?_
  refine va_get (D := G.1) (ci := 6) (v := .ref (xb 0)) (C := RX6) (T := TX6) (N := 10) hx hb hts in_X6_unqueue_RX6 hown hK.1 hP 0 rfl rfl 1 (by decide) (hts _ k_X6_unqueue_f16) (fun _ h9 => h9) rfl dX6_unqueue_1 ?_
  refine lv_aload_n hx hb dX6_unqueue_4 rfl (lv_at hl 0 rfl) ?_
  refine va_get (D := G.1) (ci := 6) (v := .ref (xn 0)) (C := RX6) (T := TX6) (N := 10) hx hb hts in_X6_unqueue_RX6 hown hK.1 hP 0 rfl rfl 0 (by decide) (hts _ k_X6_unqueue_f10) (fun _ h9 => h9) rfl dX6_unqueue_5 ?_
  have hW : BW G A [SC h xn xb xe xt xz hh ht hs sn se, LC G xn nv nq, LC G xb bv bq, HB G hh hk hn xs vs qs] H := BW.of hP hD
  refine gcallB_V (bc := [LC G xb bv bq, LC G xn nv nq]) (runB_V (As := [.ref (xn 0)]) (rest := []) (bc := [LC G xb bv bq, LC G xn nv nq]) C0 hK hW (c_X2_copyFrom l G xb xn bv bq nv nq H.size ) (cwV 1 hts gX6_unqueue_X2_copyFrom rfl rfl rfl cd_X2_copyFrom ⟨Nat.le_of_ble_eq_true rfl, Nat.le_of_ble_eq_true rfl⟩) [2, 1] rfl rfl rfl 2 0 rfl (ci := 2) rfl rfl rfl rfl hl.1 rfl (Nat.le_of_ble_eq_true rfl) dX6_unqueue_8 ⟨Nat.le_of_ble_eq_true rfl, Nat.le_of_ble_eq_true rfl⟩) hW hS hA [2, 1] rfl rfl rfl (fun u => [LC G xb u.1 u.2, LC G xn nv nq]) (fun _ => rfl) (fun _ => rfl) (fun u_1 H locs hw_1 hW hS => ?_)
  obtain ⟨hP, hD⟩ := hW.flat
  obtain ⟨v_c1, q_c1⟩ := u_1
  simp only [f_X2_copyFrom, Prod.mk.injEq] at hw_1
  obtain ⟨rfl, rfl⟩ := hw_1
  have hP : va_P G.1 vwCl (SC h xn xb xe xt xz hh ht hs sn se ++ LC G xn nv nq ++ LC G xb nv nq ++ HB G hh hk hn xs vs qs) H := hP
  have hD : va_D A (SC h xn xb xe xt xz hh ht hs sn se ++ LC G xn nv nq ++ LC G xb nv nq ++ HB G hh hk hn xs vs qs) := hD
  refine lv_aload_n hx hb dX6_unqueue_11 rfl (lv_at hl 0 rfl) ?_
  refine lv_aload_n hx hb dX6_unqueue_12 rfl (lv_at hl 0 rfl) ?_
  refine va_get (D := G.1) (ci := 6) (v := .ref (xn 0)) (C := RX6) (T := TX6) (N := 10) hx hb hts in_X6_unqueue_RX6 hown hK.1 hP 0 rfl rfl 0 (by decide) (hts _ k_X6_unqueue_f10) (fun _ h9 => h9) rfl dX6_unqueue_13 ?_
  refine lv_iload_n hx hb dX6_unqueue_16 rfl (lv_at hl 1 rfl) ?_
  have hW : BW G A [SC h xn xb xe xt xz hh ht hs sn se, LC G xn nv nq, LC G xb nv nq, HB G hh hk hn xs vs qs] H := BW.of hP hD
  refine gcallB_I (bc := [LC G xn nv nq]) (runB_V (As := [.int p0]) (rest := [.ref h]) (bc := [LC G xn nv nq]) C0 hK hW (c_X2_removeFromLine l G xn nv nq H.size p0) (cwV 1 hts gX6_unqueue_X2_removeFromLine rfl rfl rfl cd_X2_removeFromLine ⟨Nat.le_of_ble_eq_true rfl, Nat.le_of_ble_eq_true rfl⟩) [1] rfl rfl rfl 1 0 rfl (ci := 2) rfl rfl rfl rfl hl.1 rfl (Nat.le_of_ble_eq_true rfl) dX6_unqueue_17 ⟨Nat.le_of_ble_eq_true rfl, Nat.le_of_ble_eq_true rfl⟩) hW hS hA [1] rfl rfl rfl (fun u => [LC G xn u.1 u.2]) (fun _ => rfl) (fun _ => rfl) (fun r_2 u_2 H locs hw_2 hW hS => ?_)
  obtain ⟨hP, hD⟩ := hW.flat
  obtain ⟨v_c2, q_c2⟩ := u_2
  have hP : va_P G.1 vwCl (SC h xn xb xe xt xz hh ht hs sn se ++ LC G xn v_c2 q_c2 ++ LC G xb nv nq ++ HB G hh hk hn xs vs qs) H := hP
  have hD : va_D A (SC h xn xb xe xt xz hh ht hs sn se ++ LC G xn v_c2 q_c2 ++ LC G xb nv nq ++ HB G hh hk hn xs vs qs) := hD
  have hW : BW G A [SC h xn xb xe xt xz hh ht hs sn se, LC G xn v_c2 q_c2, LC G xb nv nq, HB G hh hk hn xs vs qs] H := BW.of hP hD
  refine gcallB_I (bc := [SC h xn xb xe xt xz hh ht hs sn se, LC G xb nv nq, HB G hh hk hn xs vs qs]) (runB_V (As := [.int r_2]) (rest := []) (bc := [SC h xn xb xe xt xz hh ht hs sn se, LC G xb nv nq, HB G hh hk hn xs vs qs]) C0 hK hW (c_X6_recorded l G h xn xb xe xt xz hh ht hk hs sn se nv nq hn xs vs qs H.size r_2 hn4) (cwV 1 hts gX6_unqueue_X6_recorded rfl rfl rfl cd_X6_recorded ⟨Nat.le_of_ble_eq_true rfl, Nat.le_of_ble_eq_true rfl⟩) [0, 2, 3] rfl rfl rfl 0 0 rfl (ci := 6) rfl rfl rfl rfl hl.1 rfl (Nat.le_of_ble_eq_true rfl) dX6_unqueue_20 ⟨Nat.le_of_ble_eq_true rfl, Nat.le_of_ble_eq_true rfl⟩) hW hS hA [0, 2, 3] rfl rfl rfl (fun u => [SC h xn xb xe xt xz hh ht hs sn se, LC G xb nv nq, HB G hh hk u.1 u.2.1 u.2.2.1 u.2.2.2]) (fun _ => rfl) (fun _ => rfl) (fun r_3 u_3 H locs hw_3 hW hS => ?_)
  obtain ⟨hP, hD⟩ := hW.flat
  obtain ⟨hn_c3, xs_c3, vs_c3, qs_c3⟩ := u_3
  have hP : va_P G.1 vwCl (SC h xn xb xe xt xz hh ht hs sn se ++ LC G xn v_c2 q_c2 ++ LC G xb nv nq ++ HB G hh hk hn_c3 xs_c3 vs_c3 qs_c3) H := hP
  have hD : va_D A (SC h xn xb xe xt xz hh ht hs sn se ++ LC G xn v_c2 q_c2 ++ LC G xb nv nq ++ HB G hh hk hn_c3 xs_c3 vs_c3 qs_c3) := hD
  exact end_I C0 hP hD hS (v_c2, q_c2, nv, nq, hn_c3, xs_c3, vs_c3, qs_c3) (by simp only [f_X6_unqueue, hw_2, hw_3]) rfl dX6_unqueue_23

def f_X6_takeOut (nv : (Nat → Int32)) (nq : (Nat → Int32)) (hn : Nat) (xs : (Nat → Nat → Nat)) (vs : (Nat → Nat → Int32)) (qs : (Nat → Nat → Int32)) (p0 : Int32) : Int32 × (Nat → Int32) × (Nat → Int32) × (Nat → Int32) × Nat × (Nat → Nat → Nat) × (Nat → Nat → Int32) × (Nat → Nat → Int32) :=
  match f_X2_unload nv p0 with
  | (r_2, v_c2) =>
    match f_X6_recorded nv nq hn xs vs qs r_2 with
    | (r_3, hn_c3, xs_c3, vs_c3, qs_c3) =>
      (r_3, v_c2, nv, nq, hn_c3, xs_c3, vs_c3, qs_c3)
set_option maxRecDepth 20000 in
theorem k_X6_takeOut_f10 : Cond.fieldLink RX6 10 "SteamRations" "now" "LSteamRations$Laundry;" ∈ wsX6_takeOut := by decide +kernel
set_option maxRecDepth 20000 in
theorem k_X6_takeOut_f16 : Cond.fieldLink RX6 16 "SteamRations" "before" "LSteamRations$Laundry;" ∈ wsX6_takeOut := by decide +kernel
set_option maxRecDepth 20000 in
theorem in_X6_takeOut_RX6 : ∀ w ∈ u_ws RX6 TX6 10, w ∈ wsX6_takeOut := by decide +kernel
theorem cd_X6_takeOut : yX6_takeOut.cls = RX6 ∧ yX6_takeOut.cls ≠ "java/lang/invoke/MethodHandle" ∧ yX6_takeOut.cls ≠ "java/lang/invoke/VarHandle" ∧ (parseMethodDescriptor yX6_takeOut.desc).map (fun d => d.parameters.length) = some 1 := by decide +kernel
set_option maxHeartbeats 4000000 in
set_option maxRecDepth 100000 in
theorem c_X6_takeOut (l : Launch) (G : GG) (h : Nat) (xn : Nat → Nat) (xb : Nat → Nat) (xe : Nat → Nat) (xt : Nat → Nat) (xz : Nat → Nat) (hh : Nat) (ht : Nat) (hk : Nat) (hs : Int32) (sn : Int32) (se : Int32) (nv : (Nat → Int32)) (nq : (Nat → Int32)) (bv : (Nat → Int32)) (bq : (Nat → Int32)) (hn : Nat) (xs : (Nat → Nat → Nat)) (vs : (Nat → Nat → Int32)) (qs : (Nat → Nat → Int32)) (sz : Nat) (p0 : Int32) (hn4 : hn ≤ 4) : Met l yX6_takeOut wsX6_takeOut ({ frames := 4, cells := 0, slots := 0, locals := 86 }) (Pre G [.ref h, .int p0] (SC h xn xb xe xt xz hh ht hs sn se ++ LC G xn nv nq ++ LC G xb bv bq ++ HB G hh hk hn xs vs qs) sz) (PI G (va_A (SC h xn xb xe xt xz hh ht hs sn se ++ LC G xn nv nq ++ LC G xb bv bq ++ HB G hh hk hn xs vs qs) sz) (fun r (u : (Nat → Int32) × (Nat → Int32) × (Nat → Int32) × Nat × (Nat → Nat → Nat) × (Nat → Nat → Int32) × (Nat → Nat → Int32)) => f_X6_takeOut nv nq hn xs vs qs p0 = (r, u)) (fun u : (Nat → Int32) × (Nat → Int32) × (Nat → Int32) × Nat × (Nat → Nat → Nat) × (Nat → Nat → Int32) × (Nat → Nat → Int32) => SC h xn xb xe xt xz hh ht hs sn se ++ LC G xn u.1 nq ++ LC G xb u.2.1 u.2.2.1 ++ HB G hh hk u.2.2.2.1 u.2.2.2.2.1 u.2.2.2.2.2.1 u.2.2.2.2.2.2)) 0 0 (va_A (SC h xn xb xe xt xz hh ht hs sn se ++ LC G xn nv nq ++ LC G xb bv bq ++ HB G hh hk hn xs vs qs) sz) := by
  refine Met.walk (cc := cX6_takeOut) (maxL := 2) (ret := (some .int)) (Qc := fun A => PI G A (fun r (u : (Nat → Int32) × (Nat → Int32) × (Nat → Int32) × Nat × (Nat → Nat → Nat) × (Nat → Nat → Int32) × (Nat → Nat → Int32)) => f_X6_takeOut nv nq hn xs vs qs p0 = (r, u)) (fun u : (Nat → Int32) × (Nat → Int32) × (Nat → Int32) × Nat × (Nat → Nat → Nat) × (Nat → Nat → Int32) × (Nat → Nat → Int32) => SC h xn xb xe xt xz hh ht hs sn se ++ LC G xn u.1 nq ++ LC G xb u.2.1 u.2.2.1 ++ HB G hh hk u.2.2.2.1 u.2.2.2.2.1 u.2.2.2.2.2.1 u.2.2.2.2.2.2)) (by decide) rfl (Nat.le_of_ble_eq_true rfl) ?_
  intro p e s m below meth c A H C0 _ hK hsz hP hD hA hS ls hl
  have hx := C0.1
  have hb := C0.2.1
  have hown : s.vm.findClass RX6 = some m.cls := C0.2.2.2.2.1
  have hml := C0.2.2.2.1
  have hts : ∀ w ∈ wsX6_takeOut, w.before [.ref h, .int p0].toArray s = true := C0.2.2.2.2.2.1
  have hl : lv_has ls 2 [(0, .ref h), (1, .int p0)] := hl
  refine lv_aload_n hx hb dX6_takeOut_0 rfl (lv_at hl 0 rfl) ?_
  refine va_get (D := G.1) (ci := 6) (v := .ref (xb 0)) (C := RX6) (T := TX6) (N := 10) hx hb hts in_X6_takeOut_RX6 hown hK.1 hP 0 rfl rfl 1 (by decide) (hts _ k_X6_takeOut_f16) (fun _ h9 => h9) rfl dX6_takeOut_1 ?_
  refine lv_aload_n hx hb dX6_takeOut_4 rfl (lv_at hl 0 rfl) ?_
  refine va_get (D := G.1) (ci := 6) (v := .ref (xn 0)) (C := RX6) (T := TX6) (N := 10) hx hb hts in_X6_takeOut_RX6 hown hK.1 hP 0 rfl rfl 0 (by decide) (hts _ k_X6_takeOut_f10) (fun _ h9 => h9) rfl dX6_takeOut_5 ?_
  have hW : BW G A [SC h xn xb xe xt xz hh ht hs sn se, LC G xn nv nq, LC G xb bv bq, HB G hh hk hn xs vs qs] H := BW.of hP hD
  refine gcallB_V (bc := [LC G xb bv bq, LC G xn nv nq]) (runB_V (As := [.ref (xn 0)]) (rest := []) (bc := [LC G xb bv bq, LC G xn nv nq]) C0 hK hW (c_X2_copyFrom l G xb xn bv bq nv nq H.size ) (cwV 1 hts gX6_takeOut_X2_copyFrom rfl rfl rfl cd_X2_copyFrom ⟨Nat.le_of_ble_eq_true rfl, Nat.le_of_ble_eq_true rfl⟩) [2, 1] rfl rfl rfl 2 0 rfl (ci := 2) rfl rfl rfl rfl hl.1 rfl (Nat.le_of_ble_eq_true rfl) dX6_takeOut_8 ⟨Nat.le_of_ble_eq_true rfl, Nat.le_of_ble_eq_true rfl⟩) hW hS hA [2, 1] rfl rfl rfl (fun u => [LC G xb u.1 u.2, LC G xn nv nq]) (fun _ => rfl) (fun _ => rfl) (fun u_1 H locs hw_1 hW hS => ?_)
  obtain ⟨hP, hD⟩ := hW.flat
  obtain ⟨v_c1, q_c1⟩ := u_1
  simp only [f_X2_copyFrom, Prod.mk.injEq] at hw_1
  obtain ⟨rfl, rfl⟩ := hw_1
  have hP : va_P G.1 vwCl (SC h xn xb xe xt xz hh ht hs sn se ++ LC G xn nv nq ++ LC G xb nv nq ++ HB G hh hk hn xs vs qs) H := hP
  have hD : va_D A (SC h xn xb xe xt xz hh ht hs sn se ++ LC G xn nv nq ++ LC G xb nv nq ++ HB G hh hk hn xs vs qs) := hD
  refine lv_aload_n hx hb dX6_takeOut_11 rfl (lv_at hl 0 rfl) ?_
  refine lv_aload_n hx hb dX6_takeOut_12 rfl (lv_at hl 0 rfl) ?_
  refine va_get (D := G.1) (ci := 6) (v := .ref (xn 0)) (C := RX6) (T := TX6) (N := 10) hx hb hts in_X6_takeOut_RX6 hown hK.1 hP 0 rfl rfl 0 (by decide) (hts _ k_X6_takeOut_f10) (fun _ h9 => h9) rfl dX6_takeOut_13 ?_
  refine lv_iload_n hx hb dX6_takeOut_16 rfl (lv_at hl 1 rfl) ?_
  have hW : BW G A [SC h xn xb xe xt xz hh ht hs sn se, LC G xn nv nq, LC G xb nv nq, HB G hh hk hn xs vs qs] H := BW.of hP hD
  refine gcallB_I (bc := [LC G xn nv nq]) (runB_V (As := [.int p0]) (rest := [.ref h]) (bc := [LC G xn nv nq]) C0 hK hW (c_X2_unload l G xn nv nq H.size p0) (cwV 1 hts gX6_takeOut_X2_unload rfl rfl rfl cd_X2_unload ⟨Nat.le_of_ble_eq_true rfl, Nat.le_of_ble_eq_true rfl⟩) [1] rfl rfl rfl 1 0 rfl (ci := 2) rfl rfl rfl rfl hl.1 rfl (Nat.le_of_ble_eq_true rfl) dX6_takeOut_17 ⟨Nat.le_of_ble_eq_true rfl, Nat.le_of_ble_eq_true rfl⟩) hW hS hA [1] rfl rfl rfl (fun u => [LC G xn u nq]) (fun _ => rfl) (fun _ => rfl) (fun r_2 u_2 H locs hw_2 hW hS => ?_)
  obtain ⟨hP, hD⟩ := hW.flat
  obtain ⟨v_c2, rfl⟩ : ∃ z, z = u_2 := ⟨_, rfl⟩
  have hP : va_P G.1 vwCl (SC h xn xb xe xt xz hh ht hs sn se ++ LC G xn v_c2 nq ++ LC G xb nv nq ++ HB G hh hk hn xs vs qs) H := hP
  have hD : va_D A (SC h xn xb xe xt xz hh ht hs sn se ++ LC G xn v_c2 nq ++ LC G xb nv nq ++ HB G hh hk hn xs vs qs) := hD
  have hW : BW G A [SC h xn xb xe xt xz hh ht hs sn se, LC G xn v_c2 nq, LC G xb nv nq, HB G hh hk hn xs vs qs] H := BW.of hP hD
  refine gcallB_I (bc := [SC h xn xb xe xt xz hh ht hs sn se, LC G xb nv nq, HB G hh hk hn xs vs qs]) (runB_V (As := [.int r_2]) (rest := []) (bc := [SC h xn xb xe xt xz hh ht hs sn se, LC G xb nv nq, HB G hh hk hn xs vs qs]) C0 hK hW (c_X6_recorded l G h xn xb xe xt xz hh ht hk hs sn se nv nq hn xs vs qs H.size r_2 hn4) (cwV 1 hts gX6_takeOut_X6_recorded rfl rfl rfl cd_X6_recorded ⟨Nat.le_of_ble_eq_true rfl, Nat.le_of_ble_eq_true rfl⟩) [0, 2, 3] rfl rfl rfl 0 0 rfl (ci := 6) rfl rfl rfl rfl hl.1 rfl (Nat.le_of_ble_eq_true rfl) dX6_takeOut_20 ⟨Nat.le_of_ble_eq_true rfl, Nat.le_of_ble_eq_true rfl⟩) hW hS hA [0, 2, 3] rfl rfl rfl (fun u => [SC h xn xb xe xt xz hh ht hs sn se, LC G xb nv nq, HB G hh hk u.1 u.2.1 u.2.2.1 u.2.2.2]) (fun _ => rfl) (fun _ => rfl) (fun r_3 u_3 H locs hw_3 hW hS => ?_)
  obtain ⟨hP, hD⟩ := hW.flat
  obtain ⟨hn_c3, xs_c3, vs_c3, qs_c3⟩ := u_3
  have hP : va_P G.1 vwCl (SC h xn xb xe xt xz hh ht hs sn se ++ LC G xn v_c2 nq ++ LC G xb nv nq ++ HB G hh hk hn_c3 xs_c3 vs_c3 qs_c3) H := hP
  have hD : va_D A (SC h xn xb xe xt xz hh ht hs sn se ++ LC G xn v_c2 nq ++ LC G xb nv nq ++ HB G hh hk hn_c3 xs_c3 vs_c3 qs_c3) := hD
  exact end_I C0 hP hD hS (v_c2, nv, nq, hn_c3, xs_c3, vs_c3, qs_c3) (by simp only [f_X6_takeOut, hw_2, hw_3]) rfl dX6_takeOut_23

def f_X6_start (nv : (Nat → Int32)) (nq : (Nat → Int32)) (yv : (Nat → Int32)) (yq : (Nat → Int32)) (hn : Nat) (xs : (Nat → Nat → Nat)) (vs : (Nat → Nat → Int32)) (qs : (Nat → Nat → Int32)) (p0 : Int32) (p1 : Int32) : Int32 × (Nat → Int32) × (Nat → Int32) × (Nat → Int32) × (Nat → Int32) × (Nat → Int32) × Nat × (Nat → Nat → Nat) × (Nat → Nat → Int32) × (Nat → Nat → Int32) :=
  match f_X2_startLoad nv nq yv yq p0 p1 with
  | (r_2, v_c2, ov_c2, oq_c2) =>
    match f_X6_recorded nv nq hn xs vs qs r_2 with
    | (r_3, hn_c3, xs_c3, vs_c3, qs_c3) =>
      (r_3, v_c2, nv, nq, ov_c2, oq_c2, hn_c3, xs_c3, vs_c3, qs_c3)
set_option maxRecDepth 20000 in
theorem k_X6_start_f10 : Cond.fieldLink RX6 10 "SteamRations" "now" "LSteamRations$Laundry;" ∈ wsX6_start := by decide +kernel
set_option maxRecDepth 20000 in
theorem k_X6_start_f16 : Cond.fieldLink RX6 16 "SteamRations" "before" "LSteamRations$Laundry;" ∈ wsX6_start := by decide +kernel
set_option maxRecDepth 20000 in
theorem k_X6_start_f22 : Cond.fieldLink RX6 22 "SteamRations" "trial" "LSteamRations$Laundry;" ∈ wsX6_start := by decide +kernel
set_option maxRecDepth 20000 in
theorem in_X6_start_RX6 : ∀ w ∈ u_ws RX6 TX6 10, w ∈ wsX6_start := by decide +kernel
theorem cd_X6_start : yX6_start.cls = RX6 ∧ yX6_start.cls ≠ "java/lang/invoke/MethodHandle" ∧ yX6_start.cls ≠ "java/lang/invoke/VarHandle" ∧ (parseMethodDescriptor yX6_start.desc).map (fun d => d.parameters.length) = some 2 := by decide +kernel
set_option maxHeartbeats 4000000 in
set_option maxRecDepth 100000 in
theorem c_X6_start (l : Launch) (G : GG) (h : Nat) (xn : Nat → Nat) (xb : Nat → Nat) (xe : Nat → Nat) (xt : Nat → Nat) (xz : Nat → Nat) (hh : Nat) (ht : Nat) (hk : Nat) (hs : Int32) (sn : Int32) (se : Int32) (nv : (Nat → Int32)) (nq : (Nat → Int32)) (bv : (Nat → Int32)) (bq : (Nat → Int32)) (yv : (Nat → Int32)) (yq : (Nat → Int32)) (hn : Nat) (xs : (Nat → Nat → Nat)) (vs : (Nat → Nat → Int32)) (qs : (Nat → Nat → Int32)) (sz : Nat) (p0 : Int32) (p1 : Int32) (hn4 : hn ≤ 4) : Met l yX6_start wsX6_start ({ frames := 5, cells := 0, slots := 0, locals := 137 }) (Pre G [.ref h, .int p0, .int p1] (SC h xn xb xe xt xz hh ht hs sn se ++ LC G xn nv nq ++ LC G xb bv bq ++ LC G xt yv yq ++ HB G hh hk hn xs vs qs) sz) (PI G (va_A (SC h xn xb xe xt xz hh ht hs sn se ++ LC G xn nv nq ++ LC G xb bv bq ++ LC G xt yv yq ++ HB G hh hk hn xs vs qs) sz) (fun r (u : (Nat → Int32) × (Nat → Int32) × (Nat → Int32) × (Nat → Int32) × (Nat → Int32) × Nat × (Nat → Nat → Nat) × (Nat → Nat → Int32) × (Nat → Nat → Int32)) => f_X6_start nv nq yv yq hn xs vs qs p0 p1 = (r, u)) (fun u : (Nat → Int32) × (Nat → Int32) × (Nat → Int32) × (Nat → Int32) × (Nat → Int32) × Nat × (Nat → Nat → Nat) × (Nat → Nat → Int32) × (Nat → Nat → Int32) => SC h xn xb xe xt xz hh ht hs sn se ++ LC G xn u.1 nq ++ LC G xb u.2.1 u.2.2.1 ++ LC G xt u.2.2.2.1 u.2.2.2.2.1 ++ HB G hh hk u.2.2.2.2.2.1 u.2.2.2.2.2.2.1 u.2.2.2.2.2.2.2.1 u.2.2.2.2.2.2.2.2)) 0 0 (va_A (SC h xn xb xe xt xz hh ht hs sn se ++ LC G xn nv nq ++ LC G xb bv bq ++ LC G xt yv yq ++ HB G hh hk hn xs vs qs) sz) := by
  refine Met.walk (cc := cX6_start) (maxL := 3) (ret := (some .int)) (Qc := fun A => PI G A (fun r (u : (Nat → Int32) × (Nat → Int32) × (Nat → Int32) × (Nat → Int32) × (Nat → Int32) × Nat × (Nat → Nat → Nat) × (Nat → Nat → Int32) × (Nat → Nat → Int32)) => f_X6_start nv nq yv yq hn xs vs qs p0 p1 = (r, u)) (fun u : (Nat → Int32) × (Nat → Int32) × (Nat → Int32) × (Nat → Int32) × (Nat → Int32) × Nat × (Nat → Nat → Nat) × (Nat → Nat → Int32) × (Nat → Nat → Int32) => SC h xn xb xe xt xz hh ht hs sn se ++ LC G xn u.1 nq ++ LC G xb u.2.1 u.2.2.1 ++ LC G xt u.2.2.2.1 u.2.2.2.2.1 ++ HB G hh hk u.2.2.2.2.2.1 u.2.2.2.2.2.2.1 u.2.2.2.2.2.2.2.1 u.2.2.2.2.2.2.2.2)) (by decide) rfl (Nat.le_of_ble_eq_true rfl) ?_
  intro p e s m below meth c A H C0 _ hK hsz hP hD hA hS ls hl
  have hx := C0.1
  have hb := C0.2.1
  have hown : s.vm.findClass RX6 = some m.cls := C0.2.2.2.2.1
  have hml := C0.2.2.2.1
  have hts : ∀ w ∈ wsX6_start, w.before [.ref h, .int p0, .int p1].toArray s = true := C0.2.2.2.2.2.1
  have hl : lv_has ls 3 [(0, .ref h), (1, .int p0), (2, .int p1)] := hl
  refine lv_aload_n hx hb dX6_start_0 rfl (lv_at hl 0 rfl) ?_
  refine va_get (D := G.1) (ci := 6) (v := .ref (xb 0)) (C := RX6) (T := TX6) (N := 10) hx hb hts in_X6_start_RX6 hown hK.1 hP 0 rfl rfl 1 (by decide) (hts _ k_X6_start_f16) (fun _ h9 => h9) rfl dX6_start_1 ?_
  refine lv_aload_n hx hb dX6_start_4 rfl (lv_at hl 0 rfl) ?_
  refine va_get (D := G.1) (ci := 6) (v := .ref (xn 0)) (C := RX6) (T := TX6) (N := 10) hx hb hts in_X6_start_RX6 hown hK.1 hP 0 rfl rfl 0 (by decide) (hts _ k_X6_start_f10) (fun _ h9 => h9) rfl dX6_start_5 ?_
  have hW : BW G A [SC h xn xb xe xt xz hh ht hs sn se, LC G xn nv nq, LC G xb bv bq, LC G xt yv yq, HB G hh hk hn xs vs qs] H := BW.of hP hD
  refine gcallB_V (bc := [LC G xb bv bq, LC G xn nv nq]) (runB_V (As := [.ref (xn 0)]) (rest := []) (bc := [LC G xb bv bq, LC G xn nv nq]) C0 hK hW (c_X2_copyFrom l G xb xn bv bq nv nq H.size ) (cwV 1 hts gX6_start_X2_copyFrom rfl rfl rfl cd_X2_copyFrom ⟨Nat.le_of_ble_eq_true rfl, Nat.le_of_ble_eq_true rfl⟩) [2, 1] rfl rfl rfl 2 0 rfl (ci := 2) rfl rfl rfl rfl hl.1 rfl (Nat.le_of_ble_eq_true rfl) dX6_start_8 ⟨Nat.le_of_ble_eq_true rfl, Nat.le_of_ble_eq_true rfl⟩) hW hS hA [2, 1] rfl rfl rfl (fun u => [LC G xb u.1 u.2, LC G xn nv nq]) (fun _ => rfl) (fun _ => rfl) (fun u_1 H locs hw_1 hW hS => ?_)
  obtain ⟨hP, hD⟩ := hW.flat
  obtain ⟨v_c1, q_c1⟩ := u_1
  simp only [f_X2_copyFrom, Prod.mk.injEq] at hw_1
  obtain ⟨rfl, rfl⟩ := hw_1
  have hP : va_P G.1 vwCl (SC h xn xb xe xt xz hh ht hs sn se ++ LC G xn nv nq ++ LC G xb nv nq ++ LC G xt yv yq ++ HB G hh hk hn xs vs qs) H := hP
  have hD : va_D A (SC h xn xb xe xt xz hh ht hs sn se ++ LC G xn nv nq ++ LC G xb nv nq ++ LC G xt yv yq ++ HB G hh hk hn xs vs qs) := hD
  refine lv_aload_n hx hb dX6_start_11 rfl (lv_at hl 0 rfl) ?_
  refine lv_aload_n hx hb dX6_start_12 rfl (lv_at hl 0 rfl) ?_
  refine va_get (D := G.1) (ci := 6) (v := .ref (xn 0)) (C := RX6) (T := TX6) (N := 10) hx hb hts in_X6_start_RX6 hown hK.1 hP 0 rfl rfl 0 (by decide) (hts _ k_X6_start_f10) (fun _ h9 => h9) rfl dX6_start_13 ?_
  refine lv_iload_n hx hb dX6_start_16 rfl (lv_at hl 1 rfl) ?_
  refine lv_iload_n hx hb dX6_start_17 rfl (lv_at hl 2 rfl) ?_
  refine lv_aload_n hx hb dX6_start_18 rfl (lv_at hl 0 rfl) ?_
  refine va_get (D := G.1) (ci := 6) (v := .ref (xt 0)) (C := RX6) (T := TX6) (N := 10) hx hb hts in_X6_start_RX6 hown hK.1 hP 0 rfl rfl 3 (by decide) (hts _ k_X6_start_f22) (fun _ h9 => h9) rfl dX6_start_19 ?_
  have hW : BW G A [SC h xn xb xe xt xz hh ht hs sn se, LC G xn nv nq, LC G xb nv nq, LC G xt yv yq, HB G hh hk hn xs vs qs] H := BW.of hP hD
  refine gcallB_I (bc := [LC G xn nv nq, LC G xt yv yq]) (runB_V (As := [.int p0, .int p1, .ref (xt 0)]) (rest := [.ref h]) (bc := [LC G xn nv nq, LC G xt yv yq]) C0 hK hW (c_X2_startLoad l G xn xt nv nq yv yq H.size p0 p1) (cwV 3 hts gX6_start_X2_startLoad rfl rfl rfl cd_X2_startLoad ⟨Nat.le_of_ble_eq_true rfl, Nat.le_of_ble_eq_true rfl⟩) [1, 3] rfl rfl rfl 1 0 rfl (ci := 2) rfl rfl rfl rfl hl.1 rfl (Nat.le_of_ble_eq_true rfl) dX6_start_22 ⟨Nat.le_of_ble_eq_true rfl, Nat.le_of_ble_eq_true rfl⟩) hW hS hA [1, 3] rfl rfl rfl (fun u => [LC G xn u.1 nq, LC G xt u.2.1 u.2.2]) (fun _ => rfl) (fun _ => rfl) (fun r_2 u_2 H locs hw_2 hW hS => ?_)
  obtain ⟨hP, hD⟩ := hW.flat
  obtain ⟨v_c2, ov_c2, oq_c2⟩ := u_2
  have hP : va_P G.1 vwCl (SC h xn xb xe xt xz hh ht hs sn se ++ LC G xn v_c2 nq ++ LC G xb nv nq ++ LC G xt ov_c2 oq_c2 ++ HB G hh hk hn xs vs qs) H := hP
  have hD : va_D A (SC h xn xb xe xt xz hh ht hs sn se ++ LC G xn v_c2 nq ++ LC G xb nv nq ++ LC G xt ov_c2 oq_c2 ++ HB G hh hk hn xs vs qs) := hD
  have hW : BW G A [SC h xn xb xe xt xz hh ht hs sn se, LC G xn v_c2 nq, LC G xb nv nq, LC G xt ov_c2 oq_c2, HB G hh hk hn xs vs qs] H := BW.of hP hD
  refine gcallB_I (bc := [SC h xn xb xe xt xz hh ht hs sn se, LC G xb nv nq, HB G hh hk hn xs vs qs]) (runB_V (As := [.int r_2]) (rest := []) (bc := [SC h xn xb xe xt xz hh ht hs sn se, LC G xb nv nq, HB G hh hk hn xs vs qs]) C0 hK hW (c_X6_recorded l G h xn xb xe xt xz hh ht hk hs sn se nv nq hn xs vs qs H.size r_2 hn4) (cwV 1 hts gX6_start_X6_recorded rfl rfl rfl cd_X6_recorded ⟨Nat.le_of_ble_eq_true rfl, Nat.le_of_ble_eq_true rfl⟩) [0, 2, 4] rfl rfl rfl 0 0 rfl (ci := 6) rfl rfl rfl rfl hl.1 rfl (Nat.le_of_ble_eq_true rfl) dX6_start_25 ⟨Nat.le_of_ble_eq_true rfl, Nat.le_of_ble_eq_true rfl⟩) hW hS hA [0, 2, 4] rfl rfl rfl (fun u => [SC h xn xb xe xt xz hh ht hs sn se, LC G xb nv nq, HB G hh hk u.1 u.2.1 u.2.2.1 u.2.2.2]) (fun _ => rfl) (fun _ => rfl) (fun r_3 u_3 H locs hw_3 hW hS => ?_)
  obtain ⟨hP, hD⟩ := hW.flat
  obtain ⟨hn_c3, xs_c3, vs_c3, qs_c3⟩ := u_3
  have hP : va_P G.1 vwCl (SC h xn xb xe xt xz hh ht hs sn se ++ LC G xn v_c2 nq ++ LC G xb nv nq ++ LC G xt ov_c2 oq_c2 ++ HB G hh hk hn_c3 xs_c3 vs_c3 qs_c3) H := hP
  have hD : va_D A (SC h xn xb xe xt xz hh ht hs sn se ++ LC G xn v_c2 nq ++ LC G xb nv nq ++ LC G xt ov_c2 oq_c2 ++ HB G hh hk hn_c3 xs_c3 vs_c3 qs_c3) := hD
  exact end_I C0 hP hD hS (v_c2, nv, nq, ov_c2, oq_c2, hn_c3, xs_c3, vs_c3, qs_c3) (by simp only [f_X6_start, hw_2, hw_3]) rfl dX6_start_28

def f_X6_run (nv : (Nat → Int32)) (nq : (Nat → Int32)) (yv : (Nat → Int32)) (yq : (Nat → Int32)) (hn : Nat) (xs : (Nat → Nat → Nat)) (vs : (Nat → Nat → Int32)) (qs : (Nat → Nat → Int32)) (p0 : Int32) : Int32 × (Nat → Int32) × (Nat → Int32) × (Nat → Int32) × (Nat → Int32) × (Nat → Int32) × (Nat → Int32) × Nat × (Nat → Nat → Nat) × (Nat → Nat → Int32) × (Nat → Nat → Int32) :=
  match f_X2_letPass nv nq yv yq p0 with
  | (r_2, v_c2, q_c2, ov_c2, oq_c2) =>
    match f_X6_recorded nv nq hn xs vs qs r_2 with
    | (r_3, hn_c3, xs_c3, vs_c3, qs_c3) =>
      (r_3, v_c2, q_c2, nv, nq, ov_c2, oq_c2, hn_c3, xs_c3, vs_c3, qs_c3)
set_option maxRecDepth 20000 in
theorem k_X6_run_f10 : Cond.fieldLink RX6 10 "SteamRations" "now" "LSteamRations$Laundry;" ∈ wsX6_run := by decide +kernel
set_option maxRecDepth 20000 in
theorem k_X6_run_f16 : Cond.fieldLink RX6 16 "SteamRations" "before" "LSteamRations$Laundry;" ∈ wsX6_run := by decide +kernel
set_option maxRecDepth 20000 in
theorem k_X6_run_f22 : Cond.fieldLink RX6 22 "SteamRations" "trial" "LSteamRations$Laundry;" ∈ wsX6_run := by decide +kernel
set_option maxRecDepth 20000 in
theorem in_X6_run_RX6 : ∀ w ∈ u_ws RX6 TX6 10, w ∈ wsX6_run := by decide +kernel
theorem cd_X6_run : yX6_run.cls = RX6 ∧ yX6_run.cls ≠ "java/lang/invoke/MethodHandle" ∧ yX6_run.cls ≠ "java/lang/invoke/VarHandle" ∧ (parseMethodDescriptor yX6_run.desc).map (fun d => d.parameters.length) = some 1 := by decide +kernel
set_option maxHeartbeats 4000000 in
set_option maxRecDepth 100000 in
theorem c_X6_run (l : Launch) (G : GG) (h : Nat) (xn : Nat → Nat) (xb : Nat → Nat) (xe : Nat → Nat) (xt : Nat → Nat) (xz : Nat → Nat) (hh : Nat) (ht : Nat) (hk : Nat) (hs : Int32) (sn : Int32) (se : Int32) (nv : (Nat → Int32)) (nq : (Nat → Int32)) (bv : (Nat → Int32)) (bq : (Nat → Int32)) (yv : (Nat → Int32)) (yq : (Nat → Int32)) (hn : Nat) (xs : (Nat → Nat → Nat)) (vs : (Nat → Nat → Int32)) (qs : (Nat → Nat → Int32)) (sz : Nat) (p0 : Int32) (hn4 : hn ≤ 4) : Met l yX6_run wsX6_run ({ frames := 6, cells := 0, slots := 0, locals := 159 }) (Pre G [.ref h, .int p0] (SC h xn xb xe xt xz hh ht hs sn se ++ LC G xn nv nq ++ LC G xb bv bq ++ LC G xt yv yq ++ HB G hh hk hn xs vs qs) sz) (PI G (va_A (SC h xn xb xe xt xz hh ht hs sn se ++ LC G xn nv nq ++ LC G xb bv bq ++ LC G xt yv yq ++ HB G hh hk hn xs vs qs) sz) (fun r (u : (Nat → Int32) × (Nat → Int32) × (Nat → Int32) × (Nat → Int32) × (Nat → Int32) × (Nat → Int32) × Nat × (Nat → Nat → Nat) × (Nat → Nat → Int32) × (Nat → Nat → Int32)) => f_X6_run nv nq yv yq hn xs vs qs p0 = (r, u)) (fun u : (Nat → Int32) × (Nat → Int32) × (Nat → Int32) × (Nat → Int32) × (Nat → Int32) × (Nat → Int32) × Nat × (Nat → Nat → Nat) × (Nat → Nat → Int32) × (Nat → Nat → Int32) => SC h xn xb xe xt xz hh ht hs sn se ++ LC G xn u.1 u.2.1 ++ LC G xb u.2.2.1 u.2.2.2.1 ++ LC G xt u.2.2.2.2.1 u.2.2.2.2.2.1 ++ HB G hh hk u.2.2.2.2.2.2.1 u.2.2.2.2.2.2.2.1 u.2.2.2.2.2.2.2.2.1 u.2.2.2.2.2.2.2.2.2)) 0 0 (va_A (SC h xn xb xe xt xz hh ht hs sn se ++ LC G xn nv nq ++ LC G xb bv bq ++ LC G xt yv yq ++ HB G hh hk hn xs vs qs) sz) := by
  refine Met.walk (cc := cX6_run) (maxL := 2) (ret := (some .int)) (Qc := fun A => PI G A (fun r (u : (Nat → Int32) × (Nat → Int32) × (Nat → Int32) × (Nat → Int32) × (Nat → Int32) × (Nat → Int32) × Nat × (Nat → Nat → Nat) × (Nat → Nat → Int32) × (Nat → Nat → Int32)) => f_X6_run nv nq yv yq hn xs vs qs p0 = (r, u)) (fun u : (Nat → Int32) × (Nat → Int32) × (Nat → Int32) × (Nat → Int32) × (Nat → Int32) × (Nat → Int32) × Nat × (Nat → Nat → Nat) × (Nat → Nat → Int32) × (Nat → Nat → Int32) => SC h xn xb xe xt xz hh ht hs sn se ++ LC G xn u.1 u.2.1 ++ LC G xb u.2.2.1 u.2.2.2.1 ++ LC G xt u.2.2.2.2.1 u.2.2.2.2.2.1 ++ HB G hh hk u.2.2.2.2.2.2.1 u.2.2.2.2.2.2.2.1 u.2.2.2.2.2.2.2.2.1 u.2.2.2.2.2.2.2.2.2)) (by decide) rfl (Nat.le_of_ble_eq_true rfl) ?_
  intro p e s m below meth c A H C0 _ hK hsz hP hD hA hS ls hl
  have hx := C0.1
  have hb := C0.2.1
  have hown : s.vm.findClass RX6 = some m.cls := C0.2.2.2.2.1
  have hml := C0.2.2.2.1
  have hts : ∀ w ∈ wsX6_run, w.before [.ref h, .int p0].toArray s = true := C0.2.2.2.2.2.1
  have hl : lv_has ls 2 [(0, .ref h), (1, .int p0)] := hl
  refine lv_aload_n hx hb dX6_run_0 rfl (lv_at hl 0 rfl) ?_
  refine va_get (D := G.1) (ci := 6) (v := .ref (xb 0)) (C := RX6) (T := TX6) (N := 10) hx hb hts in_X6_run_RX6 hown hK.1 hP 0 rfl rfl 1 (by decide) (hts _ k_X6_run_f16) (fun _ h9 => h9) rfl dX6_run_1 ?_
  refine lv_aload_n hx hb dX6_run_4 rfl (lv_at hl 0 rfl) ?_
  refine va_get (D := G.1) (ci := 6) (v := .ref (xn 0)) (C := RX6) (T := TX6) (N := 10) hx hb hts in_X6_run_RX6 hown hK.1 hP 0 rfl rfl 0 (by decide) (hts _ k_X6_run_f10) (fun _ h9 => h9) rfl dX6_run_5 ?_
  have hW : BW G A [SC h xn xb xe xt xz hh ht hs sn se, LC G xn nv nq, LC G xb bv bq, LC G xt yv yq, HB G hh hk hn xs vs qs] H := BW.of hP hD
  refine gcallB_V (bc := [LC G xb bv bq, LC G xn nv nq]) (runB_V (As := [.ref (xn 0)]) (rest := []) (bc := [LC G xb bv bq, LC G xn nv nq]) C0 hK hW (c_X2_copyFrom l G xb xn bv bq nv nq H.size ) (cwV 1 hts gX6_run_X2_copyFrom rfl rfl rfl cd_X2_copyFrom ⟨Nat.le_of_ble_eq_true rfl, Nat.le_of_ble_eq_true rfl⟩) [2, 1] rfl rfl rfl 2 0 rfl (ci := 2) rfl rfl rfl rfl hl.1 rfl (Nat.le_of_ble_eq_true rfl) dX6_run_8 ⟨Nat.le_of_ble_eq_true rfl, Nat.le_of_ble_eq_true rfl⟩) hW hS hA [2, 1] rfl rfl rfl (fun u => [LC G xb u.1 u.2, LC G xn nv nq]) (fun _ => rfl) (fun _ => rfl) (fun u_1 H locs hw_1 hW hS => ?_)
  obtain ⟨hP, hD⟩ := hW.flat
  obtain ⟨v_c1, q_c1⟩ := u_1
  simp only [f_X2_copyFrom, Prod.mk.injEq] at hw_1
  obtain ⟨rfl, rfl⟩ := hw_1
  have hP : va_P G.1 vwCl (SC h xn xb xe xt xz hh ht hs sn se ++ LC G xn nv nq ++ LC G xb nv nq ++ LC G xt yv yq ++ HB G hh hk hn xs vs qs) H := hP
  have hD : va_D A (SC h xn xb xe xt xz hh ht hs sn se ++ LC G xn nv nq ++ LC G xb nv nq ++ LC G xt yv yq ++ HB G hh hk hn xs vs qs) := hD
  refine lv_aload_n hx hb dX6_run_11 rfl (lv_at hl 0 rfl) ?_
  refine lv_aload_n hx hb dX6_run_12 rfl (lv_at hl 0 rfl) ?_
  refine va_get (D := G.1) (ci := 6) (v := .ref (xn 0)) (C := RX6) (T := TX6) (N := 10) hx hb hts in_X6_run_RX6 hown hK.1 hP 0 rfl rfl 0 (by decide) (hts _ k_X6_run_f10) (fun _ h9 => h9) rfl dX6_run_13 ?_
  refine lv_iload_n hx hb dX6_run_16 rfl (lv_at hl 1 rfl) ?_
  refine lv_aload_n hx hb dX6_run_17 rfl (lv_at hl 0 rfl) ?_
  refine va_get (D := G.1) (ci := 6) (v := .ref (xt 0)) (C := RX6) (T := TX6) (N := 10) hx hb hts in_X6_run_RX6 hown hK.1 hP 0 rfl rfl 3 (by decide) (hts _ k_X6_run_f22) (fun _ h9 => h9) rfl dX6_run_18 ?_
  have hW : BW G A [SC h xn xb xe xt xz hh ht hs sn se, LC G xn nv nq, LC G xb nv nq, LC G xt yv yq, HB G hh hk hn xs vs qs] H := BW.of hP hD
  refine gcallB_I (bc := [LC G xn nv nq, LC G xt yv yq]) (runB_V (As := [.int p0, .ref (xt 0)]) (rest := [.ref h]) (bc := [LC G xn nv nq, LC G xt yv yq]) C0 hK hW (c_X2_letPass l G xn xt nv nq yv yq H.size p0) (cwV 2 hts gX6_run_X2_letPass rfl rfl rfl cd_X2_letPass ⟨Nat.le_of_ble_eq_true rfl, Nat.le_of_ble_eq_true rfl⟩) [1, 3] rfl rfl rfl 1 0 rfl (ci := 2) rfl rfl rfl rfl hl.1 rfl (Nat.le_of_ble_eq_true rfl) dX6_run_21 ⟨Nat.le_of_ble_eq_true rfl, Nat.le_of_ble_eq_true rfl⟩) hW hS hA [1, 3] rfl rfl rfl (fun u => [LC G xn u.1 u.2.1, LC G xt u.2.2.1 u.2.2.2]) (fun _ => rfl) (fun _ => rfl) (fun r_2 u_2 H locs hw_2 hW hS => ?_)
  obtain ⟨hP, hD⟩ := hW.flat
  obtain ⟨v_c2, q_c2, ov_c2, oq_c2⟩ := u_2
  have hP : va_P G.1 vwCl (SC h xn xb xe xt xz hh ht hs sn se ++ LC G xn v_c2 q_c2 ++ LC G xb nv nq ++ LC G xt ov_c2 oq_c2 ++ HB G hh hk hn xs vs qs) H := hP
  have hD : va_D A (SC h xn xb xe xt xz hh ht hs sn se ++ LC G xn v_c2 q_c2 ++ LC G xb nv nq ++ LC G xt ov_c2 oq_c2 ++ HB G hh hk hn xs vs qs) := hD
  have hW : BW G A [SC h xn xb xe xt xz hh ht hs sn se, LC G xn v_c2 q_c2, LC G xb nv nq, LC G xt ov_c2 oq_c2, HB G hh hk hn xs vs qs] H := BW.of hP hD
  refine gcallB_I (bc := [SC h xn xb xe xt xz hh ht hs sn se, LC G xb nv nq, HB G hh hk hn xs vs qs]) (runB_V (As := [.int r_2]) (rest := []) (bc := [SC h xn xb xe xt xz hh ht hs sn se, LC G xb nv nq, HB G hh hk hn xs vs qs]) C0 hK hW (c_X6_recorded l G h xn xb xe xt xz hh ht hk hs sn se nv nq hn xs vs qs H.size r_2 hn4) (cwV 1 hts gX6_run_X6_recorded rfl rfl rfl cd_X6_recorded ⟨Nat.le_of_ble_eq_true rfl, Nat.le_of_ble_eq_true rfl⟩) [0, 2, 4] rfl rfl rfl 0 0 rfl (ci := 6) rfl rfl rfl rfl hl.1 rfl (Nat.le_of_ble_eq_true rfl) dX6_run_24 ⟨Nat.le_of_ble_eq_true rfl, Nat.le_of_ble_eq_true rfl⟩) hW hS hA [0, 2, 4] rfl rfl rfl (fun u => [SC h xn xb xe xt xz hh ht hs sn se, LC G xb nv nq, HB G hh hk u.1 u.2.1 u.2.2.1 u.2.2.2]) (fun _ => rfl) (fun _ => rfl) (fun r_3 u_3 H locs hw_3 hW hS => ?_)
  obtain ⟨hP, hD⟩ := hW.flat
  obtain ⟨hn_c3, xs_c3, vs_c3, qs_c3⟩ := u_3
  have hP : va_P G.1 vwCl (SC h xn xb xe xt xz hh ht hs sn se ++ LC G xn v_c2 q_c2 ++ LC G xb nv nq ++ LC G xt ov_c2 oq_c2 ++ HB G hh hk hn_c3 xs_c3 vs_c3 qs_c3) H := hP
  have hD : va_D A (SC h xn xb xe xt xz hh ht hs sn se ++ LC G xn v_c2 q_c2 ++ LC G xb nv nq ++ LC G xt ov_c2 oq_c2 ++ HB G hh hk hn_c3 xs_c3 vs_c3 qs_c3) := hD
  exact end_I C0 hP hD hS (v_c2, q_c2, nv, nq, ov_c2, oq_c2, hn_c3, xs_c3, vs_c3, qs_c3) (by simp only [f_X6_run, hw_2, hw_3]) rfl dX6_run_27

def f_X6_obeyNextOrder (nv : (Nat → Int32)) (nq : (Nat → Int32)) (yv : (Nat → Int32)) (yq : (Nat → Int32)) (tp : Int32) (tl : Int32) (tg : Int32) (tv : Int32) (T : (Nat → Int32)) : Int32 × (Nat → Int32) × (Nat → Int32) × (Nat → Int32) × (Nat → Int32) × Int32 × Int32 × Int32 × Int32 :=
  match f_X4_readNextOrder tp tl tg tv T with
  | (tp_c1, tr_c1, tg_c1, tv_c1) =>
    if tr_c1 = nI 102 then
      match f_X2_changeFire nv tg_c1 tv_c1 with
      | (r_3, v_c3) =>
        (r_3, v_c3, nq, yv, yq, tp_c1, tr_c1, tg_c1, tv_c1)
    else
      if tr_c1 = nI 108 then
        match f_X2_addToLine nv nq tv_c1 with
        | (r_5, v_c5, q_c5) =>
          (r_5, v_c5, q_c5, yv, yq, tp_c1, tr_c1, tg_c1, tv_c1)
      else
        if tr_c1 = nI 109 then
          match f_X2_startLoad nv nq yv yq tg_c1 tv_c1 with
          | (r_7, v_c7, ov_c7, oq_c7) =>
            (r_7, v_c7, nq, ov_c7, oq_c7, tp_c1, tr_c1, tg_c1, tv_c1)
        else
          if tr_c1 = nI 119 then
            match f_X2_letWaterIn nv tg_c1 tv_c1 with
            | (r_9, v_c9) =>
              (r_9, v_c9, nq, yv, yq, tp_c1, tr_c1, tg_c1, tv_c1)
          else
            match f_X2_letPass nv nq yv yq tv_c1 with
            | (r_10, v_c10, q_c10, ov_c10, oq_c10) =>
              (r_10, v_c10, q_c10, ov_c10, oq_c10, tp_c1, tr_c1, tg_c1, tv_c1)
set_option maxRecDepth 20000 in
theorem k_X6_obeyNextOrder_f10 : Cond.fieldLink RX6 10 "SteamRations" "now" "LSteamRations$Laundry;" ∈ wsX6_obeyNextOrder := by decide +kernel
set_option maxRecDepth 20000 in
theorem k_X6_obeyNextOrder_f202 : Cond.fieldLink RX6 202 "SteamRations$OrderText" "letter" "I" ∈ wsX6_obeyNextOrder := by decide +kernel
set_option maxRecDepth 20000 in
theorem k_X6_obeyNextOrder_f205 : Cond.fieldLink RX6 205 "SteamRations$OrderText" "target" "I" ∈ wsX6_obeyNextOrder := by decide +kernel
set_option maxRecDepth 20000 in
theorem k_X6_obeyNextOrder_f208 : Cond.fieldLink RX6 208 "SteamRations$OrderText" "value" "I" ∈ wsX6_obeyNextOrder := by decide +kernel
set_option maxRecDepth 20000 in
theorem k_X6_obeyNextOrder_f22 : Cond.fieldLink RX6 22 "SteamRations" "trial" "LSteamRations$Laundry;" ∈ wsX6_obeyNextOrder := by decide +kernel
set_option maxRecDepth 20000 in
theorem k_X6_obeyNextOrder_f38 : Cond.fieldLink RX6 38 "SteamRations" "text" "LSteamRations$OrderText;" ∈ wsX6_obeyNextOrder := by decide +kernel
set_option maxRecDepth 20000 in
theorem in_X6_obeyNextOrder_RX4 : ∀ w ∈ u_ws RX4 TX4 6, w ∈ wsX6_obeyNextOrder := by decide +kernel
set_option maxRecDepth 20000 in
theorem in_X6_obeyNextOrder_RX6 : ∀ w ∈ u_ws RX6 TX6 10, w ∈ wsX6_obeyNextOrder := by decide +kernel
theorem cd_X6_obeyNextOrder : yX6_obeyNextOrder.cls = RX6 ∧ yX6_obeyNextOrder.cls ≠ "java/lang/invoke/MethodHandle" ∧ yX6_obeyNextOrder.cls ≠ "java/lang/invoke/VarHandle" ∧ (parseMethodDescriptor yX6_obeyNextOrder.desc).map (fun d => d.parameters.length) = some 0 := by decide +kernel
set_option maxHeartbeats 4000000 in
set_option maxRecDepth 100000 in
theorem c_X6_obeyNextOrder (l : Launch) (G : GG) (h : Nat) (xn : Nat → Nat) (xb : Nat → Nat) (xe : Nat → Nat) (xt : Nat → Nat) (xz : Nat → Nat) (hh : Nat) (ht : Nat) (tk : Nat) (hs : Int32) (sn : Int32) (se : Int32) (nv : (Nat → Int32)) (nq : (Nat → Int32)) (yv : (Nat → Int32)) (yq : (Nat → Int32)) (tp : Int32) (tl : Int32) (tr : Int32) (tg : Int32) (tv : Int32) (T : (Nat → Int32)) (sz : Nat)   : Met l yX6_obeyNextOrder wsX6_obeyNextOrder ({ frames := 6, cells := 0, slots := 0, locals := 159 }) (Pre G [.ref h] (SC h xn xb xe xt xz hh ht hs sn se ++ LC G xn nv nq ++ LC G xt yv yq ++ OT G ht tk tp tl tr tg tv T) sz) (PI G (va_A (SC h xn xb xe xt xz hh ht hs sn se ++ LC G xn nv nq ++ LC G xt yv yq ++ OT G ht tk tp tl tr tg tv T) sz) (fun r (u : (Nat → Int32) × (Nat → Int32) × (Nat → Int32) × (Nat → Int32) × Int32 × Int32 × Int32 × Int32) => f_X6_obeyNextOrder nv nq yv yq tp tl tg tv T = (r, u)) (fun u : (Nat → Int32) × (Nat → Int32) × (Nat → Int32) × (Nat → Int32) × Int32 × Int32 × Int32 × Int32 => SC h xn xb xe xt xz hh ht hs sn se ++ LC G xn u.1 u.2.1 ++ LC G xt u.2.2.1 u.2.2.2.1 ++ OT G ht tk u.2.2.2.2.1 tl u.2.2.2.2.2.1 u.2.2.2.2.2.2.1 u.2.2.2.2.2.2.2 T)) 0 0 (va_A (SC h xn xb xe xt xz hh ht hs sn se ++ LC G xn nv nq ++ LC G xt yv yq ++ OT G ht tk tp tl tr tg tv T) sz) := by
  refine Met.walk (cc := cX6_obeyNextOrder) (maxL := 1) (ret := (some .int)) (Qc := fun A => PI G A (fun r (u : (Nat → Int32) × (Nat → Int32) × (Nat → Int32) × (Nat → Int32) × Int32 × Int32 × Int32 × Int32) => f_X6_obeyNextOrder nv nq yv yq tp tl tg tv T = (r, u)) (fun u : (Nat → Int32) × (Nat → Int32) × (Nat → Int32) × (Nat → Int32) × Int32 × Int32 × Int32 × Int32 => SC h xn xb xe xt xz hh ht hs sn se ++ LC G xn u.1 u.2.1 ++ LC G xt u.2.2.1 u.2.2.2.1 ++ OT G ht tk u.2.2.2.2.1 tl u.2.2.2.2.2.1 u.2.2.2.2.2.2.1 u.2.2.2.2.2.2.2 T)) (by decide) rfl (Nat.le_of_ble_eq_true rfl) ?_
  intro p e s m below meth c A H C0 _ hK hsz hP hD hA hS ls hl
  have hx := C0.1
  have hb := C0.2.1
  have hown : s.vm.findClass RX6 = some m.cls := C0.2.2.2.2.1
  have hml := C0.2.2.2.1
  have hts : ∀ w ∈ wsX6_obeyNextOrder, w.before [.ref h].toArray s = true := C0.2.2.2.2.2.1
  have hl : lv_has ls 1 [(0, .ref h)] := hl
  refine lv_aload_n hx hb dX6_obeyNextOrder_0 rfl (lv_at hl 0 rfl) ?_
  refine va_get (D := G.1) (ci := 6) (v := .ref ht) (C := RX6) (T := TX6) (N := 10) hx hb hts in_X6_obeyNextOrder_RX6 hown hK.1 hP 0 rfl rfl 6 (by decide) (hts _ k_X6_obeyNextOrder_f38) (fun _ h9 => h9) rfl dX6_obeyNextOrder_1 ?_
  refine gcall_V (run_V (As := []) (rest := []) C0 hK hP hD (c_X4_readNextOrder l G ht tk tp tl tr tg tv T H.size ) (cwV 0 hts gX6_obeyNextOrder_X4_readNextOrder rfl rfl rfl cd_X4_readNextOrder ⟨Nat.le_of_ble_eq_true rfl, Nat.le_of_ble_eq_true rfl⟩) [23, 24] rfl rfl 23 (ci := 4) rfl rfl rfl rfl hl.1 rfl (Nat.le_of_ble_eq_true rfl) dX6_obeyNextOrder_4 ⟨Nat.le_of_ble_eq_true rfl, Nat.le_of_ble_eq_true rfl⟩) hP hD hS hA [23, 24] rfl rfl (fun _ => rfl) (fun u_1 H locs hw_1 hP hD hS => ?_)
  obtain ⟨tp_c1, tr_c1, tg_c1, tv_c1⟩ := u_1
  have hP : va_P G.1 vwCl (SC h xn xb xe xt xz hh ht hs sn se ++ LC G xn nv nq ++ LC G xt yv yq ++ OT G ht tk tp_c1 tl tr_c1 tg_c1 tv_c1 T) H := hP
  have hD : va_D A (SC h xn xb xe xt xz hh ht hs sn se ++ LC G xn nv nq ++ LC G xt yv yq ++ OT G ht tk tp_c1 tl tr_c1 tg_c1 tv_c1 T) := hD
  refine lv_aload_n hx hb dX6_obeyNextOrder_7 rfl (lv_at hl 0 rfl) ?_
  refine va_get (D := G.1) (ci := 6) (v := .ref ht) (C := RX6) (T := TX6) (N := 10) hx hb hts in_X6_obeyNextOrder_RX6 hown hK.1 hP 0 rfl rfl 6 (by decide) (hts _ k_X6_obeyNextOrder_f38) (fun _ h9 => h9) rfl dX6_obeyNextOrder_8 ?_
  refine va_get (D := G.1) (ci := 4) (v := .int tr_c1) (C := RX4) (T := TX4) (N := 6) hx hb hts in_X6_obeyNextOrder_RX4 hown hK.1 hP 23 rfl rfl 3 (by decide) (hts _ k_X6_obeyNextOrder_f202) (fun _ h9 => h9) rfl dX6_obeyNextOrder_11 ?_
  by_cases c_2 : tr_c1 = nI 102
  · refine lv_lookup (tgt := 56) hx hb dX6_obeyNextOrder_14 (by decide) (by rw [c_2]; try rfl) (by decide) ?_
    refine lv_aload_n hx hb dX6_obeyNextOrder_56 rfl (lv_at hl 0 rfl) ?_
    refine va_get (D := G.1) (ci := 6) (v := .ref (xn 0)) (C := RX6) (T := TX6) (N := 10) hx hb hts in_X6_obeyNextOrder_RX6 hown hK.1 hP 0 rfl rfl 0 (by decide) (hts _ k_X6_obeyNextOrder_f10) (fun _ h9 => h9) rfl dX6_obeyNextOrder_57 ?_
    refine lv_aload_n hx hb dX6_obeyNextOrder_60 rfl (lv_at hl 0 rfl) ?_
    refine va_get (D := G.1) (ci := 6) (v := .ref ht) (C := RX6) (T := TX6) (N := 10) hx hb hts in_X6_obeyNextOrder_RX6 hown hK.1 hP 0 rfl rfl 6 (by decide) (hts _ k_X6_obeyNextOrder_f38) (fun _ h9 => h9) rfl dX6_obeyNextOrder_61 ?_
    refine va_get (D := G.1) (ci := 4) (v := .int tg_c1) (C := RX4) (T := TX4) (N := 6) hx hb hts in_X6_obeyNextOrder_RX4 hown hK.1 hP 23 rfl rfl 4 (by decide) (hts _ k_X6_obeyNextOrder_f205) (fun _ h9 => h9) rfl dX6_obeyNextOrder_64 ?_
    refine lv_aload_n hx hb dX6_obeyNextOrder_67 rfl (lv_at hl 0 rfl) ?_
    refine va_get (D := G.1) (ci := 6) (v := .ref ht) (C := RX6) (T := TX6) (N := 10) hx hb hts in_X6_obeyNextOrder_RX6 hown hK.1 hP 0 rfl rfl 6 (by decide) (hts _ k_X6_obeyNextOrder_f38) (fun _ h9 => h9) rfl dX6_obeyNextOrder_68 ?_
    refine va_get (D := G.1) (ci := 4) (v := .int tv_c1) (C := RX4) (T := TX4) (N := 6) hx hb hts in_X6_obeyNextOrder_RX4 hown hK.1 hP 23 rfl rfl 5 (by decide) (hts _ k_X6_obeyNextOrder_f208) (fun _ h9 => h9) rfl dX6_obeyNextOrder_71 ?_
    have hW : BW G A [SC h xn xb xe xt xz hh ht hs sn se, LC G xn nv nq, LC G xt yv yq, OT G ht tk tp_c1 tl tr_c1 tg_c1 tv_c1 T] H := BW.of hP hD
    refine gcallB_I (bc := [LC G xn nv nq]) (runB_V (As := [.int tg_c1, .int tv_c1]) (rest := []) (bc := [LC G xn nv nq]) C0 hK hW (c_X2_changeFire l G xn nv nq H.size tg_c1 tv_c1) (cwV 2 hts gX6_obeyNextOrder_X2_changeFire rfl rfl rfl cd_X2_changeFire ⟨Nat.le_of_ble_eq_true rfl, Nat.le_of_ble_eq_true rfl⟩) [1] rfl rfl rfl 1 0 rfl (ci := 2) rfl rfl rfl rfl hl.1 rfl (Nat.le_of_ble_eq_true rfl) dX6_obeyNextOrder_74 ⟨Nat.le_of_ble_eq_true rfl, Nat.le_of_ble_eq_true rfl⟩) hW hS hA [1] rfl rfl rfl (fun u => [LC G xn u nq]) (fun _ => rfl) (fun _ => rfl) (fun r_3 u_3 H locs hw_3 hW hS => ?_)
    obtain ⟨hP, hD⟩ := hW.flat
    obtain ⟨v_c3, rfl⟩ : ∃ z, z = u_3 := ⟨_, rfl⟩
    have hP : va_P G.1 vwCl (SC h xn xb xe xt xz hh ht hs sn se ++ LC G xn v_c3 nq ++ LC G xt yv yq ++ OT G ht tk tp_c1 tl tr_c1 tg_c1 tv_c1 T) H := hP
    have hD : va_D A (SC h xn xb xe xt xz hh ht hs sn se ++ LC G xn v_c3 nq ++ LC G xt yv yq ++ OT G ht tk tp_c1 tl tr_c1 tg_c1 tv_c1 T) := hD
    exact end_I C0 hP hD hS (v_c3, nq, yv, yq, tp_c1, tr_c1, tg_c1, tv_c1) (by simp only [f_X6_obeyNextOrder, hw_1, if_pos c_2, hw_3]) rfl dX6_obeyNextOrder_77
  · by_cases c_4 : tr_c1 = nI 108
    · refine lv_lookup (tgt := 126) hx hb dX6_obeyNextOrder_14 (by decide) (by rw [c_4]; try rfl) (by decide) ?_
      refine lv_aload_n hx hb dX6_obeyNextOrder_126 rfl (lv_at hl 0 rfl) ?_
      refine va_get (D := G.1) (ci := 6) (v := .ref (xn 0)) (C := RX6) (T := TX6) (N := 10) hx hb hts in_X6_obeyNextOrder_RX6 hown hK.1 hP 0 rfl rfl 0 (by decide) (hts _ k_X6_obeyNextOrder_f10) (fun _ h9 => h9) rfl dX6_obeyNextOrder_127 ?_
      refine lv_aload_n hx hb dX6_obeyNextOrder_130 rfl (lv_at hl 0 rfl) ?_
      refine va_get (D := G.1) (ci := 6) (v := .ref ht) (C := RX6) (T := TX6) (N := 10) hx hb hts in_X6_obeyNextOrder_RX6 hown hK.1 hP 0 rfl rfl 6 (by decide) (hts _ k_X6_obeyNextOrder_f38) (fun _ h9 => h9) rfl dX6_obeyNextOrder_131 ?_
      refine va_get (D := G.1) (ci := 4) (v := .int tv_c1) (C := RX4) (T := TX4) (N := 6) hx hb hts in_X6_obeyNextOrder_RX4 hown hK.1 hP 23 rfl rfl 5 (by decide) (hts _ k_X6_obeyNextOrder_f208) (fun _ h9 => h9) rfl dX6_obeyNextOrder_134 ?_
      have hW : BW G A [SC h xn xb xe xt xz hh ht hs sn se, LC G xn nv nq, LC G xt yv yq, OT G ht tk tp_c1 tl tr_c1 tg_c1 tv_c1 T] H := BW.of hP hD
      refine gcallB_I (bc := [LC G xn nv nq]) (runB_V (As := [.int tv_c1]) (rest := []) (bc := [LC G xn nv nq]) C0 hK hW (c_X2_addToLine l G xn nv nq H.size tv_c1) (cwV 1 hts gX6_obeyNextOrder_X2_addToLine rfl rfl rfl cd_X2_addToLine ⟨Nat.le_of_ble_eq_true rfl, Nat.le_of_ble_eq_true rfl⟩) [1] rfl rfl rfl 1 0 rfl (ci := 2) rfl rfl rfl rfl hl.1 rfl (Nat.le_of_ble_eq_true rfl) dX6_obeyNextOrder_137 ⟨Nat.le_of_ble_eq_true rfl, Nat.le_of_ble_eq_true rfl⟩) hW hS hA [1] rfl rfl rfl (fun u => [LC G xn u.1 u.2]) (fun _ => rfl) (fun _ => rfl) (fun r_5 u_5 H locs hw_5 hW hS => ?_)
      obtain ⟨hP, hD⟩ := hW.flat
      obtain ⟨v_c5, q_c5⟩ := u_5
      have hP : va_P G.1 vwCl (SC h xn xb xe xt xz hh ht hs sn se ++ LC G xn v_c5 q_c5 ++ LC G xt yv yq ++ OT G ht tk tp_c1 tl tr_c1 tg_c1 tv_c1 T) H := hP
      have hD : va_D A (SC h xn xb xe xt xz hh ht hs sn se ++ LC G xn v_c5 q_c5 ++ LC G xt yv yq ++ OT G ht tk tp_c1 tl tr_c1 tg_c1 tv_c1 T) := hD
      exact end_I C0 hP hD hS (v_c5, q_c5, yv, yq, tp_c1, tr_c1, tg_c1, tv_c1) (by simp only [f_X6_obeyNextOrder, hw_1, if_neg c_2, if_pos c_4, hw_5]) rfl dX6_obeyNextOrder_140
    · by_cases c_6 : tr_c1 = nI 109
      · refine lv_lookup (tgt := 100) hx hb dX6_obeyNextOrder_14 (by decide) (by rw [c_6]; try rfl) (by decide) ?_
        refine lv_aload_n hx hb dX6_obeyNextOrder_100 rfl (lv_at hl 0 rfl) ?_
        refine va_get (D := G.1) (ci := 6) (v := .ref (xn 0)) (C := RX6) (T := TX6) (N := 10) hx hb hts in_X6_obeyNextOrder_RX6 hown hK.1 hP 0 rfl rfl 0 (by decide) (hts _ k_X6_obeyNextOrder_f10) (fun _ h9 => h9) rfl dX6_obeyNextOrder_101 ?_
        refine lv_aload_n hx hb dX6_obeyNextOrder_104 rfl (lv_at hl 0 rfl) ?_
        refine va_get (D := G.1) (ci := 6) (v := .ref ht) (C := RX6) (T := TX6) (N := 10) hx hb hts in_X6_obeyNextOrder_RX6 hown hK.1 hP 0 rfl rfl 6 (by decide) (hts _ k_X6_obeyNextOrder_f38) (fun _ h9 => h9) rfl dX6_obeyNextOrder_105 ?_
        refine va_get (D := G.1) (ci := 4) (v := .int tg_c1) (C := RX4) (T := TX4) (N := 6) hx hb hts in_X6_obeyNextOrder_RX4 hown hK.1 hP 23 rfl rfl 4 (by decide) (hts _ k_X6_obeyNextOrder_f205) (fun _ h9 => h9) rfl dX6_obeyNextOrder_108 ?_
        refine lv_aload_n hx hb dX6_obeyNextOrder_111 rfl (lv_at hl 0 rfl) ?_
        refine va_get (D := G.1) (ci := 6) (v := .ref ht) (C := RX6) (T := TX6) (N := 10) hx hb hts in_X6_obeyNextOrder_RX6 hown hK.1 hP 0 rfl rfl 6 (by decide) (hts _ k_X6_obeyNextOrder_f38) (fun _ h9 => h9) rfl dX6_obeyNextOrder_112 ?_
        refine va_get (D := G.1) (ci := 4) (v := .int tv_c1) (C := RX4) (T := TX4) (N := 6) hx hb hts in_X6_obeyNextOrder_RX4 hown hK.1 hP 23 rfl rfl 5 (by decide) (hts _ k_X6_obeyNextOrder_f208) (fun _ h9 => h9) rfl dX6_obeyNextOrder_115 ?_
        refine lv_aload_n hx hb dX6_obeyNextOrder_118 rfl (lv_at hl 0 rfl) ?_
        refine va_get (D := G.1) (ci := 6) (v := .ref (xt 0)) (C := RX6) (T := TX6) (N := 10) hx hb hts in_X6_obeyNextOrder_RX6 hown hK.1 hP 0 rfl rfl 3 (by decide) (hts _ k_X6_obeyNextOrder_f22) (fun _ h9 => h9) rfl dX6_obeyNextOrder_119 ?_
        have hW : BW G A [SC h xn xb xe xt xz hh ht hs sn se, LC G xn nv nq, LC G xt yv yq, OT G ht tk tp_c1 tl tr_c1 tg_c1 tv_c1 T] H := BW.of hP hD
        refine gcallB_I (bc := [LC G xn nv nq, LC G xt yv yq]) (runB_V (As := [.int tg_c1, .int tv_c1, .ref (xt 0)]) (rest := []) (bc := [LC G xn nv nq, LC G xt yv yq]) C0 hK hW (c_X2_startLoad l G xn xt nv nq yv yq H.size tg_c1 tv_c1) (cwV 3 hts gX6_obeyNextOrder_X2_startLoad rfl rfl rfl cd_X2_startLoad ⟨Nat.le_of_ble_eq_true rfl, Nat.le_of_ble_eq_true rfl⟩) [1, 2] rfl rfl rfl 1 0 rfl (ci := 2) rfl rfl rfl rfl hl.1 rfl (Nat.le_of_ble_eq_true rfl) dX6_obeyNextOrder_122 ⟨Nat.le_of_ble_eq_true rfl, Nat.le_of_ble_eq_true rfl⟩) hW hS hA [1, 2] rfl rfl rfl (fun u => [LC G xn u.1 nq, LC G xt u.2.1 u.2.2]) (fun _ => rfl) (fun _ => rfl) (fun r_7 u_7 H locs hw_7 hW hS => ?_)
        obtain ⟨hP, hD⟩ := hW.flat
        obtain ⟨v_c7, ov_c7, oq_c7⟩ := u_7
        have hP : va_P G.1 vwCl (SC h xn xb xe xt xz hh ht hs sn se ++ LC G xn v_c7 nq ++ LC G xt ov_c7 oq_c7 ++ OT G ht tk tp_c1 tl tr_c1 tg_c1 tv_c1 T) H := hP
        have hD : va_D A (SC h xn xb xe xt xz hh ht hs sn se ++ LC G xn v_c7 nq ++ LC G xt ov_c7 oq_c7 ++ OT G ht tk tp_c1 tl tr_c1 tg_c1 tv_c1 T) := hD
        exact end_I C0 hP hD hS (v_c7, nq, ov_c7, oq_c7, tp_c1, tr_c1, tg_c1, tv_c1) (by simp only [f_X6_obeyNextOrder, hw_1, if_neg c_2, if_neg c_4, if_pos c_6, hw_7]) rfl dX6_obeyNextOrder_125
      · by_cases c_8 : tr_c1 = nI 119
        · refine lv_lookup (tgt := 78) hx hb dX6_obeyNextOrder_14 (by decide) (by rw [c_8]; try rfl) (by decide) ?_
          refine lv_aload_n hx hb dX6_obeyNextOrder_78 rfl (lv_at hl 0 rfl) ?_
          refine va_get (D := G.1) (ci := 6) (v := .ref (xn 0)) (C := RX6) (T := TX6) (N := 10) hx hb hts in_X6_obeyNextOrder_RX6 hown hK.1 hP 0 rfl rfl 0 (by decide) (hts _ k_X6_obeyNextOrder_f10) (fun _ h9 => h9) rfl dX6_obeyNextOrder_79 ?_
          refine lv_aload_n hx hb dX6_obeyNextOrder_82 rfl (lv_at hl 0 rfl) ?_
          refine va_get (D := G.1) (ci := 6) (v := .ref ht) (C := RX6) (T := TX6) (N := 10) hx hb hts in_X6_obeyNextOrder_RX6 hown hK.1 hP 0 rfl rfl 6 (by decide) (hts _ k_X6_obeyNextOrder_f38) (fun _ h9 => h9) rfl dX6_obeyNextOrder_83 ?_
          refine va_get (D := G.1) (ci := 4) (v := .int tg_c1) (C := RX4) (T := TX4) (N := 6) hx hb hts in_X6_obeyNextOrder_RX4 hown hK.1 hP 23 rfl rfl 4 (by decide) (hts _ k_X6_obeyNextOrder_f205) (fun _ h9 => h9) rfl dX6_obeyNextOrder_86 ?_
          refine lv_aload_n hx hb dX6_obeyNextOrder_89 rfl (lv_at hl 0 rfl) ?_
          refine va_get (D := G.1) (ci := 6) (v := .ref ht) (C := RX6) (T := TX6) (N := 10) hx hb hts in_X6_obeyNextOrder_RX6 hown hK.1 hP 0 rfl rfl 6 (by decide) (hts _ k_X6_obeyNextOrder_f38) (fun _ h9 => h9) rfl dX6_obeyNextOrder_90 ?_
          refine va_get (D := G.1) (ci := 4) (v := .int tv_c1) (C := RX4) (T := TX4) (N := 6) hx hb hts in_X6_obeyNextOrder_RX4 hown hK.1 hP 23 rfl rfl 5 (by decide) (hts _ k_X6_obeyNextOrder_f208) (fun _ h9 => h9) rfl dX6_obeyNextOrder_93 ?_
          have hW : BW G A [SC h xn xb xe xt xz hh ht hs sn se, LC G xn nv nq, LC G xt yv yq, OT G ht tk tp_c1 tl tr_c1 tg_c1 tv_c1 T] H := BW.of hP hD
          refine gcallB_I (bc := [LC G xn nv nq]) (runB_V (As := [.int tg_c1, .int tv_c1]) (rest := []) (bc := [LC G xn nv nq]) C0 hK hW (c_X2_letWaterIn l G xn nv nq H.size tg_c1 tv_c1) (cwV 2 hts gX6_obeyNextOrder_X2_letWaterIn rfl rfl rfl cd_X2_letWaterIn ⟨Nat.le_of_ble_eq_true rfl, Nat.le_of_ble_eq_true rfl⟩) [1] rfl rfl rfl 1 0 rfl (ci := 2) rfl rfl rfl rfl hl.1 rfl (Nat.le_of_ble_eq_true rfl) dX6_obeyNextOrder_96 ⟨Nat.le_of_ble_eq_true rfl, Nat.le_of_ble_eq_true rfl⟩) hW hS hA [1] rfl rfl rfl (fun u => [LC G xn u nq]) (fun _ => rfl) (fun _ => rfl) (fun r_9 u_9 H locs hw_9 hW hS => ?_)
          obtain ⟨hP, hD⟩ := hW.flat
          obtain ⟨v_c9, rfl⟩ : ∃ z, z = u_9 := ⟨_, rfl⟩
          have hP : va_P G.1 vwCl (SC h xn xb xe xt xz hh ht hs sn se ++ LC G xn v_c9 nq ++ LC G xt yv yq ++ OT G ht tk tp_c1 tl tr_c1 tg_c1 tv_c1 T) H := hP
          have hD : va_D A (SC h xn xb xe xt xz hh ht hs sn se ++ LC G xn v_c9 nq ++ LC G xt yv yq ++ OT G ht tk tp_c1 tl tr_c1 tg_c1 tv_c1 T) := hD
          exact end_I C0 hP hD hS (v_c9, nq, yv, yq, tp_c1, tr_c1, tg_c1, tv_c1) (by simp only [f_X6_obeyNextOrder, hw_1, if_neg c_2, if_neg c_4, if_neg c_6, if_pos c_8, hw_9]) rfl dX6_obeyNextOrder_99
        · refine lv_lookup (off := 127) (tgt := 141) hx hb dX6_obeyNextOrder_14 (by decide) ((lv_osw c_2 (show (nI 102).toInt = 102 from by decide +kernel)).trans ((lv_osw c_4 (show (nI 108).toInt = 108 from by decide +kernel)).trans ((lv_osw c_6 (show (nI 109).toInt = 109 from by decide +kernel)).trans ((lv_osw c_8 (show (nI 119).toInt = 119 from by decide +kernel)).trans rfl)))) (by decide) ?_
          refine lv_aload_n hx hb dX6_obeyNextOrder_141 rfl (lv_at hl 0 rfl) ?_
          refine va_get (D := G.1) (ci := 6) (v := .ref (xn 0)) (C := RX6) (T := TX6) (N := 10) hx hb hts in_X6_obeyNextOrder_RX6 hown hK.1 hP 0 rfl rfl 0 (by decide) (hts _ k_X6_obeyNextOrder_f10) (fun _ h9 => h9) rfl dX6_obeyNextOrder_142 ?_
          refine lv_aload_n hx hb dX6_obeyNextOrder_145 rfl (lv_at hl 0 rfl) ?_
          refine va_get (D := G.1) (ci := 6) (v := .ref ht) (C := RX6) (T := TX6) (N := 10) hx hb hts in_X6_obeyNextOrder_RX6 hown hK.1 hP 0 rfl rfl 6 (by decide) (hts _ k_X6_obeyNextOrder_f38) (fun _ h9 => h9) rfl dX6_obeyNextOrder_146 ?_
          refine va_get (D := G.1) (ci := 4) (v := .int tv_c1) (C := RX4) (T := TX4) (N := 6) hx hb hts in_X6_obeyNextOrder_RX4 hown hK.1 hP 23 rfl rfl 5 (by decide) (hts _ k_X6_obeyNextOrder_f208) (fun _ h9 => h9) rfl dX6_obeyNextOrder_149 ?_
          refine lv_aload_n hx hb dX6_obeyNextOrder_152 rfl (lv_at hl 0 rfl) ?_
          refine va_get (D := G.1) (ci := 6) (v := .ref (xt 0)) (C := RX6) (T := TX6) (N := 10) hx hb hts in_X6_obeyNextOrder_RX6 hown hK.1 hP 0 rfl rfl 3 (by decide) (hts _ k_X6_obeyNextOrder_f22) (fun _ h9 => h9) rfl dX6_obeyNextOrder_153 ?_
          have hW : BW G A [SC h xn xb xe xt xz hh ht hs sn se, LC G xn nv nq, LC G xt yv yq, OT G ht tk tp_c1 tl tr_c1 tg_c1 tv_c1 T] H := BW.of hP hD
          refine gcallB_I (bc := [LC G xn nv nq, LC G xt yv yq]) (runB_V (As := [.int tv_c1, .ref (xt 0)]) (rest := []) (bc := [LC G xn nv nq, LC G xt yv yq]) C0 hK hW (c_X2_letPass l G xn xt nv nq yv yq H.size tv_c1) (cwV 2 hts gX6_obeyNextOrder_X2_letPass rfl rfl rfl cd_X2_letPass ⟨Nat.le_of_ble_eq_true rfl, Nat.le_of_ble_eq_true rfl⟩) [1, 2] rfl rfl rfl 1 0 rfl (ci := 2) rfl rfl rfl rfl hl.1 rfl (Nat.le_of_ble_eq_true rfl) dX6_obeyNextOrder_156 ⟨Nat.le_of_ble_eq_true rfl, Nat.le_of_ble_eq_true rfl⟩) hW hS hA [1, 2] rfl rfl rfl (fun u => [LC G xn u.1 u.2.1, LC G xt u.2.2.1 u.2.2.2]) (fun _ => rfl) (fun _ => rfl) (fun r_10 u_10 H locs hw_10 hW hS => ?_)
          obtain ⟨hP, hD⟩ := hW.flat
          obtain ⟨v_c10, q_c10, ov_c10, oq_c10⟩ := u_10
          have hP : va_P G.1 vwCl (SC h xn xb xe xt xz hh ht hs sn se ++ LC G xn v_c10 q_c10 ++ LC G xt ov_c10 oq_c10 ++ OT G ht tk tp_c1 tl tr_c1 tg_c1 tv_c1 T) H := hP
          have hD : va_D A (SC h xn xb xe xt xz hh ht hs sn se ++ LC G xn v_c10 q_c10 ++ LC G xt ov_c10 oq_c10 ++ OT G ht tk tp_c1 tl tr_c1 tg_c1 tv_c1 T) := hD
          exact end_I C0 hP hD hS (v_c10, q_c10, ov_c10, oq_c10, tp_c1, tr_c1, tg_c1, tv_c1) (by simp only [f_X6_obeyNextOrder, hw_1, if_neg c_2, if_neg c_4, if_neg c_6, if_neg c_8, hw_10]) rfl dX6_obeyNextOrder_159

def s_X6_perform_34 (tl : Int32) (T : (Nat → Int32)) : Nat → Int32 → Int32 → (Nat → Int32) → (Nat → Int32) → (Nat → Int32) → (Nat → Int32) → (Nat → Int32) → (Nat → Int32) → Nat → (Nat → Nat → Nat) → (Nat → Nat → Int32) → (Nat → Nat → Int32) → Int32 → Int32 → Int32 → Int32 → Int32 → Nat → Int32 × Int32 × Int32 × (Nat → Int32) × (Nat → Int32) × (Nat → Int32) × (Nat → Int32) × (Nat → Int32) × (Nat → Int32) × Nat × (Nat → Nat → Nat) × (Nat → Nat → Int32) × (Nat → Nat → Int32) × Int32 × Int32 × Int32 × Int32
  | 0, _, _, _, _, _, _, _, _, _, _, _, _, _, _, _, _, _, _ => (0, 0, 0, fun _ => 0, fun _ => 0, fun _ => 0, fun _ => 0, fun _ => 0, fun _ => 0, 0, fun _ _ => 0, fun _ _ => 0, fun _ _ => 0, 0, 0, 0, 0)
  | n + 1, sn_34, se_34, nv_34, nq_34, bv_34, bq_34, yv_34, yq_34, hn_34, xs_34, vs_34, qs_34, tp_34, tr_34, tg_34, tv_34, k, i =>
    if k ≤ (nI i) then
      match f_X6_recorded bv_34 bq_34 hn_34 xs_34 vs_34 qs_34 k with
      | (r_6, hn_c6, xs_c6, vs_c6, qs_c6) =>
        (r_6, sn_34, se_34, nv_34, nq_34, bv_34, bq_34, yv_34, yq_34, hn_c6, xs_c6, vs_c6, qs_c6, tp_34, tr_34, tg_34, tv_34)
    else
      match f_X6_obeyNextOrder nv_34 nq_34 yv_34 yq_34 tp_34 tl tg_34 tv_34 T with
      | (r_7, nv_c7, nq_c7, yv_c7, yq_c7, tp_c7, tr_c7, tg_c7, tv_c7) =>
        if 0 ≤ r_7 then
          s_X6_perform_34 tl T n sn_34 se_34 nv_c7 nq_c7 bv_34 bq_34 yv_c7 yq_c7 hn_34 xs_34 vs_34 qs_34 tp_c7 tr_c7 tg_c7 tv_c7 k (i + 1)
        else
          if r_7 = (-5) then
            s_X6_perform_34 tl T n sn_34 se_34 nv_c7 nq_c7 bv_34 bq_34 yv_c7 yq_c7 hn_34 xs_34 vs_34 qs_34 tp_c7 tr_c7 tg_c7 tv_c7 k (i + 1)
          else
            ((-4), (nI i), r_7, bv_34, bq_34, bv_34, bq_34, yv_c7, yq_c7, hn_34, xs_34, vs_34, qs_34, tp_c7, tr_c7, tg_c7, tv_c7)
def f_X6_perform (sn : Int32) (se : Int32) (nv : (Nat → Int32)) (nq : (Nat → Int32)) (bv : (Nat → Int32)) (bq : (Nat → Int32)) (yv : (Nat → Int32)) (yq : (Nat → Int32)) (hn : Nat) (xs : (Nat → Nat → Nat)) (vs : (Nat → Nat → Int32)) (qs : (Nat → Nat → Int32)) (tl : Int32) (tr : Int32) (tg : Int32) (tv : Int32) (T : (Nat → Int32)) : Int32 × Int32 × Int32 × (Nat → Int32) × (Nat → Int32) × (Nat → Int32) × (Nat → Int32) × (Nat → Int32) × (Nat → Int32) × Nat × (Nat → Nat → Nat) × (Nat → Nat → Int32) × (Nat → Nat → Int32) × Int32 × Int32 × Int32 × Int32 :=
  match f_X4_countOrders tl tr tg tv T with
  | (r_1, tp_c1, tr_c1, tg_c1, tv_c1) =>
    if 0 ≤ r_1 then
      s_X6_perform_34 tl T (r_1.toNatClampNeg + 1) sn se nv nq nv nq yv yq hn xs vs qs (nI 0) tr_c1 tg_c1 tv_c1 r_1 0
    else
      (r_1, sn, se, nv, nq, bv, bq, yv, yq, hn, xs, vs, qs, tp_c1, tr_c1, tg_c1, tv_c1)
set_option maxRecDepth 20000 in
theorem k_X6_perform_f10 : Cond.fieldLink RX6 10 "SteamRations" "now" "LSteamRations$Laundry;" ∈ wsX6_perform := by decide +kernel
set_option maxRecDepth 20000 in
theorem k_X6_perform_f16 : Cond.fieldLink RX6 16 "SteamRations" "before" "LSteamRations$Laundry;" ∈ wsX6_perform := by decide +kernel
set_option maxRecDepth 20000 in
theorem k_X6_perform_f38 : Cond.fieldLink RX6 38 "SteamRations" "text" "LSteamRations$OrderText;" ∈ wsX6_perform := by decide +kernel
set_option maxRecDepth 20000 in
theorem k_X6_perform_f46 : Cond.fieldLink RX6 46 "SteamRations" "stopNumber" "I" ∈ wsX6_perform := by decide +kernel
set_option maxRecDepth 20000 in
theorem k_X6_perform_f50 : Cond.fieldLink RX6 50 "SteamRations" "stopError" "I" ∈ wsX6_perform := by decide +kernel
set_option maxRecDepth 20000 in
theorem in_X6_perform_RX6 : ∀ w ∈ u_ws RX6 TX6 10, w ∈ wsX6_perform := by decide +kernel
theorem cd_X6_perform : yX6_perform.cls = RX6 ∧ yX6_perform.cls ≠ "java/lang/invoke/MethodHandle" ∧ yX6_perform.cls ≠ "java/lang/invoke/VarHandle" ∧ (parseMethodDescriptor yX6_perform.desc).map (fun d => d.parameters.length) = some 0 := by decide +kernel
set_option maxHeartbeats 4000000 in
set_option maxRecDepth 100000 in
theorem c_X6_perform (l : Launch) (G : GG) (h : Nat) (xn : Nat → Nat) (xb : Nat → Nat) (xe : Nat → Nat) (xt : Nat → Nat) (xz : Nat → Nat) (hh : Nat) (ht : Nat) (hk : Nat) (tk : Nat) (hs : Int32) (sn : Int32) (se : Int32) (nv : (Nat → Int32)) (nq : (Nat → Int32)) (bv : (Nat → Int32)) (bq : (Nat → Int32)) (yv : (Nat → Int32)) (yq : (Nat → Int32)) (hn : Nat) (xs : (Nat → Nat → Nat)) (vs : (Nat → Nat → Int32)) (qs : (Nat → Nat → Int32)) (tp : Int32) (tl : Int32) (tr : Int32) (tg : Int32) (tv : Int32) (T : (Nat → Int32)) (sz : Nat)  (hn4 : hn ≤ 4) : Met l yX6_perform wsX6_perform ({ frames := 7, cells := 0, slots := 0, locals := 179 }) (Pre G [.ref h] (SC h xn xb xe xt xz hh ht hs sn se ++ LC G xn nv nq ++ LC G xb bv bq ++ LC G xt yv yq ++ HB G hh hk hn xs vs qs ++ OT G ht tk tp tl tr tg tv T) sz) (PI G (va_A (SC h xn xb xe xt xz hh ht hs sn se ++ LC G xn nv nq ++ LC G xb bv bq ++ LC G xt yv yq ++ HB G hh hk hn xs vs qs ++ OT G ht tk tp tl tr tg tv T) sz) (fun r (u : Int32 × Int32 × (Nat → Int32) × (Nat → Int32) × (Nat → Int32) × (Nat → Int32) × (Nat → Int32) × (Nat → Int32) × Nat × (Nat → Nat → Nat) × (Nat → Nat → Int32) × (Nat → Nat → Int32) × Int32 × Int32 × Int32 × Int32) => f_X6_perform sn se nv nq bv bq yv yq hn xs vs qs tl tr tg tv T = (r, u)) (fun u : Int32 × Int32 × (Nat → Int32) × (Nat → Int32) × (Nat → Int32) × (Nat → Int32) × (Nat → Int32) × (Nat → Int32) × Nat × (Nat → Nat → Nat) × (Nat → Nat → Int32) × (Nat → Nat → Int32) × Int32 × Int32 × Int32 × Int32 => SC h xn xb xe xt xz hh ht hs u.1 u.2.1 ++ LC G xn u.2.2.1 u.2.2.2.1 ++ LC G xb u.2.2.2.2.1 u.2.2.2.2.2.1 ++ LC G xt u.2.2.2.2.2.2.1 u.2.2.2.2.2.2.2.1 ++ HB G hh hk u.2.2.2.2.2.2.2.2.1 u.2.2.2.2.2.2.2.2.2.1 u.2.2.2.2.2.2.2.2.2.2.1 u.2.2.2.2.2.2.2.2.2.2.2.1 ++ OT G ht tk u.2.2.2.2.2.2.2.2.2.2.2.2.1 tl u.2.2.2.2.2.2.2.2.2.2.2.2.2.1 u.2.2.2.2.2.2.2.2.2.2.2.2.2.2.1 u.2.2.2.2.2.2.2.2.2.2.2.2.2.2.2 T)) 0 0 (va_A (SC h xn xb xe xt xz hh ht hs sn se ++ LC G xn nv nq ++ LC G xb bv bq ++ LC G xt yv yq ++ HB G hh hk hn xs vs qs ++ OT G ht tk tp tl tr tg tv T) sz) := by
  refine Met.walk (cc := cX6_perform) (maxL := 4) (ret := (some .int)) (Qc := fun A => PI G A (fun r (u : Int32 × Int32 × (Nat → Int32) × (Nat → Int32) × (Nat → Int32) × (Nat → Int32) × (Nat → Int32) × (Nat → Int32) × Nat × (Nat → Nat → Nat) × (Nat → Nat → Int32) × (Nat → Nat → Int32) × Int32 × Int32 × Int32 × Int32) => f_X6_perform sn se nv nq bv bq yv yq hn xs vs qs tl tr tg tv T = (r, u)) (fun u : Int32 × Int32 × (Nat → Int32) × (Nat → Int32) × (Nat → Int32) × (Nat → Int32) × (Nat → Int32) × (Nat → Int32) × Nat × (Nat → Nat → Nat) × (Nat → Nat → Int32) × (Nat → Nat → Int32) × Int32 × Int32 × Int32 × Int32 => SC h xn xb xe xt xz hh ht hs u.1 u.2.1 ++ LC G xn u.2.2.1 u.2.2.2.1 ++ LC G xb u.2.2.2.2.1 u.2.2.2.2.2.1 ++ LC G xt u.2.2.2.2.2.2.1 u.2.2.2.2.2.2.2.1 ++ HB G hh hk u.2.2.2.2.2.2.2.2.1 u.2.2.2.2.2.2.2.2.2.1 u.2.2.2.2.2.2.2.2.2.2.1 u.2.2.2.2.2.2.2.2.2.2.2.1 ++ OT G ht tk u.2.2.2.2.2.2.2.2.2.2.2.2.1 tl u.2.2.2.2.2.2.2.2.2.2.2.2.2.1 u.2.2.2.2.2.2.2.2.2.2.2.2.2.2.1 u.2.2.2.2.2.2.2.2.2.2.2.2.2.2.2 T)) (by decide) rfl (Nat.le_of_ble_eq_true rfl) ?_
  intro p e s m below meth c A H C0 _ hK hsz hP hD hA hS ls hl
  have hx := C0.1
  have hb := C0.2.1
  have hown : s.vm.findClass RX6 = some m.cls := C0.2.2.2.2.1
  have hml := C0.2.2.2.1
  have hts : ∀ w ∈ wsX6_perform, w.before [.ref h].toArray s = true := C0.2.2.2.2.2.1
  have hl : lv_has ls 4 [(0, .ref h)] := hl
  have h_X6_perform_34 : ∀ (n : Nat) (sn_34 : Int32) (se_34 : Int32) (nv_34 : (Nat → Int32)) (nq_34 : (Nat → Int32)) (bv_34 : (Nat → Int32)) (bq_34 : (Nat → Int32)) (yv_34 : (Nat → Int32)) (yq_34 : (Nat → Int32)) (hn_34 : Nat) (xs_34 : (Nat → Nat → Nat)) (vs_34 : (Nat → Nat → Int32)) (qs_34 : (Nat → Nat → Int32)) (tp_34 : Int32) (tr_34 : Int32) (tg_34 : Int32) (tv_34 : Int32) (k : Int32) (i : Nat), k.toNatClampNeg - i < n → (i ≤ k.toNatClampNeg) → (k.toNatClampNeg < 2 ^ 31) → (hn_34 ≤ 4) → f_X6_perform sn se nv nq bv bq yv yq hn xs vs qs tl tr tg tv T = s_X6_perform_34 tl T n sn_34 se_34 nv_34 nq_34 bv_34 bq_34 yv_34 yq_34 hn_34 xs_34 vs_34 qs_34 tp_34 tr_34 tg_34 tv_34 k i → ∀ (H : Heap) (locs : List Loc) (ls : Array Slot), va_P G.1 vwCl (SC h xn xb xe xt xz hh ht hs sn_34 se_34 ++ LC G xn nv_34 nq_34 ++ LC G xb bv_34 bq_34 ++ LC G xt yv_34 yq_34 ++ HB G hh hk hn_34 xs_34 vs_34 qs_34 ++ OT G ht tk tp_34 tl tr_34 tg_34 tv_34 T) H → va_D A (SC h xn xb xe xt xz hh ht hs sn_34 se_34 ++ LC G xn nv_34 nq_34 ++ LC G xb bv_34 bq_34 ++ LC G xt yv_34 yq_34 ++ HB G hh hk hn_34 xs_34 vs_34 qs_34 ++ OT G ht tk tp_34 tl tr_34 tg_34 tv_34 T) → va_S A s.heap H locs → lv_has ls 4 [(2, .int (nI i)), (1, .int k), (0, .ref h)] → W p l e ({ frames := 7, cells := 0, slots := 0, locals := 179 }) s m ([.ref h] : List Value).toArray below meth c H locs 0 0 (MQ below (PI G A (fun r (u : Int32 × Int32 × (Nat → Int32) × (Nat → Int32) × (Nat → Int32) × (Nat → Int32) × (Nat → Int32) × (Nat → Int32) × Nat × (Nat → Nat → Nat) × (Nat → Nat → Int32) × (Nat → Nat → Int32) × Int32 × Int32 × Int32 × Int32) => f_X6_perform sn se nv nq bv bq yv yq hn xs vs qs tl tr tg tv T = (r, u)) (fun u : Int32 × Int32 × (Nat → Int32) × (Nat → Int32) × (Nat → Int32) × (Nat → Int32) × (Nat → Int32) × (Nat → Int32) × Nat × (Nat → Nat → Nat) × (Nat → Nat → Int32) × (Nat → Nat → Int32) × Int32 × Int32 × Int32 × Int32 => SC h xn xb xe xt xz hh ht hs u.1 u.2.1 ++ LC G xn u.2.2.1 u.2.2.2.1 ++ LC G xb u.2.2.2.2.1 u.2.2.2.2.2.1 ++ LC G xt u.2.2.2.2.2.2.1 u.2.2.2.2.2.2.2.1 ++ HB G hh hk u.2.2.2.2.2.2.2.2.1 u.2.2.2.2.2.2.2.2.2.1 u.2.2.2.2.2.2.2.2.2.2.1 u.2.2.2.2.2.2.2.2.2.2.2.1 ++ OT G ht tk u.2.2.2.2.2.2.2.2.2.2.2.2.1 tl u.2.2.2.2.2.2.2.2.2.2.2.2.2.1 u.2.2.2.2.2.2.2.2.2.2.2.2.2.2.1 u.2.2.2.2.2.2.2.2.2.2.2.2.2.2.2 T)) ([.ref h] : List Value).toArray s 0 0 A) (F0 m 34 ls []) := by
    intro n
    induction n with
    | zero =>
      intro sn_34 se_34 nv_34 nq_34 bv_34 bq_34 yv_34 yq_34 hn_34 xs_34 vs_34 qs_34 tp_34 tr_34 tg_34 tv_34 k i hm
      exact absurd hm (Nat.not_lt_zero _)
    | succ n ih =>
      intro sn_34 se_34 nv_34 nq_34 bv_34 bq_34 yv_34 yq_34 hn_34 xs_34 vs_34 qs_34 tp_34 tr_34 tg_34 tv_34 k i hm hi hz hn4 hE H locs ls hP hD hS hl
      refine lv_iload_n hx hb dX6_perform_34 rfl (lv_at hl 0 rfl) ?_
      refine lv_iload_n hx hb dX6_perform_35 rfl (lv_at hl 1 rfl) ?_
      refine lv_icmp_ge (tgt := 84) hx hb dX6_perform_36 (by decide) (fun c_5 => ?_) (fun c_5 => ?_)
      · refine lv_aload_n hx hb dX6_perform_84 rfl (lv_at hl 2 rfl) ?_
        refine lv_iload_n hx hb dX6_perform_85 rfl (lv_at hl 1 rfl) ?_
        have hW : BW G A [SC h xn xb xe xt xz hh ht hs sn_34 se_34, LC G xn nv_34 nq_34, LC G xb bv_34 bq_34, LC G xt yv_34 yq_34, HB G hh hk hn_34 xs_34 vs_34 qs_34, OT G ht tk tp_34 tl tr_34 tg_34 tv_34 T] H := BW.of hP hD
        refine gcallB_I (bc := [SC h xn xb xe xt xz hh ht hs sn_34 se_34, LC G xb bv_34 bq_34, HB G hh hk hn_34 xs_34 vs_34 qs_34]) (runB_V (As := [.int k]) (rest := []) (bc := [SC h xn xb xe xt xz hh ht hs sn_34 se_34, LC G xb bv_34 bq_34, HB G hh hk hn_34 xs_34 vs_34 qs_34]) C0 hK hW (c_X6_recorded l G h xn xb xe xt xz hh ht hk hs sn_34 se_34 bv_34 bq_34 hn_34 xs_34 vs_34 qs_34 H.size k hn4) (cwV 1 hts gX6_perform_X6_recorded rfl rfl rfl cd_X6_recorded ⟨Nat.le_of_ble_eq_true rfl, Nat.le_of_ble_eq_true rfl⟩) [0, 2, 4] rfl rfl rfl 0 0 rfl (ci := 6) rfl rfl rfl rfl hl.1 rfl (Nat.le_of_ble_eq_true rfl) dX6_perform_86 ⟨Nat.le_of_ble_eq_true rfl, Nat.le_of_ble_eq_true rfl⟩) hW hS hA [0, 2, 4] rfl rfl rfl (fun u => [SC h xn xb xe xt xz hh ht hs sn_34 se_34, LC G xb bv_34 bq_34, HB G hh hk u.1 u.2.1 u.2.2.1 u.2.2.2]) (fun _ => rfl) (fun _ => rfl) (fun r_6 u_6 H locs hw_6 hW hS => ?_)
        obtain ⟨hP, hD⟩ := hW.flat
        obtain ⟨hn_c6, xs_c6, vs_c6, qs_c6⟩ := u_6
        have hP : va_P G.1 vwCl (SC h xn xb xe xt xz hh ht hs sn_34 se_34 ++ LC G xn nv_34 nq_34 ++ LC G xb bv_34 bq_34 ++ LC G xt yv_34 yq_34 ++ HB G hh hk hn_c6 xs_c6 vs_c6 qs_c6 ++ OT G ht tk tp_34 tl tr_34 tg_34 tv_34 T) H := hP
        have hD : va_D A (SC h xn xb xe xt xz hh ht hs sn_34 se_34 ++ LC G xn nv_34 nq_34 ++ LC G xb bv_34 bq_34 ++ LC G xt yv_34 yq_34 ++ HB G hh hk hn_c6 xs_c6 vs_c6 qs_c6 ++ OT G ht tk tp_34 tl tr_34 tg_34 tv_34 T) := hD
        exact end_I C0 hP hD hS (sn_34, se_34, nv_34, nq_34, bv_34, bq_34, yv_34, yq_34, hn_c6, xs_c6, vs_c6, qs_c6, tp_34, tr_34, tg_34, tv_34) (hE.trans (by simp only [s_X6_perform_34, if_pos c_5, hw_6])) rfl dX6_perform_89
      · have c_5g : i < k.toNatClampNeg := ltNat c_5 (by omega)
        refine lv_aload_n hx hb dX6_perform_39 rfl (lv_at hl 2 rfl) ?_
        have hW : BW G A [SC h xn xb xe xt xz hh ht hs sn_34 se_34, LC G xn nv_34 nq_34, LC G xb bv_34 bq_34, LC G xt yv_34 yq_34, HB G hh hk hn_34 xs_34 vs_34 qs_34, OT G ht tk tp_34 tl tr_34 tg_34 tv_34 T] H := BW.of hP hD
        refine gcallB_I (bc := [SC h xn xb xe xt xz hh ht hs sn_34 se_34, LC G xn nv_34 nq_34, LC G xt yv_34 yq_34, OT G ht tk tp_34 tl tr_34 tg_34 tv_34 T]) (runB_V (As := []) (rest := []) (bc := [SC h xn xb xe xt xz hh ht hs sn_34 se_34, LC G xn nv_34 nq_34, LC G xt yv_34 yq_34, OT G ht tk tp_34 tl tr_34 tg_34 tv_34 T]) C0 hK hW (c_X6_obeyNextOrder l G h xn xb xe xt xz hh ht tk hs sn_34 se_34 nv_34 nq_34 yv_34 yq_34 tp_34 tl tr_34 tg_34 tv_34 T H.size ) (cwV 0 hts gX6_perform_X6_obeyNextOrder rfl rfl rfl cd_X6_obeyNextOrder ⟨Nat.le_of_ble_eq_true rfl, Nat.le_of_ble_eq_true rfl⟩) [0, 1, 3, 5] rfl rfl rfl 0 0 rfl (ci := 6) rfl rfl rfl rfl hl.1 rfl (Nat.le_of_ble_eq_true rfl) dX6_perform_40 ⟨Nat.le_of_ble_eq_true rfl, Nat.le_of_ble_eq_true rfl⟩) hW hS hA [0, 1, 3, 5] rfl rfl rfl (fun u => [SC h xn xb xe xt xz hh ht hs sn_34 se_34, LC G xn u.1 u.2.1, LC G xt u.2.2.1 u.2.2.2.1, OT G ht tk u.2.2.2.2.1 tl u.2.2.2.2.2.1 u.2.2.2.2.2.2.1 u.2.2.2.2.2.2.2 T]) (fun _ => rfl) (fun _ => rfl) (fun r_7 u_7 H locs hw_7 hW hS => ?_)
        obtain ⟨hP, hD⟩ := hW.flat
        obtain ⟨nv_c7, nq_c7, yv_c7, yq_c7, tp_c7, tr_c7, tg_c7, tv_c7⟩ := u_7
        have hP : va_P G.1 vwCl (SC h xn xb xe xt xz hh ht hs sn_34 se_34 ++ LC G xn nv_c7 nq_c7 ++ LC G xb bv_34 bq_34 ++ LC G xt yv_c7 yq_c7 ++ HB G hh hk hn_34 xs_34 vs_34 qs_34 ++ OT G ht tk tp_c7 tl tr_c7 tg_c7 tv_c7 T) H := hP
        have hD : va_D A (SC h xn xb xe xt xz hh ht hs sn_34 se_34 ++ LC G xn nv_c7 nq_c7 ++ LC G xb bv_34 bq_34 ++ LC G xt yv_c7 yq_c7 ++ HB G hh hk hn_34 xs_34 vs_34 qs_34 ++ OT G ht tk tp_c7 tl tr_c7 tg_c7 tv_c7 T) := hD
        refine lv_istore_n (lv' := [(3, .int r_7), (2, .int (nI i)), (1, .int k), (0, .ref h)]) hx hb dX6_perform_43 rfl hl (by decide) rfl (fun ls hl => ?_)
        refine lv_iload_n hx hb dX6_perform_44 rfl (lv_at hl 0 rfl) ?_
        refine lv_if_ge (tgt := 78) hx hb dX6_perform_45 (by decide) (fun c_8 => ?_) (fun c_8 => ?_)
        · refine lv_iinc (v := (nI (i + 1))) (lv' := [(2, .int (nI (i + 1))), (3, .int r_7), (1, .int k), (0, .ref h)]) hx hb dX6_perform_78 hl (k := 1) rfl (inc1 i) (by decide) rfl (fun ls hl => ?_)
          refine lv_goto (tgt := 34) hx hb dX6_perform_81 (by decide) ?_
          exact ih sn_34 se_34 nv_c7 nq_c7 bv_34 bq_34 yv_c7 yq_c7 hn_34 xs_34 vs_34 qs_34 tp_c7 tr_c7 tg_c7 tv_c7 k (i + 1) (by omega) (by omega) hz hn4 (hE.trans (by simp only [s_X6_perform_34, if_neg c_5, hw_7, if_pos c_8])) _ _ _ hP hD hS (lv_sub hl [0, 2, 3] rfl)
        · refine lv_iload_n hx hb dX6_perform_48 rfl (lv_at hl 0 rfl) ?_
          refine lv_bipush (v := (-5)) hx hb dX6_perform_49 (by decide) ?_
          refine lv_icmp_eq (tgt := 78) hx hb dX6_perform_51 (by decide) (fun c_9 => ?_) (fun c_9 => ?_)
          · refine lv_iinc (v := (nI (i + 1))) (lv' := [(2, .int (nI (i + 1))), (3, .int r_7), (1, .int k), (0, .ref h)]) hx hb dX6_perform_78 hl (k := 1) rfl (inc1 i) (by decide) rfl (fun ls hl => ?_)
            refine lv_goto (tgt := 34) hx hb dX6_perform_81 (by decide) ?_
            exact ih sn_34 se_34 nv_c7 nq_c7 bv_34 bq_34 yv_c7 yq_c7 hn_34 xs_34 vs_34 qs_34 tp_c7 tr_c7 tg_c7 tv_c7 k (i + 1) (by omega) (by omega) hz hn4 (hE.trans (by simp only [s_X6_perform_34, if_neg c_5, hw_7, if_neg c_8, if_pos c_9])) _ _ _ hP hD hS (lv_sub hl [0, 2, 3] rfl)
          · refine lv_aload_n hx hb dX6_perform_54 rfl (lv_at hl 3 rfl) ?_
            refine va_get (D := G.1) (ci := 6) (v := .ref (xn 0)) (C := RX6) (T := TX6) (N := 10) hx hb hts in_X6_perform_RX6 hown hK.1 hP 0 rfl rfl 0 (by decide) (hts _ k_X6_perform_f10) (fun _ h9 => h9) rfl dX6_perform_55 ?_
            refine lv_aload_n hx hb dX6_perform_58 rfl (lv_at hl 3 rfl) ?_
            refine va_get (D := G.1) (ci := 6) (v := .ref (xb 0)) (C := RX6) (T := TX6) (N := 10) hx hb hts in_X6_perform_RX6 hown hK.1 hP 0 rfl rfl 1 (by decide) (hts _ k_X6_perform_f16) (fun _ h9 => h9) rfl dX6_perform_59 ?_
            have hW : BW G A [SC h xn xb xe xt xz hh ht hs sn_34 se_34, LC G xn nv_c7 nq_c7, LC G xb bv_34 bq_34, LC G xt yv_c7 yq_c7, HB G hh hk hn_34 xs_34 vs_34 qs_34, OT G ht tk tp_c7 tl tr_c7 tg_c7 tv_c7 T] H := BW.of hP hD
            refine gcallB_V (bc := [LC G xn nv_c7 nq_c7, LC G xb bv_34 bq_34]) (runB_V (As := [.ref (xb 0)]) (rest := []) (bc := [LC G xn nv_c7 nq_c7, LC G xb bv_34 bq_34]) C0 hK hW (c_X2_copyFrom l G xn xb nv_c7 nq_c7 bv_34 bq_34 H.size ) (cwV 1 hts gX6_perform_X2_copyFrom rfl rfl rfl cd_X2_copyFrom ⟨Nat.le_of_ble_eq_true rfl, Nat.le_of_ble_eq_true rfl⟩) [1, 2] rfl rfl rfl 1 0 rfl (ci := 2) rfl rfl rfl rfl hl.1 rfl (Nat.le_of_ble_eq_true rfl) dX6_perform_62 ⟨Nat.le_of_ble_eq_true rfl, Nat.le_of_ble_eq_true rfl⟩) hW hS hA [1, 2] rfl rfl rfl (fun u => [LC G xn u.1 u.2, LC G xb bv_34 bq_34]) (fun _ => rfl) (fun _ => rfl) (fun u_10 H locs hw_10 hW hS => ?_)
            obtain ⟨hP, hD⟩ := hW.flat
            obtain ⟨v_c10, q_c10⟩ := u_10
            simp only [f_X2_copyFrom, Prod.mk.injEq] at hw_10
            obtain ⟨rfl, rfl⟩ := hw_10
            have hP : va_P G.1 vwCl (SC h xn xb xe xt xz hh ht hs sn_34 se_34 ++ LC G xn bv_34 bq_34 ++ LC G xb bv_34 bq_34 ++ LC G xt yv_c7 yq_c7 ++ HB G hh hk hn_34 xs_34 vs_34 qs_34 ++ OT G ht tk tp_c7 tl tr_c7 tg_c7 tv_c7 T) H := hP
            have hD : va_D A (SC h xn xb xe xt xz hh ht hs sn_34 se_34 ++ LC G xn bv_34 bq_34 ++ LC G xb bv_34 bq_34 ++ LC G xt yv_c7 yq_c7 ++ HB G hh hk hn_34 xs_34 vs_34 qs_34 ++ OT G ht tk tp_c7 tl tr_c7 tg_c7 tv_c7 T) := hD
            refine lv_aload_n hx hb dX6_perform_65 rfl (lv_at hl 3 rfl) ?_
            refine lv_iload_n hx hb dX6_perform_66 rfl (lv_at hl 1 rfl) ?_
            refine va_put (D := G.1) (ci := 6) (v := .int (nI i)) (ty := .int) (C := RX6) (T := TX6) (N := 10) hx hb hts in_X6_perform_RX6 tyX6 tyX6_ok nmX6 hown hK.1 hP hD hS 0 rfl rfl 8 (by decide) (hts _ k_X6_perform_f46) (fun _ h9 => h9) rfl (by decide +kernel) rfl rfl (Nat.le_of_ble_eq_true rfl) dX6_perform_67 (fun H locs hP hD hS => ?_)
            have hP : va_P G.1 vwCl (SC h xn xb xe xt xz hh ht hs (nI i) se_34 ++ LC G xn bv_34 bq_34 ++ LC G xb bv_34 bq_34 ++ LC G xt yv_c7 yq_c7 ++ HB G hh hk hn_34 xs_34 vs_34 qs_34 ++ OT G ht tk tp_c7 tl tr_c7 tg_c7 tv_c7 T) H := hP
            have hD : va_D A (SC h xn xb xe xt xz hh ht hs (nI i) se_34 ++ LC G xn bv_34 bq_34 ++ LC G xb bv_34 bq_34 ++ LC G xt yv_c7 yq_c7 ++ HB G hh hk hn_34 xs_34 vs_34 qs_34 ++ OT G ht tk tp_c7 tl tr_c7 tg_c7 tv_c7 T) := hD
            refine lv_aload_n hx hb dX6_perform_70 rfl (lv_at hl 3 rfl) ?_
            refine lv_iload_n hx hb dX6_perform_71 rfl (lv_at hl 0 rfl) ?_
            refine va_put (D := G.1) (ci := 6) (v := .int r_7) (ty := .int) (C := RX6) (T := TX6) (N := 10) hx hb hts in_X6_perform_RX6 tyX6 tyX6_ok nmX6 hown hK.1 hP hD hS 0 rfl rfl 9 (by decide) (hts _ k_X6_perform_f50) (fun _ h9 => h9) rfl (by decide +kernel) rfl rfl (Nat.le_of_ble_eq_true rfl) dX6_perform_72 (fun H locs hP hD hS => ?_)
            have hP : va_P G.1 vwCl (SC h xn xb xe xt xz hh ht hs (nI i) r_7 ++ LC G xn bv_34 bq_34 ++ LC G xb bv_34 bq_34 ++ LC G xt yv_c7 yq_c7 ++ HB G hh hk hn_34 xs_34 vs_34 qs_34 ++ OT G ht tk tp_c7 tl tr_c7 tg_c7 tv_c7 T) H := hP
            have hD : va_D A (SC h xn xb xe xt xz hh ht hs (nI i) r_7 ++ LC G xn bv_34 bq_34 ++ LC G xb bv_34 bq_34 ++ LC G xt yv_c7 yq_c7 ++ HB G hh hk hn_34 xs_34 vs_34 qs_34 ++ OT G ht tk tp_c7 tl tr_c7 tg_c7 tv_c7 T) := hD
            refine lv_bipush (v := (-4)) hx hb dX6_perform_75 (by decide) ?_
            exact end_I C0 hP hD hS ((nI i), r_7, bv_34, bq_34, bv_34, bq_34, yv_c7, yq_c7, hn_34, xs_34, vs_34, qs_34, tp_c7, tr_c7, tg_c7, tv_c7) (hE.trans (by simp only [s_X6_perform_34, if_neg c_5, hw_7, if_neg c_8, if_neg c_9])) rfl dX6_perform_77
  refine lv_aload_n hx hb dX6_perform_0 rfl (lv_at hl 0 rfl) ?_
  refine va_get (D := G.1) (ci := 6) (v := .ref ht) (C := RX6) (T := TX6) (N := 10) hx hb hts in_X6_perform_RX6 hown hK.1 hP 0 rfl rfl 6 (by decide) (hts _ k_X6_perform_f38) (fun _ h9 => h9) rfl dX6_perform_1 ?_
  refine gcall_I (run_V (As := []) (rest := []) C0 hK hP hD (c_X4_countOrders l G ht tk tp tl tr tg tv T H.size ) (cwV 0 hts gX6_perform_X4_countOrders rfl rfl rfl cd_X4_countOrders ⟨Nat.le_of_ble_eq_true rfl, Nat.le_of_ble_eq_true rfl⟩) [80, 81] rfl rfl 80 (ci := 4) rfl rfl rfl rfl hl.1 rfl (Nat.le_of_ble_eq_true rfl) dX6_perform_4 ⟨Nat.le_of_ble_eq_true rfl, Nat.le_of_ble_eq_true rfl⟩) hP hD hS hA [80, 81] rfl rfl (fun _ => rfl) (fun r_1 u_1 H locs hw_1 hP hD hS => ?_)
  obtain ⟨tp_c1, tr_c1, tg_c1, tv_c1⟩ := u_1
  have hP : va_P G.1 vwCl (SC h xn xb xe xt xz hh ht hs sn se ++ LC G xn nv nq ++ LC G xb bv bq ++ LC G xt yv yq ++ HB G hh hk hn xs vs qs ++ OT G ht tk tp_c1 tl tr_c1 tg_c1 tv_c1 T) H := hP
  have hD : va_D A (SC h xn xb xe xt xz hh ht hs sn se ++ LC G xn nv nq ++ LC G xb bv bq ++ LC G xt yv yq ++ HB G hh hk hn xs vs qs ++ OT G ht tk tp_c1 tl tr_c1 tg_c1 tv_c1 T) := hD
  refine lv_istore_n (lv' := [(1, .int r_1), (0, .ref h)]) hx hb dX6_perform_7 rfl hl (by decide) rfl (fun ls hl => ?_)
  refine lv_iload_n hx hb dX6_perform_8 rfl (lv_at hl 0 rfl) ?_
  refine lv_if_ge (tgt := 14) hx hb dX6_perform_9 (by decide) (fun c_2 => ?_) (fun c_2 => ?_)
  · refine lv_aload_n hx hb dX6_perform_14 rfl (lv_at hl 1 rfl) ?_
    refine va_get (D := G.1) (ci := 6) (v := .ref (xb 0)) (C := RX6) (T := TX6) (N := 10) hx hb hts in_X6_perform_RX6 hown hK.1 hP 0 rfl rfl 1 (by decide) (hts _ k_X6_perform_f16) (fun _ h9 => h9) rfl dX6_perform_15 ?_
    refine lv_aload_n hx hb dX6_perform_18 rfl (lv_at hl 1 rfl) ?_
    refine va_get (D := G.1) (ci := 6) (v := .ref (xn 0)) (C := RX6) (T := TX6) (N := 10) hx hb hts in_X6_perform_RX6 hown hK.1 hP 0 rfl rfl 0 (by decide) (hts _ k_X6_perform_f10) (fun _ h9 => h9) rfl dX6_perform_19 ?_
    have hW : BW G A [SC h xn xb xe xt xz hh ht hs sn se, LC G xn nv nq, LC G xb bv bq, LC G xt yv yq, HB G hh hk hn xs vs qs, OT G ht tk tp_c1 tl tr_c1 tg_c1 tv_c1 T] H := BW.of hP hD
    refine gcallB_V (bc := [LC G xb bv bq, LC G xn nv nq]) (runB_V (As := [.ref (xn 0)]) (rest := []) (bc := [LC G xb bv bq, LC G xn nv nq]) C0 hK hW (c_X2_copyFrom l G xb xn bv bq nv nq H.size ) (cwV 1 hts gX6_perform_X2_copyFrom rfl rfl rfl cd_X2_copyFrom ⟨Nat.le_of_ble_eq_true rfl, Nat.le_of_ble_eq_true rfl⟩) [2, 1] rfl rfl rfl 2 0 rfl (ci := 2) rfl rfl rfl rfl hl.1 rfl (Nat.le_of_ble_eq_true rfl) dX6_perform_22 ⟨Nat.le_of_ble_eq_true rfl, Nat.le_of_ble_eq_true rfl⟩) hW hS hA [2, 1] rfl rfl rfl (fun u => [LC G xb u.1 u.2, LC G xn nv nq]) (fun _ => rfl) (fun _ => rfl) (fun u_3 H locs hw_3 hW hS => ?_)
    obtain ⟨hP, hD⟩ := hW.flat
    obtain ⟨v_c3, q_c3⟩ := u_3
    simp only [f_X2_copyFrom, Prod.mk.injEq] at hw_3
    obtain ⟨rfl, rfl⟩ := hw_3
    have hP : va_P G.1 vwCl (SC h xn xb xe xt xz hh ht hs sn se ++ LC G xn nv nq ++ LC G xb nv nq ++ LC G xt yv yq ++ HB G hh hk hn xs vs qs ++ OT G ht tk tp_c1 tl tr_c1 tg_c1 tv_c1 T) H := hP
    have hD : va_D A (SC h xn xb xe xt xz hh ht hs sn se ++ LC G xn nv nq ++ LC G xb nv nq ++ LC G xt yv yq ++ HB G hh hk hn xs vs qs ++ OT G ht tk tp_c1 tl tr_c1 tg_c1 tv_c1 T) := hD
    refine lv_aload_n hx hb dX6_perform_25 rfl (lv_at hl 1 rfl) ?_
    refine va_get (D := G.1) (ci := 6) (v := .ref ht) (C := RX6) (T := TX6) (N := 10) hx hb hts in_X6_perform_RX6 hown hK.1 hP 0 rfl rfl 6 (by decide) (hts _ k_X6_perform_f38) (fun _ h9 => h9) rfl dX6_perform_26 ?_
    refine gcall_V (run_V (As := []) (rest := []) C0 hK hP hD (c_X4_rewind l G ht tk tp_c1 tl tr_c1 tg_c1 tv_c1 T H.size ) (cwV 0 hts gX6_perform_X4_rewind rfl rfl rfl cd_X4_rewind ⟨Nat.le_of_ble_eq_true rfl, Nat.le_of_ble_eq_true rfl⟩) [80, 81] rfl rfl 80 (ci := 4) rfl rfl rfl rfl hl.1 rfl (Nat.le_of_ble_eq_true rfl) dX6_perform_29 ⟨Nat.le_of_ble_eq_true rfl, Nat.le_of_ble_eq_true rfl⟩) hP hD hS hA [80, 81] rfl rfl (fun _ => rfl) (fun u_4 H locs hw_4 hP hD hS => ?_)
    obtain ⟨tp_c4, rfl⟩ : ∃ z, z = u_4 := ⟨_, rfl⟩
    simp only [f_X4_rewind, Prod.mk.injEq] at hw_4
    obtain rfl := hw_4
    have hP : va_P G.1 vwCl (SC h xn xb xe xt xz hh ht hs sn se ++ LC G xn nv nq ++ LC G xb nv nq ++ LC G xt yv yq ++ HB G hh hk hn xs vs qs ++ OT G ht tk (nI 0) tl tr_c1 tg_c1 tv_c1 T) H := hP
    have hD : va_D A (SC h xn xb xe xt xz hh ht hs sn se ++ LC G xn nv nq ++ LC G xb nv nq ++ LC G xt yv yq ++ HB G hh hk hn xs vs qs ++ OT G ht tk (nI 0) tl tr_c1 tg_c1 tv_c1 T) := hD
    refine lv_iconst (v := (nI 0)) hx hb dX6_perform_32 (by decide) ?_
    refine lv_istore_n (lv' := [(2, .int (nI 0)), (1, .int r_1), (0, .ref h)]) hx hb dX6_perform_33 rfl hl (by decide) rfl (fun ls hl => ?_)
    exact h_X6_perform_34 (r_1.toNatClampNeg + 1) sn se nv nq nv nq yv yq hn xs vs qs (nI 0) tr_c1 tg_c1 tv_c1 r_1 0 (by omega) (Nat.zero_le _) (natBig _) hn4 (by simp only [f_X6_perform, hw_1, if_pos c_2]) _ _ _ hP hD hS (lv_sub hl [0, 1, 2] rfl)
  · refine lv_iload_n hx hb dX6_perform_12 rfl (lv_at hl 0 rfl) ?_
    exact end_I C0 hP hD hS (sn, se, nv, nq, bv, bq, yv, yq, hn, xs, vs, qs, tp_c1, tr_c1, tg_c1, tv_c1) (by simp only [f_X6_perform, hw_1, if_neg c_2]) rfl dX6_perform_13

def f_X6_stopped (sn : Int32) (se : Int32) (p0 : Int32) : Int32 :=
  if p0 = nI 0 then
    sn
  else
    if p0 = nI 1 then
      se
    else
      (-2)
set_option maxRecDepth 20000 in
theorem k_X6_stopped_f46 : Cond.fieldLink RX6 46 "SteamRations" "stopNumber" "I" ∈ wsX6_stopped := by decide +kernel
set_option maxRecDepth 20000 in
theorem k_X6_stopped_f50 : Cond.fieldLink RX6 50 "SteamRations" "stopError" "I" ∈ wsX6_stopped := by decide +kernel
set_option maxRecDepth 20000 in
theorem in_X6_stopped_RX6 : ∀ w ∈ u_ws RX6 TX6 10, w ∈ wsX6_stopped := by decide +kernel
theorem cd_X6_stopped : yX6_stopped.cls = RX6 ∧ yX6_stopped.cls ≠ "java/lang/invoke/MethodHandle" ∧ yX6_stopped.cls ≠ "java/lang/invoke/VarHandle" ∧ (parseMethodDescriptor yX6_stopped.desc).map (fun d => d.parameters.length) = some 1 := by decide +kernel
set_option maxHeartbeats 4000000 in
set_option maxRecDepth 100000 in
theorem c_X6_stopped (l : Launch) (G : GG) (h : Nat) (xn : Nat → Nat) (xb : Nat → Nat) (xe : Nat → Nat) (xt : Nat → Nat) (xz : Nat → Nat) (hh : Nat) (ht : Nat) (hs : Int32) (sn : Int32) (se : Int32) (sz : Nat) (p0 : Int32)  : Met l yX6_stopped wsX6_stopped ({ frames := 0, cells := 0, slots := 0, locals := 0 }) (Pre G [.ref h, .int p0] (SC h xn xb xe xt xz hh ht hs sn se) sz) (PI G (va_A (SC h xn xb xe xt xz hh ht hs sn se) sz) (fun r (_ : Unit) => f_X6_stopped sn se p0 = r) (fun _ : Unit => SC h xn xb xe xt xz hh ht hs sn se)) 0 0 (va_A (SC h xn xb xe xt xz hh ht hs sn se) sz) := by
  refine Met.walk (cc := cX6_stopped) (maxL := 2) (ret := (some .int)) (Qc := fun A => PI G A (fun r (_ : Unit) => f_X6_stopped sn se p0 = r) (fun _ : Unit => SC h xn xb xe xt xz hh ht hs sn se)) (by decide) rfl (Nat.le_of_ble_eq_true rfl) ?_
  intro p e s m below meth c A H C0 _ hK hsz hP hD hA hS ls hl
  have hx := C0.1
  have hb := C0.2.1
  have hown : s.vm.findClass RX6 = some m.cls := C0.2.2.2.2.1
  have hml := C0.2.2.2.1
  have hts : ∀ w ∈ wsX6_stopped, w.before [.ref h, .int p0].toArray s = true := C0.2.2.2.2.2.1
  have hl : lv_has ls 2 [(0, .ref h), (1, .int p0)] := hl
  refine lv_iload_n hx hb dX6_stopped_0 rfl (lv_at hl 1 rfl) ?_
  by_cases c_1 : p0 = nI 0
  · refine lv_lookup (tgt := 28) hx hb dX6_stopped_1 (by decide) (by rw [c_1]; try rfl) (by decide) ?_
    refine lv_aload_n hx hb dX6_stopped_28 rfl (lv_at hl 0 rfl) ?_
    refine va_get (D := G.1) (ci := 6) (v := .int sn) (C := RX6) (T := TX6) (N := 10) hx hb hts in_X6_stopped_RX6 hown hK.1 hP 0 rfl rfl 8 (by decide) (hts _ k_X6_stopped_f46) (fun _ h9 => h9) rfl dX6_stopped_29 ?_
    exact end_I C0 hP hD hS () (by simp only [f_X6_stopped, if_pos c_1]) rfl dX6_stopped_32
  · by_cases c_2 : p0 = nI 1
    · refine lv_lookup (tgt := 33) hx hb dX6_stopped_1 (by decide) (by rw [c_2]; try rfl) (by decide) ?_
      refine lv_aload_n hx hb dX6_stopped_33 rfl (lv_at hl 0 rfl) ?_
      refine va_get (D := G.1) (ci := 6) (v := .int se) (C := RX6) (T := TX6) (N := 10) hx hb hts in_X6_stopped_RX6 hown hK.1 hP 0 rfl rfl 9 (by decide) (hts _ k_X6_stopped_f50) (fun _ h9 => h9) rfl dX6_stopped_34 ?_
      exact end_I C0 hP hD hS () (by simp only [f_X6_stopped, if_neg c_1, if_pos c_2]) rfl dX6_stopped_37
    · refine lv_lookup (off := 37) (tgt := 38) hx hb dX6_stopped_1 (by decide) ((lv_osw c_1 (show (nI 0).toInt = 0 from by decide +kernel)).trans ((lv_osw c_2 (show (nI 1).toInt = 1 from by decide +kernel)).trans rfl)) (by decide) ?_
      refine lv_bipush (v := (-2)) hx hb dX6_stopped_38 (by decide) ?_
      exact end_I C0 hP hD hS () (by simp only [f_X6_stopped, if_neg c_1, if_neg c_2]) rfl dX6_stopped_40

def f_X6_undo (nv : (Nat → Int32)) (nq : (Nat → Int32)) (hn : Nat) (vs : (Nat → Nat → Int32)) (qs : (Nat → Nat → Int32)) : Int32 × (Nat → Int32) × (Nat → Int32) × Nat :=
  match f_X1_takeBack hn vs qs nv nq with
  | (r_1, hn_c1, v_c1, q_c1) =>
    (r_1, v_c1, q_c1, hn_c1)
set_option maxRecDepth 20000 in
theorem k_X6_undo_f10 : Cond.fieldLink RX6 10 "SteamRations" "now" "LSteamRations$Laundry;" ∈ wsX6_undo := by decide +kernel
set_option maxRecDepth 20000 in
theorem k_X6_undo_f31 : Cond.fieldLink RX6 31 "SteamRations" "history" "LSteamRations$History;" ∈ wsX6_undo := by decide +kernel
set_option maxRecDepth 20000 in
theorem in_X6_undo_RX6 : ∀ w ∈ u_ws RX6 TX6 10, w ∈ wsX6_undo := by decide +kernel
theorem cd_X6_undo : yX6_undo.cls = RX6 ∧ yX6_undo.cls ≠ "java/lang/invoke/MethodHandle" ∧ yX6_undo.cls ≠ "java/lang/invoke/VarHandle" ∧ (parseMethodDescriptor yX6_undo.desc).map (fun d => d.parameters.length) = some 0 := by decide +kernel
set_option maxHeartbeats 4000000 in
set_option maxRecDepth 100000 in
theorem c_X6_undo (l : Launch) (G : GG) (h : Nat) (xn : Nat → Nat) (xb : Nat → Nat) (xe : Nat → Nat) (xt : Nat → Nat) (xz : Nat → Nat) (hh : Nat) (ht : Nat) (hk : Nat) (hs : Int32) (sn : Int32) (se : Int32) (nv : (Nat → Int32)) (nq : (Nat → Int32)) (hn : Nat) (xs : (Nat → Nat → Nat)) (vs : (Nat → Nat → Int32)) (qs : (Nat → Nat → Int32)) (sz : Nat)  (hn4 : hn ≤ 4) : Met l yX6_undo wsX6_undo ({ frames := 3, cells := 0, slots := 0, locals := 65 }) (Pre G [.ref h] (SC h xn xb xe xt xz hh ht hs sn se ++ LC G xn nv nq ++ HB G hh hk hn xs vs qs) sz) (PI G (va_A (SC h xn xb xe xt xz hh ht hs sn se ++ LC G xn nv nq ++ HB G hh hk hn xs vs qs) sz) (fun r (u : (Nat → Int32) × (Nat → Int32) × Nat) => f_X6_undo nv nq hn vs qs = (r, u)) (fun u : (Nat → Int32) × (Nat → Int32) × Nat => SC h xn xb xe xt xz hh ht hs sn se ++ LC G xn u.1 u.2.1 ++ HB G hh hk u.2.2 xs vs qs)) 0 0 (va_A (SC h xn xb xe xt xz hh ht hs sn se ++ LC G xn nv nq ++ HB G hh hk hn xs vs qs) sz) := by
  refine Met.walk (cc := cX6_undo) (maxL := 1) (ret := (some .int)) (Qc := fun A => PI G A (fun r (u : (Nat → Int32) × (Nat → Int32) × Nat) => f_X6_undo nv nq hn vs qs = (r, u)) (fun u : (Nat → Int32) × (Nat → Int32) × Nat => SC h xn xb xe xt xz hh ht hs sn se ++ LC G xn u.1 u.2.1 ++ HB G hh hk u.2.2 xs vs qs)) (by decide) rfl (Nat.le_of_ble_eq_true rfl) ?_
  intro p e s m below meth c A H C0 _ hK hsz hP hD hA hS ls hl
  have hx := C0.1
  have hb := C0.2.1
  have hown : s.vm.findClass RX6 = some m.cls := C0.2.2.2.2.1
  have hml := C0.2.2.2.1
  have hts : ∀ w ∈ wsX6_undo, w.before [.ref h].toArray s = true := C0.2.2.2.2.2.1
  have hl : lv_has ls 1 [(0, .ref h)] := hl
  refine lv_aload_n hx hb dX6_undo_0 rfl (lv_at hl 0 rfl) ?_
  refine va_get (D := G.1) (ci := 6) (v := .ref hh) (C := RX6) (T := TX6) (N := 10) hx hb hts in_X6_undo_RX6 hown hK.1 hP 0 rfl rfl 5 (by decide) (hts _ k_X6_undo_f31) (fun _ h9 => h9) rfl dX6_undo_1 ?_
  refine lv_aload_n hx hb dX6_undo_4 rfl (lv_at hl 0 rfl) ?_
  refine va_get (D := G.1) (ci := 6) (v := .ref (xn 0)) (C := RX6) (T := TX6) (N := 10) hx hb hts in_X6_undo_RX6 hown hK.1 hP 0 rfl rfl 0 (by decide) (hts _ k_X6_undo_f10) (fun _ h9 => h9) rfl dX6_undo_5 ?_
  have hW : BW G A [SC h xn xb xe xt xz hh ht hs sn se, LC G xn nv nq, HB G hh hk hn xs vs qs] H := BW.of hP hD
  refine gcallB_I (bc := [HB G hh hk hn xs vs qs, LC G xn nv nq]) (runB_V (As := [.ref (xn 0)]) (rest := []) (bc := [HB G hh hk hn xs vs qs, LC G xn nv nq]) C0 hK hW (c_X1_takeBack l G hh hk xn hn xs vs qs nv nq H.size  hn4) (cwV 1 hts gX6_undo_X1_takeBack rfl rfl rfl cd_X1_takeBack ⟨Nat.le_of_ble_eq_true rfl, Nat.le_of_ble_eq_true rfl⟩) [2, 1] rfl rfl rfl 2 0 rfl (ci := 1) rfl rfl rfl rfl hl.1 rfl (Nat.le_of_ble_eq_true rfl) dX6_undo_8 ⟨Nat.le_of_ble_eq_true rfl, Nat.le_of_ble_eq_true rfl⟩) hW hS hA [2, 1] rfl rfl rfl (fun u => [HB G hh hk u.1 xs vs qs, LC G xn u.2.1 u.2.2]) (fun _ => rfl) (fun _ => rfl) (fun r_1 u_1 H locs hw_1 hW hS => ?_)
  obtain ⟨hP, hD⟩ := hW.flat
  obtain ⟨hn_c1, v_c1, q_c1⟩ := u_1
  have hP : va_P G.1 vwCl (SC h xn xb xe xt xz hh ht hs sn se ++ LC G xn v_c1 q_c1 ++ HB G hh hk hn_c1 xs vs qs) H := hP
  have hD : va_D A (SC h xn xb xe xt xz hh ht hs sn se ++ LC G xn v_c1 q_c1 ++ HB G hh hk hn_c1 xs vs qs) := hD
  exact end_I C0 hP hD hS (v_c1, q_c1, hn_c1) (by simp only [f_X6_undo, hw_1]) rfl dX6_undo_11

def f_X6_restore (hs : Int32) (nv : (Nat → Int32)) (nq : (Nat → Int32)) (bv : (Nat → Int32)) (bq : (Nat → Int32)) (zv : (Nat → Int32)) (zq : (Nat → Int32)) (hn : Nat) (xs : (Nat → Nat → Nat)) (vs : (Nat → Nat → Int32)) (qs : (Nat → Nat → Int32)) : Int32 × (Nat → Int32) × (Nat → Int32) × (Nat → Int32) × (Nat → Int32) × Nat × (Nat → Nat → Nat) × (Nat → Nat → Int32) × (Nat → Nat → Int32) :=
  if hs = 0 then
    ((-5), nv, nq, bv, bq, hn, xs, vs, qs)
  else
    match f_X6_recorded nv nq hn xs vs qs (zv 12) with
    | (r_4, hn_c4, xs_c4, vs_c4, qs_c4) =>
      (r_4, zv, zq, nv, nq, hn_c4, xs_c4, vs_c4, qs_c4)
set_option maxRecDepth 20000 in
theorem k_X6_restore_f10 : Cond.fieldLink RX6 10 "SteamRations" "now" "LSteamRations$Laundry;" ∈ wsX6_restore := by decide +kernel
set_option maxRecDepth 20000 in
theorem k_X6_restore_f109 : Cond.fieldLink RX6 109 "SteamRations$Laundry" "ticks" "I" ∈ wsX6_restore := by decide +kernel
set_option maxRecDepth 20000 in
theorem k_X6_restore_f16 : Cond.fieldLink RX6 16 "SteamRations" "before" "LSteamRations$Laundry;" ∈ wsX6_restore := by decide +kernel
set_option maxRecDepth 20000 in
theorem k_X6_restore_f25 : Cond.fieldLink RX6 25 "SteamRations" "snapshot" "LSteamRations$Laundry;" ∈ wsX6_restore := by decide +kernel
set_option maxRecDepth 20000 in
theorem k_X6_restore_f42 : Cond.fieldLink RX6 42 "SteamRations" "hasSnapshot" "Z" ∈ wsX6_restore := by decide +kernel
set_option maxRecDepth 20000 in
theorem in_X6_restore_RX2 : ∀ w ∈ u_ws RX2 TX2 14, w ∈ wsX6_restore := by decide +kernel
set_option maxRecDepth 20000 in
theorem in_X6_restore_RX6 : ∀ w ∈ u_ws RX6 TX6 10, w ∈ wsX6_restore := by decide +kernel
theorem cd_X6_restore : yX6_restore.cls = RX6 ∧ yX6_restore.cls ≠ "java/lang/invoke/MethodHandle" ∧ yX6_restore.cls ≠ "java/lang/invoke/VarHandle" ∧ (parseMethodDescriptor yX6_restore.desc).map (fun d => d.parameters.length) = some 0 := by decide +kernel
set_option maxHeartbeats 4000000 in
set_option maxRecDepth 100000 in
theorem c_X6_restore (l : Launch) (G : GG) (h : Nat) (xn : Nat → Nat) (xb : Nat → Nat) (xe : Nat → Nat) (xt : Nat → Nat) (xz : Nat → Nat) (hh : Nat) (ht : Nat) (hk : Nat) (hs : Int32) (sn : Int32) (se : Int32) (nv : (Nat → Int32)) (nq : (Nat → Int32)) (bv : (Nat → Int32)) (bq : (Nat → Int32)) (zv : (Nat → Int32)) (zq : (Nat → Int32)) (hn : Nat) (xs : (Nat → Nat → Nat)) (vs : (Nat → Nat → Int32)) (qs : (Nat → Nat → Int32)) (sz : Nat)  (hn4 : hn ≤ 4) : Met l yX6_restore wsX6_restore ({ frames := 4, cells := 0, slots := 0, locals := 86 }) (Pre G [.ref h] (SC h xn xb xe xt xz hh ht hs sn se ++ LC G xn nv nq ++ LC G xb bv bq ++ LC G xz zv zq ++ HB G hh hk hn xs vs qs) sz) (PI G (va_A (SC h xn xb xe xt xz hh ht hs sn se ++ LC G xn nv nq ++ LC G xb bv bq ++ LC G xz zv zq ++ HB G hh hk hn xs vs qs) sz) (fun r (u : (Nat → Int32) × (Nat → Int32) × (Nat → Int32) × (Nat → Int32) × Nat × (Nat → Nat → Nat) × (Nat → Nat → Int32) × (Nat → Nat → Int32)) => f_X6_restore hs nv nq bv bq zv zq hn xs vs qs = (r, u)) (fun u : (Nat → Int32) × (Nat → Int32) × (Nat → Int32) × (Nat → Int32) × Nat × (Nat → Nat → Nat) × (Nat → Nat → Int32) × (Nat → Nat → Int32) => SC h xn xb xe xt xz hh ht hs sn se ++ LC G xn u.1 u.2.1 ++ LC G xb u.2.2.1 u.2.2.2.1 ++ LC G xz zv zq ++ HB G hh hk u.2.2.2.2.1 u.2.2.2.2.2.1 u.2.2.2.2.2.2.1 u.2.2.2.2.2.2.2)) 0 0 (va_A (SC h xn xb xe xt xz hh ht hs sn se ++ LC G xn nv nq ++ LC G xb bv bq ++ LC G xz zv zq ++ HB G hh hk hn xs vs qs) sz) := by
  refine Met.walk (cc := cX6_restore) (maxL := 1) (ret := (some .int)) (Qc := fun A => PI G A (fun r (u : (Nat → Int32) × (Nat → Int32) × (Nat → Int32) × (Nat → Int32) × Nat × (Nat → Nat → Nat) × (Nat → Nat → Int32) × (Nat → Nat → Int32)) => f_X6_restore hs nv nq bv bq zv zq hn xs vs qs = (r, u)) (fun u : (Nat → Int32) × (Nat → Int32) × (Nat → Int32) × (Nat → Int32) × Nat × (Nat → Nat → Nat) × (Nat → Nat → Int32) × (Nat → Nat → Int32) => SC h xn xb xe xt xz hh ht hs sn se ++ LC G xn u.1 u.2.1 ++ LC G xb u.2.2.1 u.2.2.2.1 ++ LC G xz zv zq ++ HB G hh hk u.2.2.2.2.1 u.2.2.2.2.2.1 u.2.2.2.2.2.2.1 u.2.2.2.2.2.2.2)) (by decide) rfl (Nat.le_of_ble_eq_true rfl) ?_
  intro p e s m below meth c A H C0 _ hK hsz hP hD hA hS ls hl
  have hx := C0.1
  have hb := C0.2.1
  have hown : s.vm.findClass RX6 = some m.cls := C0.2.2.2.2.1
  have hml := C0.2.2.2.1
  have hts : ∀ w ∈ wsX6_restore, w.before [.ref h].toArray s = true := C0.2.2.2.2.2.1
  have hl : lv_has ls 1 [(0, .ref h)] := hl
  refine lv_aload_n hx hb dX6_restore_0 rfl (lv_at hl 0 rfl) ?_
  refine va_get (D := G.1) (ci := 6) (v := .int hs) (C := RX6) (T := TX6) (N := 10) hx hb hts in_X6_restore_RX6 hown hK.1 hP 0 rfl rfl 7 (by decide) (hts _ k_X6_restore_f42) (fun _ h9 => h9) rfl dX6_restore_1 ?_
  refine lv_if_ne (tgt := 10) hx hb dX6_restore_4 (by decide) (fun c_1 => ?_) (fun c_1 => ?_)
  · refine lv_aload_n hx hb dX6_restore_10 rfl (lv_at hl 0 rfl) ?_
    refine va_get (D := G.1) (ci := 6) (v := .ref (xb 0)) (C := RX6) (T := TX6) (N := 10) hx hb hts in_X6_restore_RX6 hown hK.1 hP 0 rfl rfl 1 (by decide) (hts _ k_X6_restore_f16) (fun _ h9 => h9) rfl dX6_restore_11 ?_
    refine lv_aload_n hx hb dX6_restore_14 rfl (lv_at hl 0 rfl) ?_
    refine va_get (D := G.1) (ci := 6) (v := .ref (xn 0)) (C := RX6) (T := TX6) (N := 10) hx hb hts in_X6_restore_RX6 hown hK.1 hP 0 rfl rfl 0 (by decide) (hts _ k_X6_restore_f10) (fun _ h9 => h9) rfl dX6_restore_15 ?_
    have hW : BW G A [SC h xn xb xe xt xz hh ht hs sn se, LC G xn nv nq, LC G xb bv bq, LC G xz zv zq, HB G hh hk hn xs vs qs] H := BW.of hP hD
    refine gcallB_V (bc := [LC G xb bv bq, LC G xn nv nq]) (runB_V (As := [.ref (xn 0)]) (rest := []) (bc := [LC G xb bv bq, LC G xn nv nq]) C0 hK hW (c_X2_copyFrom l G xb xn bv bq nv nq H.size ) (cwV 1 hts gX6_restore_X2_copyFrom rfl rfl rfl cd_X2_copyFrom ⟨Nat.le_of_ble_eq_true rfl, Nat.le_of_ble_eq_true rfl⟩) [2, 1] rfl rfl rfl 2 0 rfl (ci := 2) rfl rfl rfl rfl hl.1 rfl (Nat.le_of_ble_eq_true rfl) dX6_restore_18 ⟨Nat.le_of_ble_eq_true rfl, Nat.le_of_ble_eq_true rfl⟩) hW hS hA [2, 1] rfl rfl rfl (fun u => [LC G xb u.1 u.2, LC G xn nv nq]) (fun _ => rfl) (fun _ => rfl) (fun u_2 H locs hw_2 hW hS => ?_)
    obtain ⟨hP, hD⟩ := hW.flat
    obtain ⟨v_c2, q_c2⟩ := u_2
    simp only [f_X2_copyFrom, Prod.mk.injEq] at hw_2
    obtain ⟨rfl, rfl⟩ := hw_2
    have hP : va_P G.1 vwCl (SC h xn xb xe xt xz hh ht hs sn se ++ LC G xn nv nq ++ LC G xb nv nq ++ LC G xz zv zq ++ HB G hh hk hn xs vs qs) H := hP
    have hD : va_D A (SC h xn xb xe xt xz hh ht hs sn se ++ LC G xn nv nq ++ LC G xb nv nq ++ LC G xz zv zq ++ HB G hh hk hn xs vs qs) := hD
    refine lv_aload_n hx hb dX6_restore_21 rfl (lv_at hl 0 rfl) ?_
    refine va_get (D := G.1) (ci := 6) (v := .ref (xn 0)) (C := RX6) (T := TX6) (N := 10) hx hb hts in_X6_restore_RX6 hown hK.1 hP 0 rfl rfl 0 (by decide) (hts _ k_X6_restore_f10) (fun _ h9 => h9) rfl dX6_restore_22 ?_
    refine lv_aload_n hx hb dX6_restore_25 rfl (lv_at hl 0 rfl) ?_
    refine va_get (D := G.1) (ci := 6) (v := .ref (xz 0)) (C := RX6) (T := TX6) (N := 10) hx hb hts in_X6_restore_RX6 hown hK.1 hP 0 rfl rfl 4 (by decide) (hts _ k_X6_restore_f25) (fun _ h9 => h9) rfl dX6_restore_26 ?_
    have hW : BW G A [SC h xn xb xe xt xz hh ht hs sn se, LC G xn nv nq, LC G xb nv nq, LC G xz zv zq, HB G hh hk hn xs vs qs] H := BW.of hP hD
    refine gcallB_V (bc := [LC G xn nv nq, LC G xz zv zq]) (runB_V (As := [.ref (xz 0)]) (rest := []) (bc := [LC G xn nv nq, LC G xz zv zq]) C0 hK hW (c_X2_copyFrom l G xn xz nv nq zv zq H.size ) (cwV 1 hts gX6_restore_X2_copyFrom rfl rfl rfl cd_X2_copyFrom ⟨Nat.le_of_ble_eq_true rfl, Nat.le_of_ble_eq_true rfl⟩) [1, 3] rfl rfl rfl 1 0 rfl (ci := 2) rfl rfl rfl rfl hl.1 rfl (Nat.le_of_ble_eq_true rfl) dX6_restore_29 ⟨Nat.le_of_ble_eq_true rfl, Nat.le_of_ble_eq_true rfl⟩) hW hS hA [1, 3] rfl rfl rfl (fun u => [LC G xn u.1 u.2, LC G xz zv zq]) (fun _ => rfl) (fun _ => rfl) (fun u_3 H locs hw_3 hW hS => ?_)
    obtain ⟨hP, hD⟩ := hW.flat
    obtain ⟨v_c3, q_c3⟩ := u_3
    simp only [f_X2_copyFrom, Prod.mk.injEq] at hw_3
    obtain ⟨rfl, rfl⟩ := hw_3
    have hP : va_P G.1 vwCl (SC h xn xb xe xt xz hh ht hs sn se ++ LC G xn zv zq ++ LC G xb nv nq ++ LC G xz zv zq ++ HB G hh hk hn xs vs qs) H := hP
    have hD : va_D A (SC h xn xb xe xt xz hh ht hs sn se ++ LC G xn zv zq ++ LC G xb nv nq ++ LC G xz zv zq ++ HB G hh hk hn xs vs qs) := hD
    refine lv_aload_n hx hb dX6_restore_32 rfl (lv_at hl 0 rfl) ?_
    refine lv_aload_n hx hb dX6_restore_33 rfl (lv_at hl 0 rfl) ?_
    refine va_get (D := G.1) (ci := 6) (v := .ref (xn 0)) (C := RX6) (T := TX6) (N := 10) hx hb hts in_X6_restore_RX6 hown hK.1 hP 0 rfl rfl 0 (by decide) (hts _ k_X6_restore_f10) (fun _ h9 => h9) rfl dX6_restore_34 ?_
    refine va_get (D := G.1) (ci := 2) (v := .int (zv 12)) (C := RX2) (T := TX2) (N := 14) hx hb hts in_X6_restore_RX2 hown hK.1 hP 1 rfl rfl 3 (by decide) (hts _ k_X6_restore_f109) (fun _ h9 => h9) rfl dX6_restore_37 ?_
    have hW : BW G A [SC h xn xb xe xt xz hh ht hs sn se, LC G xn zv zq, LC G xb nv nq, LC G xz zv zq, HB G hh hk hn xs vs qs] H := BW.of hP hD
    refine gcallB_I (bc := [SC h xn xb xe xt xz hh ht hs sn se, LC G xb nv nq, HB G hh hk hn xs vs qs]) (runB_V (As := [.int (zv 12)]) (rest := []) (bc := [SC h xn xb xe xt xz hh ht hs sn se, LC G xb nv nq, HB G hh hk hn xs vs qs]) C0 hK hW (c_X6_recorded l G h xn xb xe xt xz hh ht hk hs sn se nv nq hn xs vs qs H.size (zv 12) hn4) (cwV 1 hts gX6_restore_X6_recorded rfl rfl rfl cd_X6_recorded ⟨Nat.le_of_ble_eq_true rfl, Nat.le_of_ble_eq_true rfl⟩) [0, 2, 4] rfl rfl rfl 0 0 rfl (ci := 6) rfl rfl rfl rfl hl.1 rfl (Nat.le_of_ble_eq_true rfl) dX6_restore_40 ⟨Nat.le_of_ble_eq_true rfl, Nat.le_of_ble_eq_true rfl⟩) hW hS hA [0, 2, 4] rfl rfl rfl (fun u => [SC h xn xb xe xt xz hh ht hs sn se, LC G xb nv nq, HB G hh hk u.1 u.2.1 u.2.2.1 u.2.2.2]) (fun _ => rfl) (fun _ => rfl) (fun r_4 u_4 H locs hw_4 hW hS => ?_)
    obtain ⟨hP, hD⟩ := hW.flat
    obtain ⟨hn_c4, xs_c4, vs_c4, qs_c4⟩ := u_4
    have hP : va_P G.1 vwCl (SC h xn xb xe xt xz hh ht hs sn se ++ LC G xn zv zq ++ LC G xb nv nq ++ LC G xz zv zq ++ HB G hh hk hn_c4 xs_c4 vs_c4 qs_c4) H := hP
    have hD : va_D A (SC h xn xb xe xt xz hh ht hs sn se ++ LC G xn zv zq ++ LC G xb nv nq ++ LC G xz zv zq ++ HB G hh hk hn_c4 xs_c4 vs_c4 qs_c4) := hD
    exact end_I C0 hP hD hS (zv, zq, nv, nq, hn_c4, xs_c4, vs_c4, qs_c4) (by simp only [f_X6_restore, if_neg c_1, hw_4]) rfl dX6_restore_43
  · refine lv_bipush (v := (-5)) hx hb dX6_restore_7 (by decide) ?_
    exact end_I C0 hP hD hS (nv, nq, bv, bq, hn, xs, vs, qs) (by simp only [f_X6_restore, if_pos c_1]) rfl dX6_restore_9
