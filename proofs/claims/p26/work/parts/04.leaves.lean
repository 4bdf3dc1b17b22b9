def f_X6_isWithin (p0 : Int32) (p1 : Int32) (p2 : Int32) : Int32 :=
  if p0 < p1 then
    (nI 0)
  else
    if p2 < p0 then
      (nI 0)
    else
      (nI 1)
theorem cd2_X6_isWithin : yX6_isWithin.cls ≠ "java/lang/invoke/MethodHandle" ∧ yX6_isWithin.cls ≠ "java/lang/invoke/VarHandle" ∧ (parseMethodDescriptor yX6_isWithin.desc).map (fun d => d.parameters.length) = some 3 := by decide +kernel
set_option maxHeartbeats 4000000 in
set_option maxRecDepth 100000 in
theorem c_X6_isWithin (l : Launch) (G : GG)   (sz : Nat) (p0 : Int32) (p1 : Int32) (p2 : Int32)  : Met l yX6_isWithin wsX6_isWithin ({ frames := 0, cells := 0, slots := 0, locals := 0 }) (Pre G [.int p0, .int p1, .int p2] (([] : va_W)) sz) (PI G (va_A (([] : va_W)) sz) (fun r (u : Unit) => f_X6_isWithin p0 p1 p2 = r ∧ (r = nI 0 ∨ r = nI 1)) (fun _ : Unit => ([] : va_W))) 0 0 (va_A (([] : va_W)) sz) := by
  refine Met.walk (cc := cX6_isWithin) (maxL := 3) (ret := (some .boolean)) (Qc := fun A => PI G A (fun r (u : Unit) => f_X6_isWithin p0 p1 p2 = r ∧ (r = nI 0 ∨ r = nI 1)) (fun _ : Unit => ([] : va_W))) (by decide) rfl (Nat.le_of_ble_eq_true rfl) ?_
  intro p e s m below meth c A H C0 _ hK hsz hP hD hA hS ls hl
  have hx := C0.1
  have hb := C0.2.1
  have hown : s.vm.findClass RX6 = some m.cls := C0.2.2.2.2.1
  have hml := C0.2.2.2.1
  have hts : ∀ w ∈ wsX6_isWithin, w.before [.int p0, .int p1, .int p2].toArray s = true := C0.2.2.2.2.2.1
  have hl : lv_has ls 3 [(0, .int p0), (1, .int p1), (2, .int p2)] := hl
  refine lv_iload_n hx hb dX6_isWithin_0 rfl (lv_at hl 0 rfl) ?_
  refine lv_iload_n hx hb dX6_isWithin_1 rfl (lv_at hl 1 rfl) ?_
  refine lv_icmp_lt (tgt := 14) hx hb dX6_isWithin_2 (by decide) (fun c_1 => ?_) (fun c_1 => ?_)
  · refine lv_iconst (v := (nI 0)) hx hb dX6_isWithin_14 (by decide) ?_
    exact end_Z C0 (by decide) hP hD hS () ⟨(by simp only [f_X6_isWithin, if_pos c_1]), by decide⟩ rfl dX6_isWithin_15
  · refine lv_iload_n hx hb dX6_isWithin_5 rfl (lv_at hl 0 rfl) ?_
    refine lv_iload_n hx hb dX6_isWithin_6 rfl (lv_at hl 2 rfl) ?_
    refine lv_icmp_gt (tgt := 14) hx hb dX6_isWithin_7 (by decide) (fun c_2 => ?_) (fun c_2 => ?_)
    · refine lv_iconst (v := (nI 0)) hx hb dX6_isWithin_14 (by decide) ?_
      exact end_Z C0 (by decide) hP hD hS () ⟨(by simp only [f_X6_isWithin, if_neg c_1, if_pos c_2]), by decide⟩ rfl dX6_isWithin_15
    · refine lv_iconst (v := (nI 1)) hx hb dX6_isWithin_10 (by decide) ?_
      refine lv_goto (tgt := 15) hx hb dX6_isWithin_11 (by decide) ?_
      exact end_Z C0 (by decide) hP hD hS () ⟨(by simp only [f_X6_isWithin, if_neg c_1, if_neg c_2]), by decide⟩ rfl dX6_isWithin_15

def f_X6_ticksOf (p0 : Int32) : Int32 :=
  if p0 = nI 0 then
    (nI 4)
  else
    if p0 = nI 1 then
      (nI 6)
    else
      if p0 = nI 2 then
        (nI 9)
      else
        (nI 0)
theorem cd2_X6_ticksOf : yX6_ticksOf.cls ≠ "java/lang/invoke/MethodHandle" ∧ yX6_ticksOf.cls ≠ "java/lang/invoke/VarHandle" ∧ (parseMethodDescriptor yX6_ticksOf.desc).map (fun d => d.parameters.length) = some 1 := by decide +kernel
set_option maxHeartbeats 4000000 in
set_option maxRecDepth 100000 in
theorem c_X6_ticksOf (l : Launch) (G : GG)   (sz : Nat) (p0 : Int32)  : Met l yX6_ticksOf wsX6_ticksOf ({ frames := 0, cells := 0, slots := 0, locals := 0 }) (Pre G [.int p0] (([] : va_W)) sz) (PI G (va_A (([] : va_W)) sz) (fun r (_ : Unit) => f_X6_ticksOf p0 = r) (fun _ : Unit => ([] : va_W))) 0 0 (va_A (([] : va_W)) sz) := by
  refine Met.walk (cc := cX6_ticksOf) (maxL := 1) (ret := (some .int)) (Qc := fun A => PI G A (fun r (_ : Unit) => f_X6_ticksOf p0 = r) (fun _ : Unit => ([] : va_W))) (by decide) rfl (Nat.le_of_ble_eq_true rfl) ?_
  intro p e s m below meth c A H C0 _ hK hsz hP hD hA hS ls hl
  have hx := C0.1
  have hb := C0.2.1
  have hown : s.vm.findClass RX6 = some m.cls := C0.2.2.2.2.1
  have hml := C0.2.2.2.1
  have hts : ∀ w ∈ wsX6_ticksOf, w.before [.int p0].toArray s = true := C0.2.2.2.2.2.1
  have hl : lv_has ls 1 [(0, .int p0)] := hl
  refine lv_iload_n hx hb dX6_ticksOf_0 rfl (lv_at hl 0 rfl) ?_
  by_cases c_1 : p0 = nI 0
  · refine lv_tableIn (tgt := 28) hx hb dX6_ticksOf_1 (by rw [c_1]; decide +kernel) (by rw [c_1]; decide +kernel) (by rw [c_1]; rfl) (by decide) ?_
    refine lv_iconst (v := (nI 4)) hx hb dX6_ticksOf_28 (by decide) ?_
    exact end_I C0 hP hD hS () (by simp only [f_X6_ticksOf, if_pos c_1]) rfl dX6_ticksOf_29
  · by_cases c_2 : p0 = nI 1
    · refine lv_tableIn (tgt := 30) hx hb dX6_ticksOf_1 (by rw [c_2]; decide +kernel) (by rw [c_2]; decide +kernel) (by rw [c_2]; rfl) (by decide) ?_
      refine lv_bipush (v := (nI 6)) hx hb dX6_ticksOf_30 (by decide) ?_
      exact end_I C0 hP hD hS () (by simp only [f_X6_ticksOf, if_neg c_1, if_pos c_2]) rfl dX6_ticksOf_32
    · by_cases c_3 : p0 = nI 2
      · refine lv_tableIn (tgt := 33) hx hb dX6_ticksOf_1 (by rw [c_3]; decide +kernel) (by rw [c_3]; decide +kernel) (by rw [c_3]; rfl) (by decide) ?_
        refine lv_bipush (v := (nI 9)) hx hb dX6_ticksOf_33 (by decide) ?_
        exact end_I C0 hP hD hS () (by simp only [f_X6_ticksOf, if_neg c_1, if_neg c_2, if_pos c_3]) rfl dX6_ticksOf_35
      · have z_c_1 := lv_neT c_1 (show (nI 0).toInt = 0 from by decide +kernel)
        have z_c_2 := lv_neT c_2 (show (nI 1).toInt = 1 from by decide +kernel)
        have z_c_3 := lv_neT c_3 (show (nI 2).toInt = 2 from by decide +kernel)
        refine lv_tableOut (tgt := 36) hx hb dX6_ticksOf_1 (by omega) (by decide) ?_
        refine lv_iconst (v := (nI 0)) hx hb dX6_ticksOf_36 (by decide) ?_
        exact end_I C0 hP hD hS () (by simp only [f_X6_ticksOf, if_neg c_1, if_neg c_2, if_neg c_3]) rfl dX6_ticksOf_37

def f_X6_steamOf (p0 : Int32) : Int32 :=
  if p0 = nI 0 then
    (nI 2)
  else
    if p0 = nI 1 then
      (nI 4)
    else
      if p0 = nI 2 then
        (nI 6)
      else
        (nI 0)
theorem cd2_X6_steamOf : yX6_steamOf.cls ≠ "java/lang/invoke/MethodHandle" ∧ yX6_steamOf.cls ≠ "java/lang/invoke/VarHandle" ∧ (parseMethodDescriptor yX6_steamOf.desc).map (fun d => d.parameters.length) = some 1 := by decide +kernel
set_option maxHeartbeats 4000000 in
set_option maxRecDepth 100000 in
theorem c_X6_steamOf (l : Launch) (G : GG)   (sz : Nat) (p0 : Int32)  : Met l yX6_steamOf wsX6_steamOf ({ frames := 0, cells := 0, slots := 0, locals := 0 }) (Pre G [.int p0] (([] : va_W)) sz) (PI G (va_A (([] : va_W)) sz) (fun r (_ : Unit) => f_X6_steamOf p0 = r) (fun _ : Unit => ([] : va_W))) 0 0 (va_A (([] : va_W)) sz) := by
  refine Met.walk (cc := cX6_steamOf) (maxL := 1) (ret := (some .int)) (Qc := fun A => PI G A (fun r (_ : Unit) => f_X6_steamOf p0 = r) (fun _ : Unit => ([] : va_W))) (by decide) rfl (Nat.le_of_ble_eq_true rfl) ?_
  intro p e s m below meth c A H C0 _ hK hsz hP hD hA hS ls hl
  have hx := C0.1
  have hb := C0.2.1
  have hown : s.vm.findClass RX6 = some m.cls := C0.2.2.2.2.1
  have hml := C0.2.2.2.1
  have hts : ∀ w ∈ wsX6_steamOf, w.before [.int p0].toArray s = true := C0.2.2.2.2.2.1
  have hl : lv_has ls 1 [(0, .int p0)] := hl
  refine lv_iload_n hx hb dX6_steamOf_0 rfl (lv_at hl 0 rfl) ?_
  by_cases c_1 : p0 = nI 0
  · refine lv_tableIn (tgt := 28) hx hb dX6_steamOf_1 (by rw [c_1]; decide +kernel) (by rw [c_1]; decide +kernel) (by rw [c_1]; rfl) (by decide) ?_
    refine lv_iconst (v := (nI 2)) hx hb dX6_steamOf_28 (by decide) ?_
    exact end_I C0 hP hD hS () (by simp only [f_X6_steamOf, if_pos c_1]) rfl dX6_steamOf_29
  · by_cases c_2 : p0 = nI 1
    · refine lv_tableIn (tgt := 30) hx hb dX6_steamOf_1 (by rw [c_2]; decide +kernel) (by rw [c_2]; decide +kernel) (by rw [c_2]; rfl) (by decide) ?_
      refine lv_iconst (v := (nI 4)) hx hb dX6_steamOf_30 (by decide) ?_
      exact end_I C0 hP hD hS () (by simp only [f_X6_steamOf, if_neg c_1, if_pos c_2]) rfl dX6_steamOf_31
    · by_cases c_3 : p0 = nI 2
      · refine lv_tableIn (tgt := 32) hx hb dX6_steamOf_1 (by rw [c_3]; decide +kernel) (by rw [c_3]; decide +kernel) (by rw [c_3]; rfl) (by decide) ?_
        refine lv_bipush (v := (nI 6)) hx hb dX6_steamOf_32 (by decide) ?_
        exact end_I C0 hP hD hS () (by simp only [f_X6_steamOf, if_neg c_1, if_neg c_2, if_pos c_3]) rfl dX6_steamOf_34
      · have z_c_1 := lv_neT c_1 (show (nI 0).toInt = 0 from by decide +kernel)
        have z_c_2 := lv_neT c_2 (show (nI 1).toInt = 1 from by decide +kernel)
        have z_c_3 := lv_neT c_3 (show (nI 2).toInt = 2 from by decide +kernel)
        refine lv_tableOut (tgt := 35) hx hb dX6_steamOf_1 (by omega) (by decide) ?_
        refine lv_iconst (v := (nI 0)) hx hb dX6_steamOf_35 (by decide) ?_
        exact end_I C0 hP hD hS () (by simp only [f_X6_steamOf, if_neg c_1, if_neg c_2, if_neg c_3]) rfl dX6_steamOf_36

def f_X6_worthOf (p0 : Int32) : Int32 :=
  if p0 = nI 0 then
    (nI 3)
  else
    if p0 = nI 1 then
      (nI 5)
    else
      if p0 = nI 2 then
        (nI 9)
      else
        (nI 0)
theorem cd2_X6_worthOf : yX6_worthOf.cls ≠ "java/lang/invoke/MethodHandle" ∧ yX6_worthOf.cls ≠ "java/lang/invoke/VarHandle" ∧ (parseMethodDescriptor yX6_worthOf.desc).map (fun d => d.parameters.length) = some 1 := by decide +kernel
set_option maxHeartbeats 4000000 in
set_option maxRecDepth 100000 in
theorem c_X6_worthOf (l : Launch) (G : GG)   (sz : Nat) (p0 : Int32)  : Met l yX6_worthOf wsX6_worthOf ({ frames := 0, cells := 0, slots := 0, locals := 0 }) (Pre G [.int p0] (([] : va_W)) sz) (PI G (va_A (([] : va_W)) sz) (fun r (_ : Unit) => f_X6_worthOf p0 = r) (fun _ : Unit => ([] : va_W))) 0 0 (va_A (([] : va_W)) sz) := by
  refine Met.walk (cc := cX6_worthOf) (maxL := 1) (ret := (some .int)) (Qc := fun A => PI G A (fun r (_ : Unit) => f_X6_worthOf p0 = r) (fun _ : Unit => ([] : va_W))) (by decide) rfl (Nat.le_of_ble_eq_true rfl) ?_
  intro p e s m below meth c A H C0 _ hK hsz hP hD hA hS ls hl
  have hx := C0.1
  have hb := C0.2.1
  have hown : s.vm.findClass RX6 = some m.cls := C0.2.2.2.2.1
  have hml := C0.2.2.2.1
  have hts : ∀ w ∈ wsX6_worthOf, w.before [.int p0].toArray s = true := C0.2.2.2.2.2.1
  have hl : lv_has ls 1 [(0, .int p0)] := hl
  refine lv_iload_n hx hb dX6_worthOf_0 rfl (lv_at hl 0 rfl) ?_
  by_cases c_1 : p0 = nI 0
  · refine lv_tableIn (tgt := 28) hx hb dX6_worthOf_1 (by rw [c_1]; decide +kernel) (by rw [c_1]; decide +kernel) (by rw [c_1]; rfl) (by decide) ?_
    refine lv_iconst (v := (nI 3)) hx hb dX6_worthOf_28 (by decide) ?_
    exact end_I C0 hP hD hS () (by simp only [f_X6_worthOf, if_pos c_1]) rfl dX6_worthOf_29
  · by_cases c_2 : p0 = nI 1
    · refine lv_tableIn (tgt := 30) hx hb dX6_worthOf_1 (by rw [c_2]; decide +kernel) (by rw [c_2]; decide +kernel) (by rw [c_2]; rfl) (by decide) ?_
      refine lv_iconst (v := (nI 5)) hx hb dX6_worthOf_30 (by decide) ?_
      exact end_I C0 hP hD hS () (by simp only [f_X6_worthOf, if_neg c_1, if_pos c_2]) rfl dX6_worthOf_31
    · by_cases c_3 : p0 = nI 2
      · refine lv_tableIn (tgt := 32) hx hb dX6_worthOf_1 (by rw [c_3]; decide +kernel) (by rw [c_3]; decide +kernel) (by rw [c_3]; rfl) (by decide) ?_
        refine lv_bipush (v := (nI 9)) hx hb dX6_worthOf_32 (by decide) ?_
        exact end_I C0 hP hD hS () (by simp only [f_X6_worthOf, if_neg c_1, if_neg c_2, if_pos c_3]) rfl dX6_worthOf_34
      · have z_c_1 := lv_neT c_1 (show (nI 0).toInt = 0 from by decide +kernel)
        have z_c_2 := lv_neT c_2 (show (nI 1).toInt = 1 from by decide +kernel)
        have z_c_3 := lv_neT c_3 (show (nI 2).toInt = 2 from by decide +kernel)
        refine lv_tableOut (tgt := 35) hx hb dX6_worthOf_1 (by omega) (by decide) ?_
        refine lv_iconst (v := (nI 0)) hx hb dX6_worthOf_35 (by decide) ?_
        exact end_I C0 hP hD hS () (by simp only [f_X6_worthOf, if_neg c_1, if_neg c_2, if_neg c_3]) rfl dX6_worthOf_36

def f_X0_burn (bf : Int32) (bw : Int32) (bp : Int32) (bl : Int32) (p0 : Int32) : Int32 × Int32 × Int32 × Int32 × Int32 :=
  if bl ≤ 0 then
    if p0 < bf then
      ((nI 0), (nI 0), bw, bp, bl)
    else
      if bf ≤ bw then
        (bf, bf, (bw - bf), (bp + ((nI 3) * bf)), bl)
      else
        ((nI 0), (nI 0), bw, bp, bl)
  else
    ((nI 0), bf, bw, bp, (bl - (nI 1)))
set_option maxRecDepth 20000 in
theorem k_X0_burn_f15 : Cond.fieldLink RX0 15 "SteamRations$Boiler" "fire" "I" ∈ wsX0_burn := by decide +kernel
set_option maxRecDepth 20000 in
theorem k_X0_burn_f18 : Cond.fieldLink RX0 18 "SteamRations$Boiler" "pressure" "I" ∈ wsX0_burn := by decide +kernel
set_option maxRecDepth 20000 in
theorem k_X0_burn_f21 : Cond.fieldLink RX0 21 "SteamRations$Boiler" "stopLeft" "I" ∈ wsX0_burn := by decide +kernel
set_option maxRecDepth 20000 in
theorem k_X0_burn_f9 : Cond.fieldLink RX0 9 "SteamRations$Boiler" "water" "I" ∈ wsX0_burn := by decide +kernel
set_option maxRecDepth 20000 in
theorem in_X0_burn_RX0 : ∀ w ∈ u_ws RX0 TX0 5, w ∈ wsX0_burn := by decide +kernel
theorem cd_X0_burn : yX0_burn.cls = RX0 ∧ yX0_burn.cls ≠ "java/lang/invoke/MethodHandle" ∧ yX0_burn.cls ≠ "java/lang/invoke/VarHandle" ∧ (parseMethodDescriptor yX0_burn.desc).map (fun d => d.parameters.length) = some 1 := by decide +kernel
set_option maxHeartbeats 4000000 in
set_option maxRecDepth 100000 in
theorem c_X0_burn (l : Launch) (G : GG) (h0 : Nat) (bf : Int32) (bw : Int32) (bp : Int32) (bl : Int32) (bs : Int32) (sz : Nat) (p0 : Int32)  : Met l yX0_burn wsX0_burn ({ frames := 0, cells := 0, slots := 0, locals := 0 }) (Pre G [.ref h0, .int p0] (BL h0 bf bw bp bl bs) sz) (PI G (va_A (BL h0 bf bw bp bl bs) sz) (fun r (u : Int32 × Int32 × Int32 × Int32) => f_X0_burn bf bw bp bl p0 = (r, u)) (fun u : Int32 × Int32 × Int32 × Int32 => BL h0 u.1 u.2.1 u.2.2.1 u.2.2.2 bs)) 0 0 (va_A (BL h0 bf bw bp bl bs) sz) := by
  refine Met.walk (cc := cX0_burn) (maxL := 2) (ret := (some .int)) (Qc := fun A => PI G A (fun r (u : Int32 × Int32 × Int32 × Int32) => f_X0_burn bf bw bp bl p0 = (r, u)) (fun u : Int32 × Int32 × Int32 × Int32 => BL h0 u.1 u.2.1 u.2.2.1 u.2.2.2 bs)) (by decide) rfl (Nat.le_of_ble_eq_true rfl) ?_
  intro p e s m below meth c A H C0 _ hK hsz hP hD hA hS ls hl
  have hx := C0.1
  have hb := C0.2.1
  have hown : s.vm.findClass RX0 = some m.cls := C0.2.2.2.2.1
  have hml := C0.2.2.2.1
  have hts : ∀ w ∈ wsX0_burn, w.before [.ref h0, .int p0].toArray s = true := C0.2.2.2.2.2.1
  have hl : lv_has ls 2 [(0, .ref h0), (1, .int p0)] := hl
  refine lv_aload_n hx hb dX0_burn_0 rfl (lv_at hl 0 rfl) ?_
  refine va_get (D := G.1) (ci := 0) (v := .int bl) (C := RX0) (T := TX0) (N := 5) hx hb hts in_X0_burn_RX0 hown hK.1 hP 0 rfl rfl 3 (by decide) (hts _ k_X0_burn_f21) (fun _ h9 => h9) rfl dX0_burn_1 ?_
  refine lv_if_le (tgt := 19) hx hb dX0_burn_4 (by decide) (fun c_1 => ?_) (fun c_1 => ?_)
  · refine lv_iload_n hx hb dX0_burn_19 rfl (lv_at hl 1 rfl) ?_
    refine lv_aload_n hx hb dX0_burn_20 rfl (lv_at hl 0 rfl) ?_
    refine va_get (D := G.1) (ci := 0) (v := .int bf) (C := RX0) (T := TX0) (N := 5) hx hb hts in_X0_burn_RX0 hown hK.1 hP 0 rfl rfl 0 (by decide) (hts _ k_X0_burn_f15) (fun _ h9 => h9) rfl dX0_burn_21 ?_
    refine lv_icmp_lt (tgt := 38) hx hb dX0_burn_24 (by decide) (fun c_2 => ?_) (fun c_2 => ?_)
    · refine lv_aload_n hx hb dX0_burn_38 rfl (lv_at hl 0 rfl) ?_
      refine lv_iconst (v := (nI 0)) hx hb dX0_burn_39 (by decide) ?_
      refine va_put (D := G.1) (ci := 0) (v := .int (nI 0)) (ty := .int) (C := RX0) (T := TX0) (N := 5) hx hb hts in_X0_burn_RX0 tyX0 tyX0_ok nmX0 hown hK.1 hP hD hS 0 rfl rfl 0 (by decide) (hts _ k_X0_burn_f15) (fun _ h9 => h9) rfl (by decide +kernel) rfl rfl (Nat.le_of_ble_eq_true rfl) dX0_burn_40 (fun H locs hP hD hS => ?_)
      have hP : va_P G.1 vwCl (BL h0 (nI 0) bw bp bl bs) H := hP
      have hD : va_D A (BL h0 (nI 0) bw bp bl bs) := hD
      refine lv_iconst (v := (nI 0)) hx hb dX0_burn_43 (by decide) ?_
      exact end_I C0 hP hD hS ((nI 0), bw, bp, bl) (by simp only [f_X0_burn, if_pos c_1, if_pos c_2]) rfl dX0_burn_44
    · refine lv_aload_n hx hb dX0_burn_27 rfl (lv_at hl 0 rfl) ?_
      refine va_get (D := G.1) (ci := 0) (v := .int bw) (C := RX0) (T := TX0) (N := 5) hx hb hts in_X0_burn_RX0 hown hK.1 hP 0 rfl rfl 1 (by decide) (hts _ k_X0_burn_f9) (fun _ h9 => h9) rfl dX0_burn_28 ?_
      refine lv_aload_n hx hb dX0_burn_31 rfl (lv_at hl 0 rfl) ?_
      refine va_get (D := G.1) (ci := 0) (v := .int bf) (C := RX0) (T := TX0) (N := 5) hx hb hts in_X0_burn_RX0 hown hK.1 hP 0 rfl rfl 0 (by decide) (hts _ k_X0_burn_f15) (fun _ h9 => h9) rfl dX0_burn_32 ?_
      refine lv_icmp_ge (tgt := 45) hx hb dX0_burn_35 (by decide) (fun c_3 => ?_) (fun c_3 => ?_)
      · refine lv_aload_n hx hb dX0_burn_45 rfl (lv_at hl 0 rfl) ?_
        refine lv_dup hx hb dX0_burn_46 rfl ?_
        refine va_get (D := G.1) (ci := 0) (v := .int bw) (C := RX0) (T := TX0) (N := 5) hx hb hts in_X0_burn_RX0 hown hK.1 hP 0 rfl rfl 1 (by decide) (hts _ k_X0_burn_f9) (fun _ h9 => h9) rfl dX0_burn_47 ?_
        refine lv_aload_n hx hb dX0_burn_50 rfl (lv_at hl 0 rfl) ?_
        refine va_get (D := G.1) (ci := 0) (v := .int bf) (C := RX0) (T := TX0) (N := 5) hx hb hts in_X0_burn_RX0 hown hK.1 hP 0 rfl rfl 0 (by decide) (hts _ k_X0_burn_f15) (fun _ h9 => h9) rfl dX0_burn_51 ?_
        refine lv_isub hx hb dX0_burn_54 ?_
        refine va_put (D := G.1) (ci := 0) (v := .int (bw - bf)) (ty := .int) (C := RX0) (T := TX0) (N := 5) hx hb hts in_X0_burn_RX0 tyX0 tyX0_ok nmX0 hown hK.1 hP hD hS 0 rfl rfl 1 (by decide) (hts _ k_X0_burn_f9) (fun _ h9 => h9) rfl (by decide +kernel) rfl rfl (Nat.le_of_ble_eq_true rfl) dX0_burn_55 (fun H locs hP hD hS => ?_)
        have hP : va_P G.1 vwCl (BL h0 bf (bw - bf) bp bl bs) H := hP
        have hD : va_D A (BL h0 bf (bw - bf) bp bl bs) := hD
        refine lv_aload_n hx hb dX0_burn_58 rfl (lv_at hl 0 rfl) ?_
        refine lv_dup hx hb dX0_burn_59 rfl ?_
        refine va_get (D := G.1) (ci := 0) (v := .int bp) (C := RX0) (T := TX0) (N := 5) hx hb hts in_X0_burn_RX0 hown hK.1 hP 0 rfl rfl 2 (by decide) (hts _ k_X0_burn_f18) (fun _ h9 => h9) rfl dX0_burn_60 ?_
        refine lv_iconst (v := (nI 3)) hx hb dX0_burn_63 (by decide) ?_
        refine lv_aload_n hx hb dX0_burn_64 rfl (lv_at hl 0 rfl) ?_
        refine va_get (D := G.1) (ci := 0) (v := .int bf) (C := RX0) (T := TX0) (N := 5) hx hb hts in_X0_burn_RX0 hown hK.1 hP 0 rfl rfl 0 (by decide) (hts _ k_X0_burn_f15) (fun _ h9 => h9) rfl dX0_burn_65 ?_
        refine lv_imul hx hb dX0_burn_68 ?_
        refine lv_iadd hx hb dX0_burn_69 ?_
        refine va_put (D := G.1) (ci := 0) (v := .int (bp + ((nI 3) * bf))) (ty := .int) (C := RX0) (T := TX0) (N := 5) hx hb hts in_X0_burn_RX0 tyX0 tyX0_ok nmX0 hown hK.1 hP hD hS 0 rfl rfl 2 (by decide) (hts _ k_X0_burn_f18) (fun _ h9 => h9) rfl (by decide +kernel) rfl rfl (Nat.le_of_ble_eq_true rfl) dX0_burn_70 (fun H locs hP hD hS => ?_)
        have hP : va_P G.1 vwCl (BL h0 bf (bw - bf) (bp + ((nI 3) * bf)) bl bs) H := hP
        have hD : va_D A (BL h0 bf (bw - bf) (bp + ((nI 3) * bf)) bl bs) := hD
        refine lv_aload_n hx hb dX0_burn_73 rfl (lv_at hl 0 rfl) ?_
        refine va_get (D := G.1) (ci := 0) (v := .int bf) (C := RX0) (T := TX0) (N := 5) hx hb hts in_X0_burn_RX0 hown hK.1 hP 0 rfl rfl 0 (by decide) (hts _ k_X0_burn_f15) (fun _ h9 => h9) rfl dX0_burn_74 ?_
        exact end_I C0 hP hD hS (bf, (bw - bf), (bp + ((nI 3) * bf)), bl) (by simp only [f_X0_burn, if_pos c_1, if_neg c_2, if_pos c_3]) rfl dX0_burn_77
      · refine lv_aload_n hx hb dX0_burn_38 rfl (lv_at hl 0 rfl) ?_
        refine lv_iconst (v := (nI 0)) hx hb dX0_burn_39 (by decide) ?_
        refine va_put (D := G.1) (ci := 0) (v := .int (nI 0)) (ty := .int) (C := RX0) (T := TX0) (N := 5) hx hb hts in_X0_burn_RX0 tyX0 tyX0_ok nmX0 hown hK.1 hP hD hS 0 rfl rfl 0 (by decide) (hts _ k_X0_burn_f15) (fun _ h9 => h9) rfl (by decide +kernel) rfl rfl (Nat.le_of_ble_eq_true rfl) dX0_burn_40 (fun H locs hP hD hS => ?_)
        have hP : va_P G.1 vwCl (BL h0 (nI 0) bw bp bl bs) H := hP
        have hD : va_D A (BL h0 (nI 0) bw bp bl bs) := hD
        refine lv_iconst (v := (nI 0)) hx hb dX0_burn_43 (by decide) ?_
        exact end_I C0 hP hD hS ((nI 0), bw, bp, bl) (by simp only [f_X0_burn, if_pos c_1, if_neg c_2, if_neg c_3]) rfl dX0_burn_44
  · refine lv_aload_n hx hb dX0_burn_7 rfl (lv_at hl 0 rfl) ?_
    refine lv_dup hx hb dX0_burn_8 rfl ?_
    refine va_get (D := G.1) (ci := 0) (v := .int bl) (C := RX0) (T := TX0) (N := 5) hx hb hts in_X0_burn_RX0 hown hK.1 hP 0 rfl rfl 3 (by decide) (hts _ k_X0_burn_f21) (fun _ h9 => h9) rfl dX0_burn_9 ?_
    refine lv_iconst (v := (nI 1)) hx hb dX0_burn_12 (by decide) ?_
    refine lv_isub hx hb dX0_burn_13 ?_
    refine va_put (D := G.1) (ci := 0) (v := .int (bl - (nI 1))) (ty := .int) (C := RX0) (T := TX0) (N := 5) hx hb hts in_X0_burn_RX0 tyX0 tyX0_ok nmX0 hown hK.1 hP hD hS 0 rfl rfl 3 (by decide) (hts _ k_X0_burn_f21) (fun _ h9 => h9) rfl (by decide +kernel) rfl rfl (Nat.le_of_ble_eq_true rfl) dX0_burn_14 (fun H locs hP hD hS => ?_)
    have hP : va_P G.1 vwCl (BL h0 bf bw bp (bl - (nI 1)) bs) H := hP
    have hD : va_D A (BL h0 bf bw bp (bl - (nI 1)) bs) := hD
    refine lv_iconst (v := (nI 0)) hx hb dX0_burn_17 (by decide) ?_
    exact end_I C0 hP hD hS (bf, bw, bp, (bl - (nI 1))) (by simp only [f_X0_burn, if_neg c_1]) rfl dX0_burn_18

def f_X0_coolDown (bf : Int32) (bp : Int32) (bl : Int32) (bs : Int32) : Int32 × Int32 × Int32 × Int32 :=
  if bp ≤ 0 then
    if bp ≤ (nI 70) then
      (bf, bp, bl, bs)
    else
      ((nI 0), (nI 30), (nI 10), (bs + (nI 1)))
  else
    if (bp - (nI 1)) ≤ (nI 70) then
      (bf, (bp - (nI 1)), bl, bs)
    else
      ((nI 0), (nI 30), (nI 10), (bs + (nI 1)))
set_option maxRecDepth 20000 in
theorem k_X0_coolDown_f15 : Cond.fieldLink RX0 15 "SteamRations$Boiler" "fire" "I" ∈ wsX0_coolDown := by decide +kernel
set_option maxRecDepth 20000 in
theorem k_X0_coolDown_f18 : Cond.fieldLink RX0 18 "SteamRations$Boiler" "pressure" "I" ∈ wsX0_coolDown := by decide +kernel
set_option maxRecDepth 20000 in
theorem k_X0_coolDown_f21 : Cond.fieldLink RX0 21 "SteamRations$Boiler" "stopLeft" "I" ∈ wsX0_coolDown := by decide +kernel
set_option maxRecDepth 20000 in
theorem k_X0_coolDown_f24 : Cond.fieldLink RX0 24 "SteamRations$Boiler" "stops" "I" ∈ wsX0_coolDown := by decide +kernel
set_option maxRecDepth 20000 in
theorem in_X0_coolDown_RX0 : ∀ w ∈ u_ws RX0 TX0 5, w ∈ wsX0_coolDown := by decide +kernel
theorem cd_X0_coolDown : yX0_coolDown.cls = RX0 ∧ yX0_coolDown.cls ≠ "java/lang/invoke/MethodHandle" ∧ yX0_coolDown.cls ≠ "java/lang/invoke/VarHandle" ∧ (parseMethodDescriptor yX0_coolDown.desc).map (fun d => d.parameters.length) = some 0 := by decide +kernel
set_option maxHeartbeats 4000000 in
set_option maxRecDepth 100000 in
theorem c_X0_coolDown (l : Launch) (G : GG) (h0 : Nat) (bf : Int32) (bw : Int32) (bp : Int32) (bl : Int32) (bs : Int32) (sz : Nat)   : Met l yX0_coolDown wsX0_coolDown ({ frames := 0, cells := 0, slots := 0, locals := 0 }) (Pre G [.ref h0] (BL h0 bf bw bp bl bs) sz) (PV G (va_A (BL h0 bf bw bp bl bs) sz) (fun u : Int32 × Int32 × Int32 × Int32 => f_X0_coolDown bf bp bl bs = u) (fun u : Int32 × Int32 × Int32 × Int32 => BL h0 u.1 bw u.2.1 u.2.2.1 u.2.2.2)) 0 0 (va_A (BL h0 bf bw bp bl bs) sz) := by
  refine Met.walk (cc := cX0_coolDown) (maxL := 1) (ret := none) (Qc := fun A => PV G A (fun u : Int32 × Int32 × Int32 × Int32 => f_X0_coolDown bf bp bl bs = u) (fun u : Int32 × Int32 × Int32 × Int32 => BL h0 u.1 bw u.2.1 u.2.2.1 u.2.2.2)) (by decide) rfl (Nat.le_of_ble_eq_true rfl) ?_
  intro p e s m below meth c A H C0 _ hK hsz hP hD hA hS ls hl
  have hx := C0.1
  have hb := C0.2.1
  have hown : s.vm.findClass RX0 = some m.cls := C0.2.2.2.2.1
  have hml := C0.2.2.2.1
  have hts : ∀ w ∈ wsX0_coolDown, w.before [.ref h0].toArray s = true := C0.2.2.2.2.2.1
  have hl : lv_has ls 1 [(0, .ref h0)] := hl
  refine lv_aload_n hx hb dX0_coolDown_0 rfl (lv_at hl 0 rfl) ?_
  refine va_get (D := G.1) (ci := 0) (v := .int bp) (C := RX0) (T := TX0) (N := 5) hx hb hts in_X0_coolDown_RX0 hown hK.1 hP 0 rfl rfl 2 (by decide) (hts _ k_X0_coolDown_f18) (fun _ h9 => h9) rfl dX0_coolDown_1 ?_
  refine lv_if_le (tgt := 17) hx hb dX0_coolDown_4 (by decide) (fun c_1 => ?_) (fun c_1 => ?_)
  · refine lv_aload_n hx hb dX0_coolDown_17 rfl (lv_at hl 0 rfl) ?_
    refine va_get (D := G.1) (ci := 0) (v := .int bp) (C := RX0) (T := TX0) (N := 5) hx hb hts in_X0_coolDown_RX0 hown hK.1 hP 0 rfl rfl 2 (by decide) (hts _ k_X0_coolDown_f18) (fun _ h9 => h9) rfl dX0_coolDown_18 ?_
    refine lv_bipush (v := (nI 70)) hx hb dX0_coolDown_21 (by decide) ?_
    refine lv_icmp_le (tgt := 53) hx hb dX0_coolDown_23 (by decide) (fun c_2 => ?_) (fun c_2 => ?_)
    · exact end_V C0 hP hD hS (bf, bp, bl, bs) (by simp only [f_X0_coolDown, if_pos c_1, if_pos c_2]) rfl dX0_coolDown_53
    · refine lv_aload_n hx hb dX0_coolDown_26 rfl (lv_at hl 0 rfl) ?_
      refine lv_bipush (v := (nI 30)) hx hb dX0_coolDown_27 (by decide) ?_
      refine va_put (D := G.1) (ci := 0) (v := .int (nI 30)) (ty := .int) (C := RX0) (T := TX0) (N := 5) hx hb hts in_X0_coolDown_RX0 tyX0 tyX0_ok nmX0 hown hK.1 hP hD hS 0 rfl rfl 2 (by decide) (hts _ k_X0_coolDown_f18) (fun _ h9 => h9) rfl (by decide +kernel) rfl rfl (Nat.le_of_ble_eq_true rfl) dX0_coolDown_29 (fun H locs hP hD hS => ?_)
      have hP : va_P G.1 vwCl (BL h0 bf bw (nI 30) bl bs) H := hP
      have hD : va_D A (BL h0 bf bw (nI 30) bl bs) := hD
      refine lv_aload_n hx hb dX0_coolDown_32 rfl (lv_at hl 0 rfl) ?_
      refine lv_iconst (v := (nI 0)) hx hb dX0_coolDown_33 (by decide) ?_
      refine va_put (D := G.1) (ci := 0) (v := .int (nI 0)) (ty := .int) (C := RX0) (T := TX0) (N := 5) hx hb hts in_X0_coolDown_RX0 tyX0 tyX0_ok nmX0 hown hK.1 hP hD hS 0 rfl rfl 0 (by decide) (hts _ k_X0_coolDown_f15) (fun _ h9 => h9) rfl (by decide +kernel) rfl rfl (Nat.le_of_ble_eq_true rfl) dX0_coolDown_34 (fun H locs hP hD hS => ?_)
      have hP : va_P G.1 vwCl (BL h0 (nI 0) bw (nI 30) bl bs) H := hP
      have hD : va_D A (BL h0 (nI 0) bw (nI 30) bl bs) := hD
      refine lv_aload_n hx hb dX0_coolDown_37 rfl (lv_at hl 0 rfl) ?_
      refine lv_bipush (v := (nI 10)) hx hb dX0_coolDown_38 (by decide) ?_
      refine va_put (D := G.1) (ci := 0) (v := .int (nI 10)) (ty := .int) (C := RX0) (T := TX0) (N := 5) hx hb hts in_X0_coolDown_RX0 tyX0 tyX0_ok nmX0 hown hK.1 hP hD hS 0 rfl rfl 3 (by decide) (hts _ k_X0_coolDown_f21) (fun _ h9 => h9) rfl (by decide +kernel) rfl rfl (Nat.le_of_ble_eq_true rfl) dX0_coolDown_40 (fun H locs hP hD hS => ?_)
      have hP : va_P G.1 vwCl (BL h0 (nI 0) bw (nI 30) (nI 10) bs) H := hP
      have hD : va_D A (BL h0 (nI 0) bw (nI 30) (nI 10) bs) := hD
      refine lv_aload_n hx hb dX0_coolDown_43 rfl (lv_at hl 0 rfl) ?_
      refine lv_dup hx hb dX0_coolDown_44 rfl ?_
      refine va_get (D := G.1) (ci := 0) (v := .int bs) (C := RX0) (T := TX0) (N := 5) hx hb hts in_X0_coolDown_RX0 hown hK.1 hP 0 rfl rfl 4 (by decide) (hts _ k_X0_coolDown_f24) (fun _ h9 => h9) rfl dX0_coolDown_45 ?_
      refine lv_iconst (v := (nI 1)) hx hb dX0_coolDown_48 (by decide) ?_
      refine lv_iadd hx hb dX0_coolDown_49 ?_
      refine va_put (D := G.1) (ci := 0) (v := .int (bs + (nI 1))) (ty := .int) (C := RX0) (T := TX0) (N := 5) hx hb hts in_X0_coolDown_RX0 tyX0 tyX0_ok nmX0 hown hK.1 hP hD hS 0 rfl rfl 4 (by decide) (hts _ k_X0_coolDown_f24) (fun _ h9 => h9) rfl (by decide +kernel) rfl rfl (Nat.le_of_ble_eq_true rfl) dX0_coolDown_50 (fun H locs hP hD hS => ?_)
      have hP : va_P G.1 vwCl (BL h0 (nI 0) bw (nI 30) (nI 10) (bs + (nI 1))) H := hP
      have hD : va_D A (BL h0 (nI 0) bw (nI 30) (nI 10) (bs + (nI 1))) := hD
      exact end_V C0 hP hD hS ((nI 0), (nI 30), (nI 10), (bs + (nI 1))) (by simp only [f_X0_coolDown, if_pos c_1, if_neg c_2]) rfl dX0_coolDown_53
  · refine lv_aload_n hx hb dX0_coolDown_7 rfl (lv_at hl 0 rfl) ?_
    refine lv_dup hx hb dX0_coolDown_8 rfl ?_
    refine va_get (D := G.1) (ci := 0) (v := .int bp) (C := RX0) (T := TX0) (N := 5) hx hb hts in_X0_coolDown_RX0 hown hK.1 hP 0 rfl rfl 2 (by decide) (hts _ k_X0_coolDown_f18) (fun _ h9 => h9) rfl dX0_coolDown_9 ?_
    refine lv_iconst (v := (nI 1)) hx hb dX0_coolDown_12 (by decide) ?_
    refine lv_isub hx hb dX0_coolDown_13 ?_
    refine va_put (D := G.1) (ci := 0) (v := .int (bp - (nI 1))) (ty := .int) (C := RX0) (T := TX0) (N := 5) hx hb hts in_X0_coolDown_RX0 tyX0 tyX0_ok nmX0 hown hK.1 hP hD hS 0 rfl rfl 2 (by decide) (hts _ k_X0_coolDown_f18) (fun _ h9 => h9) rfl (by decide +kernel) rfl rfl (Nat.le_of_ble_eq_true rfl) dX0_coolDown_14 (fun H locs hP hD hS => ?_)
    have hP : va_P G.1 vwCl (BL h0 bf bw (bp - (nI 1)) bl bs) H := hP
    have hD : va_D A (BL h0 bf bw (bp - (nI 1)) bl bs) := hD
    refine lv_aload_n hx hb dX0_coolDown_17 rfl (lv_at hl 0 rfl) ?_
    refine va_get (D := G.1) (ci := 0) (v := .int (bp - (nI 1))) (C := RX0) (T := TX0) (N := 5) hx hb hts in_X0_coolDown_RX0 hown hK.1 hP 0 rfl rfl 2 (by decide) (hts _ k_X0_coolDown_f18) (fun _ h9 => h9) rfl dX0_coolDown_18 ?_
    refine lv_bipush (v := (nI 70)) hx hb dX0_coolDown_21 (by decide) ?_
    refine lv_icmp_le (tgt := 53) hx hb dX0_coolDown_23 (by decide) (fun c_3 => ?_) (fun c_3 => ?_)
    · exact end_V C0 hP hD hS (bf, (bp - (nI 1)), bl, bs) (by simp only [f_X0_coolDown, if_neg c_1, if_pos c_3]) rfl dX0_coolDown_53
    · refine lv_aload_n hx hb dX0_coolDown_26 rfl (lv_at hl 0 rfl) ?_
      refine lv_bipush (v := (nI 30)) hx hb dX0_coolDown_27 (by decide) ?_
      refine va_put (D := G.1) (ci := 0) (v := .int (nI 30)) (ty := .int) (C := RX0) (T := TX0) (N := 5) hx hb hts in_X0_coolDown_RX0 tyX0 tyX0_ok nmX0 hown hK.1 hP hD hS 0 rfl rfl 2 (by decide) (hts _ k_X0_coolDown_f18) (fun _ h9 => h9) rfl (by decide +kernel) rfl rfl (Nat.le_of_ble_eq_true rfl) dX0_coolDown_29 (fun H locs hP hD hS => ?_)
      have hP : va_P G.1 vwCl (BL h0 bf bw (nI 30) bl bs) H := hP
      have hD : va_D A (BL h0 bf bw (nI 30) bl bs) := hD
      refine lv_aload_n hx hb dX0_coolDown_32 rfl (lv_at hl 0 rfl) ?_
      refine lv_iconst (v := (nI 0)) hx hb dX0_coolDown_33 (by decide) ?_
      refine va_put (D := G.1) (ci := 0) (v := .int (nI 0)) (ty := .int) (C := RX0) (T := TX0) (N := 5) hx hb hts in_X0_coolDown_RX0 tyX0 tyX0_ok nmX0 hown hK.1 hP hD hS 0 rfl rfl 0 (by decide) (hts _ k_X0_coolDown_f15) (fun _ h9 => h9) rfl (by decide +kernel) rfl rfl (Nat.le_of_ble_eq_true rfl) dX0_coolDown_34 (fun H locs hP hD hS => ?_)
      have hP : va_P G.1 vwCl (BL h0 (nI 0) bw (nI 30) bl bs) H := hP
      have hD : va_D A (BL h0 (nI 0) bw (nI 30) bl bs) := hD
      refine lv_aload_n hx hb dX0_coolDown_37 rfl (lv_at hl 0 rfl) ?_
      refine lv_bipush (v := (nI 10)) hx hb dX0_coolDown_38 (by decide) ?_
      refine va_put (D := G.1) (ci := 0) (v := .int (nI 10)) (ty := .int) (C := RX0) (T := TX0) (N := 5) hx hb hts in_X0_coolDown_RX0 tyX0 tyX0_ok nmX0 hown hK.1 hP hD hS 0 rfl rfl 3 (by decide) (hts _ k_X0_coolDown_f21) (fun _ h9 => h9) rfl (by decide +kernel) rfl rfl (Nat.le_of_ble_eq_true rfl) dX0_coolDown_40 (fun H locs hP hD hS => ?_)
      have hP : va_P G.1 vwCl (BL h0 (nI 0) bw (nI 30) (nI 10) bs) H := hP
      have hD : va_D A (BL h0 (nI 0) bw (nI 30) (nI 10) bs) := hD
      refine lv_aload_n hx hb dX0_coolDown_43 rfl (lv_at hl 0 rfl) ?_
      refine lv_dup hx hb dX0_coolDown_44 rfl ?_
      refine va_get (D := G.1) (ci := 0) (v := .int bs) (C := RX0) (T := TX0) (N := 5) hx hb hts in_X0_coolDown_RX0 hown hK.1 hP 0 rfl rfl 4 (by decide) (hts _ k_X0_coolDown_f24) (fun _ h9 => h9) rfl dX0_coolDown_45 ?_
      refine lv_iconst (v := (nI 1)) hx hb dX0_coolDown_48 (by decide) ?_
      refine lv_iadd hx hb dX0_coolDown_49 ?_
      refine va_put (D := G.1) (ci := 0) (v := .int (bs + (nI 1))) (ty := .int) (C := RX0) (T := TX0) (N := 5) hx hb hts in_X0_coolDown_RX0 tyX0 tyX0_ok nmX0 hown hK.1 hP hD hS 0 rfl rfl 4 (by decide) (hts _ k_X0_coolDown_f24) (fun _ h9 => h9) rfl (by decide +kernel) rfl rfl (Nat.le_of_ble_eq_true rfl) dX0_coolDown_50 (fun H locs hP hD hS => ?_)
      have hP : va_P G.1 vwCl (BL h0 (nI 0) bw (nI 30) (nI 10) (bs + (nI 1))) H := hP
      have hD : va_D A (BL h0 (nI 0) bw (nI 30) (nI 10) (bs + (nI 1))) := hD
      exact end_V C0 hP hD hS ((nI 0), (nI 30), (nI 10), (bs + (nI 1))) (by simp only [f_X0_coolDown, if_neg c_1, if_neg c_3]) rfl dX0_coolDown_53

def f_X0_copyFrom (obf : Int32) (obw : Int32) (obp : Int32) (obl : Int32) (obs : Int32) : Int32 × Int32 × Int32 × Int32 × Int32 :=
  (obf, obw, obp, obl, obs)
set_option maxRecDepth 20000 in
theorem k_X0_copyFrom_f15 : Cond.fieldLink RX0 15 "SteamRations$Boiler" "fire" "I" ∈ wsX0_copyFrom := by decide +kernel
set_option maxRecDepth 20000 in
theorem k_X0_copyFrom_f18 : Cond.fieldLink RX0 18 "SteamRations$Boiler" "pressure" "I" ∈ wsX0_copyFrom := by decide +kernel
set_option maxRecDepth 20000 in
theorem k_X0_copyFrom_f21 : Cond.fieldLink RX0 21 "SteamRations$Boiler" "stopLeft" "I" ∈ wsX0_copyFrom := by decide +kernel
set_option maxRecDepth 20000 in
theorem k_X0_copyFrom_f24 : Cond.fieldLink RX0 24 "SteamRations$Boiler" "stops" "I" ∈ wsX0_copyFrom := by decide +kernel
set_option maxRecDepth 20000 in
theorem k_X0_copyFrom_f9 : Cond.fieldLink RX0 9 "SteamRations$Boiler" "water" "I" ∈ wsX0_copyFrom := by decide +kernel
set_option maxRecDepth 20000 in
theorem in_X0_copyFrom_RX0 : ∀ w ∈ u_ws RX0 TX0 5, w ∈ wsX0_copyFrom := by decide +kernel
theorem cd_X0_copyFrom : yX0_copyFrom.cls = RX0 ∧ yX0_copyFrom.cls ≠ "java/lang/invoke/MethodHandle" ∧ yX0_copyFrom.cls ≠ "java/lang/invoke/VarHandle" ∧ (parseMethodDescriptor yX0_copyFrom.desc).map (fun d => d.parameters.length) = some 1 := by decide +kernel
set_option maxHeartbeats 4000000 in
set_option maxRecDepth 100000 in
theorem c_X0_copyFrom (l : Launch) (G : GG) (h0 : Nat) (h1 : Nat) (bf : Int32) (bw : Int32) (bp : Int32) (bl : Int32) (bs : Int32) (obf : Int32) (obw : Int32) (obp : Int32) (obl : Int32) (obs : Int32) (sz : Nat)   : Met l yX0_copyFrom wsX0_copyFrom ({ frames := 0, cells := 0, slots := 0, locals := 0 }) (Pre G [.ref h0, .ref h1] (BL h0 bf bw bp bl bs ++ BL h1 obf obw obp obl obs) sz) (PV G (va_A (BL h0 bf bw bp bl bs ++ BL h1 obf obw obp obl obs) sz) (fun u : Int32 × Int32 × Int32 × Int32 × Int32 => f_X0_copyFrom obf obw obp obl obs = u) (fun u : Int32 × Int32 × Int32 × Int32 × Int32 => BL h0 u.1 u.2.1 u.2.2.1 u.2.2.2.1 u.2.2.2.2 ++ BL h1 obf obw obp obl obs)) 0 0 (va_A (BL h0 bf bw bp bl bs ++ BL h1 obf obw obp obl obs) sz) := by
  refine Met.walk (cc := cX0_copyFrom) (maxL := 2) (ret := none) (Qc := fun A => PV G A (fun u : Int32 × Int32 × Int32 × Int32 × Int32 => f_X0_copyFrom obf obw obp obl obs = u) (fun u : Int32 × Int32 × Int32 × Int32 × Int32 => BL h0 u.1 u.2.1 u.2.2.1 u.2.2.2.1 u.2.2.2.2 ++ BL h1 obf obw obp obl obs)) (by decide) rfl (Nat.le_of_ble_eq_true rfl) ?_
  intro p e s m below meth c A H C0 _ hK hsz hP hD hA hS ls hl
  have hx := C0.1
  have hb := C0.2.1
  have hown : s.vm.findClass RX0 = some m.cls := C0.2.2.2.2.1
  have hml := C0.2.2.2.1
  have hts : ∀ w ∈ wsX0_copyFrom, w.before [.ref h0, .ref h1].toArray s = true := C0.2.2.2.2.2.1
  have hl : lv_has ls 2 [(0, .ref h0), (1, .ref h1)] := hl
  refine lv_aload_n hx hb dX0_copyFrom_0 rfl (lv_at hl 0 rfl) ?_
  refine lv_aload_n hx hb dX0_copyFrom_1 rfl (lv_at hl 1 rfl) ?_
  refine va_get (D := G.1) (ci := 0) (v := .int obf) (C := RX0) (T := TX0) (N := 5) hx hb hts in_X0_copyFrom_RX0 hown hK.1 hP 1 rfl rfl 0 (by decide) (hts _ k_X0_copyFrom_f15) (fun _ h9 => h9) rfl dX0_copyFrom_2 ?_
  refine va_put (D := G.1) (ci := 0) (v := .int obf) (ty := .int) (C := RX0) (T := TX0) (N := 5) hx hb hts in_X0_copyFrom_RX0 tyX0 tyX0_ok nmX0 hown hK.1 hP hD hS 0 rfl rfl 0 (by decide) (hts _ k_X0_copyFrom_f15) (fun _ h9 => h9) rfl (by decide +kernel) rfl rfl (Nat.le_of_ble_eq_true rfl) dX0_copyFrom_5 (fun H locs hP hD hS => ?_)
  have hP : va_P G.1 vwCl (BL h0 obf bw bp bl bs ++ BL h1 obf obw obp obl obs) H := hP
  have hD : va_D A (BL h0 obf bw bp bl bs ++ BL h1 obf obw obp obl obs) := hD
  refine lv_aload_n hx hb dX0_copyFrom_8 rfl (lv_at hl 0 rfl) ?_
  refine lv_aload_n hx hb dX0_copyFrom_9 rfl (lv_at hl 1 rfl) ?_
  refine va_get (D := G.1) (ci := 0) (v := .int obw) (C := RX0) (T := TX0) (N := 5) hx hb hts in_X0_copyFrom_RX0 hown hK.1 hP 1 rfl rfl 1 (by decide) (hts _ k_X0_copyFrom_f9) (fun _ h9 => h9) rfl dX0_copyFrom_10 ?_
  refine va_put (D := G.1) (ci := 0) (v := .int obw) (ty := .int) (C := RX0) (T := TX0) (N := 5) hx hb hts in_X0_copyFrom_RX0 tyX0 tyX0_ok nmX0 hown hK.1 hP hD hS 0 rfl rfl 1 (by decide) (hts _ k_X0_copyFrom_f9) (fun _ h9 => h9) rfl (by decide +kernel) rfl rfl (Nat.le_of_ble_eq_true rfl) dX0_copyFrom_13 (fun H locs hP hD hS => ?_)
  have hP : va_P G.1 vwCl (BL h0 obf obw bp bl bs ++ BL h1 obf obw obp obl obs) H := hP
  have hD : va_D A (BL h0 obf obw bp bl bs ++ BL h1 obf obw obp obl obs) := hD
  refine lv_aload_n hx hb dX0_copyFrom_16 rfl (lv_at hl 0 rfl) ?_
  refine lv_aload_n hx hb dX0_copyFrom_17 rfl (lv_at hl 1 rfl) ?_
  refine va_get (D := G.1) (ci := 0) (v := .int obp) (C := RX0) (T := TX0) (N := 5) hx hb hts in_X0_copyFrom_RX0 hown hK.1 hP 1 rfl rfl 2 (by decide) (hts _ k_X0_copyFrom_f18) (fun _ h9 => h9) rfl dX0_copyFrom_18 ?_
  refine va_put (D := G.1) (ci := 0) (v := .int obp) (ty := .int) (C := RX0) (T := TX0) (N := 5) hx hb hts in_X0_copyFrom_RX0 tyX0 tyX0_ok nmX0 hown hK.1 hP hD hS 0 rfl rfl 2 (by decide) (hts _ k_X0_copyFrom_f18) (fun _ h9 => h9) rfl (by decide +kernel) rfl rfl (Nat.le_of_ble_eq_true rfl) dX0_copyFrom_21 (fun H locs hP hD hS => ?_)
  have hP : va_P G.1 vwCl (BL h0 obf obw obp bl bs ++ BL h1 obf obw obp obl obs) H := hP
  have hD : va_D A (BL h0 obf obw obp bl bs ++ BL h1 obf obw obp obl obs) := hD
  refine lv_aload_n hx hb dX0_copyFrom_24 rfl (lv_at hl 0 rfl) ?_
  refine lv_aload_n hx hb dX0_copyFrom_25 rfl (lv_at hl 1 rfl) ?_
  refine va_get (D := G.1) (ci := 0) (v := .int obl) (C := RX0) (T := TX0) (N := 5) hx hb hts in_X0_copyFrom_RX0 hown hK.1 hP 1 rfl rfl 3 (by decide) (hts _ k_X0_copyFrom_f21) (fun _ h9 => h9) rfl dX0_copyFrom_26 ?_
  refine va_put (D := G.1) (ci := 0) (v := .int obl) (ty := .int) (C := RX0) (T := TX0) (N := 5) hx hb hts in_X0_copyFrom_RX0 tyX0 tyX0_ok nmX0 hown hK.1 hP hD hS 0 rfl rfl 3 (by decide) (hts _ k_X0_copyFrom_f21) (fun _ h9 => h9) rfl (by decide +kernel) rfl rfl (Nat.le_of_ble_eq_true rfl) dX0_copyFrom_29 (fun H locs hP hD hS => ?_)
  have hP : va_P G.1 vwCl (BL h0 obf obw obp obl bs ++ BL h1 obf obw obp obl obs) H := hP
  have hD : va_D A (BL h0 obf obw obp obl bs ++ BL h1 obf obw obp obl obs) := hD
  refine lv_aload_n hx hb dX0_copyFrom_32 rfl (lv_at hl 0 rfl) ?_
  refine lv_aload_n hx hb dX0_copyFrom_33 rfl (lv_at hl 1 rfl) ?_
  refine va_get (D := G.1) (ci := 0) (v := .int obs) (C := RX0) (T := TX0) (N := 5) hx hb hts in_X0_copyFrom_RX0 hown hK.1 hP 1 rfl rfl 4 (by decide) (hts _ k_X0_copyFrom_f24) (fun _ h9 => h9) rfl dX0_copyFrom_34 ?_
  refine va_put (D := G.1) (ci := 0) (v := .int obs) (ty := .int) (C := RX0) (T := TX0) (N := 5) hx hb hts in_X0_copyFrom_RX0 tyX0 tyX0_ok nmX0 hown hK.1 hP hD hS 0 rfl rfl 4 (by decide) (hts _ k_X0_copyFrom_f24) (fun _ h9 => h9) rfl (by decide +kernel) rfl rfl (Nat.le_of_ble_eq_true rfl) dX0_copyFrom_37 (fun H locs hP hD hS => ?_)
  have hP : va_P G.1 vwCl (BL h0 obf obw obp obl obs ++ BL h1 obf obw obp obl obs) H := hP
  have hD : va_D A (BL h0 obf obw obp obl obs ++ BL h1 obf obw obp obl obs) := hD
  exact end_V C0 hP hD hS (obf, obw, obp, obl, obs) (by simp only [f_X0_copyFrom]) rfl dX0_copyFrom_40

def f_X3_isEmpty (mk : Int32) : Int32 :=
  if mk = (-5) then
    (nI 1)
  else
    (nI 0)
set_option maxRecDepth 20000 in
theorem k_X3_isEmpty_f9 : Cond.fieldLink RX3 9 "SteamRations$Machine" "kind" "I" ∈ wsX3_isEmpty := by decide +kernel
set_option maxRecDepth 20000 in
theorem in_X3_isEmpty_RX3 : ∀ w ∈ u_ws RX3 TX3 3, w ∈ wsX3_isEmpty := by decide +kernel
theorem cd_X3_isEmpty : yX3_isEmpty.cls = RX3 ∧ yX3_isEmpty.cls ≠ "java/lang/invoke/MethodHandle" ∧ yX3_isEmpty.cls ≠ "java/lang/invoke/VarHandle" ∧ (parseMethodDescriptor yX3_isEmpty.desc).map (fun d => d.parameters.length) = some 0 := by decide +kernel
set_option maxHeartbeats 4000000 in
set_option maxRecDepth 100000 in
theorem c_X3_isEmpty (l : Launch) (G : GG) (h0 : Nat) (mk : Int32) (mt : Int32) (mw : Int32) (sz : Nat)   : Met l yX3_isEmpty wsX3_isEmpty ({ frames := 0, cells := 0, slots := 0, locals := 0 }) (Pre G [.ref h0] (MA h0 mk mt mw) sz) (PI G (va_A (MA h0 mk mt mw) sz) (fun r (u : Unit) => f_X3_isEmpty mk = r ∧ (r = nI 0 ∨ r = nI 1)) (fun _ : Unit => MA h0 mk mt mw)) 0 0 (va_A (MA h0 mk mt mw) sz) := by
  refine Met.walk (cc := cX3_isEmpty) (maxL := 1) (ret := (some .boolean)) (Qc := fun A => PI G A (fun r (u : Unit) => f_X3_isEmpty mk = r ∧ (r = nI 0 ∨ r = nI 1)) (fun _ : Unit => MA h0 mk mt mw)) (by decide) rfl (Nat.le_of_ble_eq_true rfl) ?_
  intro p e s m below meth c A H C0 _ hK hsz hP hD hA hS ls hl
  have hx := C0.1
  have hb := C0.2.1
  have hown : s.vm.findClass RX3 = some m.cls := C0.2.2.2.2.1
  have hml := C0.2.2.2.1
  have hts : ∀ w ∈ wsX3_isEmpty, w.before [.ref h0].toArray s = true := C0.2.2.2.2.2.1
  have hl : lv_has ls 1 [(0, .ref h0)] := hl
  refine lv_aload_n hx hb dX3_isEmpty_0 rfl (lv_at hl 0 rfl) ?_
  refine va_get (D := G.1) (ci := 3) (v := .int mk) (C := RX3) (T := TX3) (N := 3) hx hb hts in_X3_isEmpty_RX3 hown hK.1 hP 0 rfl rfl 0 (by decide) (hts _ k_X3_isEmpty_f9) (fun _ h9 => h9) rfl dX3_isEmpty_1 ?_
  refine lv_bipush (v := (-5)) hx hb dX3_isEmpty_4 (by decide) ?_
  refine lv_icmp_ne (tgt := 13) hx hb dX3_isEmpty_6 (by decide) (fun c_1 => ?_) (fun c_1 => ?_)
  · refine lv_iconst (v := (nI 0)) hx hb dX3_isEmpty_13 (by decide) ?_
    exact end_Z C0 (by decide) hP hD hS () ⟨(by simp only [f_X3_isEmpty, if_neg c_1]), by decide⟩ rfl dX3_isEmpty_14
  · refine lv_iconst (v := (nI 1)) hx hb dX3_isEmpty_9 (by decide) ?_
    refine lv_goto (tgt := 14) hx hb dX3_isEmpty_10 (by decide) ?_
    exact end_Z C0 (by decide) hP hD hS () ⟨(by simp only [f_X3_isEmpty, if_pos c_1]), by decide⟩ rfl dX3_isEmpty_14

def f_X3_put (p0 : Int32) : Int32 × Int32 × Int32 :=
  (p0, (f_X6_ticksOf p0), (nI 0))
set_option maxRecDepth 20000 in
theorem k_X3_put_f15 : Cond.fieldLink RX3 15 "SteamRations$Machine" "left" "I" ∈ wsX3_put := by decide +kernel
set_option maxRecDepth 20000 in
theorem k_X3_put_f18 : Cond.fieldLink RX3 18 "SteamRations$Machine" "waits" "I" ∈ wsX3_put := by decide +kernel
set_option maxRecDepth 20000 in
theorem k_X3_put_f9 : Cond.fieldLink RX3 9 "SteamRations$Machine" "kind" "I" ∈ wsX3_put := by decide +kernel
set_option maxRecDepth 20000 in
theorem in_X3_put_RX3 : ∀ w ∈ u_ws RX3 TX3 3, w ∈ wsX3_put := by decide +kernel
theorem cd_X3_put : yX3_put.cls = RX3 ∧ yX3_put.cls ≠ "java/lang/invoke/MethodHandle" ∧ yX3_put.cls ≠ "java/lang/invoke/VarHandle" ∧ (parseMethodDescriptor yX3_put.desc).map (fun d => d.parameters.length) = some 1 := by decide +kernel
set_option maxHeartbeats 4000000 in
set_option maxRecDepth 100000 in
theorem c_X3_put (l : Launch) (G : GG) (h0 : Nat) (mk : Int32) (mt : Int32) (mw : Int32) (sz : Nat) (p0 : Int32)  : Met l yX3_put wsX3_put ({ frames := 1, cells := 0, slots := 0, locals := 20 }) (Pre G [.ref h0, .int p0] (MA h0 mk mt mw) sz) (PV G (va_A (MA h0 mk mt mw) sz) (fun u : Int32 × Int32 × Int32 => f_X3_put p0 = u) (fun u : Int32 × Int32 × Int32 => MA h0 u.1 u.2.1 u.2.2)) 0 0 (va_A (MA h0 mk mt mw) sz) := by
  refine Met.walk (cc := cX3_put) (maxL := 2) (ret := none) (Qc := fun A => PV G A (fun u : Int32 × Int32 × Int32 => f_X3_put p0 = u) (fun u : Int32 × Int32 × Int32 => MA h0 u.1 u.2.1 u.2.2)) (by decide) rfl (Nat.le_of_ble_eq_true rfl) ?_
  intro p e s m below meth c A H C0 _ hK hsz hP hD hA hS ls hl
  have hx := C0.1
  have hb := C0.2.1
  have hown : s.vm.findClass RX3 = some m.cls := C0.2.2.2.2.1
  have hml := C0.2.2.2.1
  have hts : ∀ w ∈ wsX3_put, w.before [.ref h0, .int p0].toArray s = true := C0.2.2.2.2.2.1
  have hl : lv_has ls 2 [(0, .ref h0), (1, .int p0)] := hl
  refine lv_aload_n hx hb dX3_put_0 rfl (lv_at hl 0 rfl) ?_
  refine lv_iload_n hx hb dX3_put_1 rfl (lv_at hl 1 rfl) ?_
  refine va_put (D := G.1) (ci := 3) (v := .int p0) (ty := .int) (C := RX3) (T := TX3) (N := 3) hx hb hts in_X3_put_RX3 tyX3 tyX3_ok nmX3 hown hK.1 hP hD hS 0 rfl rfl 0 (by decide) (hts _ k_X3_put_f9) (fun _ h9 => h9) rfl (by decide +kernel) rfl rfl (Nat.le_of_ble_eq_true rfl) dX3_put_2 (fun H locs hP hD hS => ?_)
  have hP : va_P G.1 vwCl (MA h0 p0 mt mw) H := hP
  have hD : va_D A (MA h0 p0 mt mw) := hD
  refine lv_aload_n hx hb dX3_put_5 rfl (lv_at hl 0 rfl) ?_
  refine lv_iload_n hx hb dX3_put_6 rfl (lv_at hl 1 rfl) ?_
  refine gcall_I (run_SN (As := [.int p0]) (rest := [.ref h0]) C0 hK hP hD (c_X6_ticksOf l G   H.size p0) (va_cnB 1 hts gX3_put_X6_ticksOf_n21 rfl rfl rfl hK.2.2.1 (hts _ (by decide +kernel)) cd2_X6_ticksOf ⟨Nat.le_of_ble_eq_true rfl, Nat.le_of_ble_eq_true rfl⟩) (hts _ (by decide +kernel)) [] rfl rfl rfl hl.1 rfl (Nat.le_of_ble_eq_true rfl) dX3_put_7 ⟨Nat.le_of_ble_eq_true rfl, Nat.le_of_ble_eq_true rfl⟩) hP hD hS hA [] rfl rfl (fun _ => rfl) (fun r_1 _ H locs hw_1 hP hD hS => ?_)
  subst hw_1
  have hP : va_P G.1 vwCl (MA h0 p0 mt mw) H := hP
  have hD : va_D A (MA h0 p0 mt mw) := hD
  refine va_put (D := G.1) (ci := 3) (v := .int (f_X6_ticksOf p0)) (ty := .int) (C := RX3) (T := TX3) (N := 3) hx hb hts in_X3_put_RX3 tyX3 tyX3_ok nmX3 hown hK.1 hP hD hS 0 rfl rfl 1 (by decide) (hts _ k_X3_put_f15) (fun _ h9 => h9) rfl (by decide +kernel) rfl rfl (Nat.le_of_ble_eq_true rfl) dX3_put_10 (fun H locs hP hD hS => ?_)
  have hP : va_P G.1 vwCl (MA h0 p0 (f_X6_ticksOf p0) mw) H := hP
  have hD : va_D A (MA h0 p0 (f_X6_ticksOf p0) mw) := hD
  refine lv_aload_n hx hb dX3_put_13 rfl (lv_at hl 0 rfl) ?_
  refine lv_iconst (v := (nI 0)) hx hb dX3_put_14 (by decide) ?_
  refine va_put (D := G.1) (ci := 3) (v := .int (nI 0)) (ty := .int) (C := RX3) (T := TX3) (N := 3) hx hb hts in_X3_put_RX3 tyX3 tyX3_ok nmX3 hown hK.1 hP hD hS 0 rfl rfl 2 (by decide) (hts _ k_X3_put_f18) (fun _ h9 => h9) rfl (by decide +kernel) rfl rfl (Nat.le_of_ble_eq_true rfl) dX3_put_15 (fun H locs hP hD hS => ?_)
  have hP : va_P G.1 vwCl (MA h0 p0 (f_X6_ticksOf p0) (nI 0)) H := hP
  have hD : va_D A (MA h0 p0 (f_X6_ticksOf p0) (nI 0)) := hD
  exact end_V C0 hP hD hS (p0, (f_X6_ticksOf p0), (nI 0)) (by simp only [f_X3_put]) rfl dX3_put_18

def f_X3_clear  : Int32 × Int32 × Int32 :=
  ((-5), (nI 0), (nI 0))
set_option maxRecDepth 20000 in
theorem k_X3_clear_f15 : Cond.fieldLink RX3 15 "SteamRations$Machine" "left" "I" ∈ wsX3_clear := by decide +kernel
set_option maxRecDepth 20000 in
theorem k_X3_clear_f18 : Cond.fieldLink RX3 18 "SteamRations$Machine" "waits" "I" ∈ wsX3_clear := by decide +kernel
set_option maxRecDepth 20000 in
theorem k_X3_clear_f9 : Cond.fieldLink RX3 9 "SteamRations$Machine" "kind" "I" ∈ wsX3_clear := by decide +kernel
set_option maxRecDepth 20000 in
theorem in_X3_clear_RX3 : ∀ w ∈ u_ws RX3 TX3 3, w ∈ wsX3_clear := by decide +kernel
theorem cd_X3_clear : yX3_clear.cls = RX3 ∧ yX3_clear.cls ≠ "java/lang/invoke/MethodHandle" ∧ yX3_clear.cls ≠ "java/lang/invoke/VarHandle" ∧ (parseMethodDescriptor yX3_clear.desc).map (fun d => d.parameters.length) = some 0 := by decide +kernel
set_option maxHeartbeats 4000000 in
set_option maxRecDepth 100000 in
theorem c_X3_clear (l : Launch) (G : GG) (h0 : Nat) (mk : Int32) (mt : Int32) (mw : Int32) (sz : Nat)   : Met l yX3_clear wsX3_clear ({ frames := 0, cells := 0, slots := 0, locals := 0 }) (Pre G [.ref h0] (MA h0 mk mt mw) sz) (PV G (va_A (MA h0 mk mt mw) sz) (fun u : Int32 × Int32 × Int32 => f_X3_clear = u) (fun u : Int32 × Int32 × Int32 => MA h0 u.1 u.2.1 u.2.2)) 0 0 (va_A (MA h0 mk mt mw) sz) := by
  refine Met.walk (cc := cX3_clear) (maxL := 1) (ret := none) (Qc := fun A => PV G A (fun u : Int32 × Int32 × Int32 => f_X3_clear = u) (fun u : Int32 × Int32 × Int32 => MA h0 u.1 u.2.1 u.2.2)) (by decide) rfl (Nat.le_of_ble_eq_true rfl) ?_
  intro p e s m below meth c A H C0 _ hK hsz hP hD hA hS ls hl
  have hx := C0.1
  have hb := C0.2.1
  have hown : s.vm.findClass RX3 = some m.cls := C0.2.2.2.2.1
  have hml := C0.2.2.2.1
  have hts : ∀ w ∈ wsX3_clear, w.before [.ref h0].toArray s = true := C0.2.2.2.2.2.1
  have hl : lv_has ls 1 [(0, .ref h0)] := hl
  refine lv_aload_n hx hb dX3_clear_0 rfl (lv_at hl 0 rfl) ?_
  refine lv_bipush (v := (-5)) hx hb dX3_clear_1 (by decide) ?_
  refine va_put (D := G.1) (ci := 3) (v := .int (-5)) (ty := .int) (C := RX3) (T := TX3) (N := 3) hx hb hts in_X3_clear_RX3 tyX3 tyX3_ok nmX3 hown hK.1 hP hD hS 0 rfl rfl 0 (by decide) (hts _ k_X3_clear_f9) (fun _ h9 => h9) rfl (by decide +kernel) rfl rfl (Nat.le_of_ble_eq_true rfl) dX3_clear_3 (fun H locs hP hD hS => ?_)
  have hP : va_P G.1 vwCl (MA h0 (-5) mt mw) H := hP
  have hD : va_D A (MA h0 (-5) mt mw) := hD
  refine lv_aload_n hx hb dX3_clear_6 rfl (lv_at hl 0 rfl) ?_
  refine lv_iconst (v := (nI 0)) hx hb dX3_clear_7 (by decide) ?_
  refine va_put (D := G.1) (ci := 3) (v := .int (nI 0)) (ty := .int) (C := RX3) (T := TX3) (N := 3) hx hb hts in_X3_clear_RX3 tyX3 tyX3_ok nmX3 hown hK.1 hP hD hS 0 rfl rfl 1 (by decide) (hts _ k_X3_clear_f15) (fun _ h9 => h9) rfl (by decide +kernel) rfl rfl (Nat.le_of_ble_eq_true rfl) dX3_clear_8 (fun H locs hP hD hS => ?_)
  have hP : va_P G.1 vwCl (MA h0 (-5) (nI 0) mw) H := hP
  have hD : va_D A (MA h0 (-5) (nI 0) mw) := hD
  refine lv_aload_n hx hb dX3_clear_11 rfl (lv_at hl 0 rfl) ?_
  refine lv_iconst (v := (nI 0)) hx hb dX3_clear_12 (by decide) ?_
  refine va_put (D := G.1) (ci := 3) (v := .int (nI 0)) (ty := .int) (C := RX3) (T := TX3) (N := 3) hx hb hts in_X3_clear_RX3 tyX3 tyX3_ok nmX3 hown hK.1 hP hD hS 0 rfl rfl 2 (by decide) (hts _ k_X3_clear_f18) (fun _ h9 => h9) rfl (by decide +kernel) rfl rfl (Nat.le_of_ble_eq_true rfl) dX3_clear_13 (fun H locs hP hD hS => ?_)
  have hP : va_P G.1 vwCl (MA h0 (-5) (nI 0) (nI 0)) H := hP
  have hD : va_D A (MA h0 (-5) (nI 0) (nI 0)) := hD
  exact end_V C0 hP hD hS ((-5), (nI 0), (nI 0)) (by simp only [f_X3_clear]) rfl dX3_clear_16

def f_X3_copyFrom (omk : Int32) (omt : Int32) (omw : Int32) : Int32 × Int32 × Int32 :=
  (omk, omt, omw)
set_option maxRecDepth 20000 in
theorem k_X3_copyFrom_f15 : Cond.fieldLink RX3 15 "SteamRations$Machine" "left" "I" ∈ wsX3_copyFrom := by decide +kernel
set_option maxRecDepth 20000 in
theorem k_X3_copyFrom_f18 : Cond.fieldLink RX3 18 "SteamRations$Machine" "waits" "I" ∈ wsX3_copyFrom := by decide +kernel
set_option maxRecDepth 20000 in
theorem k_X3_copyFrom_f9 : Cond.fieldLink RX3 9 "SteamRations$Machine" "kind" "I" ∈ wsX3_copyFrom := by decide +kernel
set_option maxRecDepth 20000 in
theorem in_X3_copyFrom_RX3 : ∀ w ∈ u_ws RX3 TX3 3, w ∈ wsX3_copyFrom := by decide +kernel
theorem cd_X3_copyFrom : yX3_copyFrom.cls = RX3 ∧ yX3_copyFrom.cls ≠ "java/lang/invoke/MethodHandle" ∧ yX3_copyFrom.cls ≠ "java/lang/invoke/VarHandle" ∧ (parseMethodDescriptor yX3_copyFrom.desc).map (fun d => d.parameters.length) = some 1 := by decide +kernel
set_option maxHeartbeats 4000000 in
set_option maxRecDepth 100000 in
theorem c_X3_copyFrom (l : Launch) (G : GG) (h0 : Nat) (h1 : Nat) (mk : Int32) (mt : Int32) (mw : Int32) (omk : Int32) (omt : Int32) (omw : Int32) (sz : Nat)   : Met l yX3_copyFrom wsX3_copyFrom ({ frames := 0, cells := 0, slots := 0, locals := 0 }) (Pre G [.ref h0, .ref h1] (MA h0 mk mt mw ++ MA h1 omk omt omw) sz) (PV G (va_A (MA h0 mk mt mw ++ MA h1 omk omt omw) sz) (fun u : Int32 × Int32 × Int32 => f_X3_copyFrom omk omt omw = u) (fun u : Int32 × Int32 × Int32 => MA h0 u.1 u.2.1 u.2.2 ++ MA h1 omk omt omw)) 0 0 (va_A (MA h0 mk mt mw ++ MA h1 omk omt omw) sz) := by
  refine Met.walk (cc := cX3_copyFrom) (maxL := 2) (ret := none) (Qc := fun A => PV G A (fun u : Int32 × Int32 × Int32 => f_X3_copyFrom omk omt omw = u) (fun u : Int32 × Int32 × Int32 => MA h0 u.1 u.2.1 u.2.2 ++ MA h1 omk omt omw)) (by decide) rfl (Nat.le_of_ble_eq_true rfl) ?_
  intro p e s m below meth c A H C0 _ hK hsz hP hD hA hS ls hl
  have hx := C0.1
  have hb := C0.2.1
  have hown : s.vm.findClass RX3 = some m.cls := C0.2.2.2.2.1
  have hml := C0.2.2.2.1
  have hts : ∀ w ∈ wsX3_copyFrom, w.before [.ref h0, .ref h1].toArray s = true := C0.2.2.2.2.2.1
  have hl : lv_has ls 2 [(0, .ref h0), (1, .ref h1)] := hl
  refine lv_aload_n hx hb dX3_copyFrom_0 rfl (lv_at hl 0 rfl) ?_
  refine lv_aload_n hx hb dX3_copyFrom_1 rfl (lv_at hl 1 rfl) ?_
  refine va_get (D := G.1) (ci := 3) (v := .int omk) (C := RX3) (T := TX3) (N := 3) hx hb hts in_X3_copyFrom_RX3 hown hK.1 hP 1 rfl rfl 0 (by decide) (hts _ k_X3_copyFrom_f9) (fun _ h9 => h9) rfl dX3_copyFrom_2 ?_
  refine va_put (D := G.1) (ci := 3) (v := .int omk) (ty := .int) (C := RX3) (T := TX3) (N := 3) hx hb hts in_X3_copyFrom_RX3 tyX3 tyX3_ok nmX3 hown hK.1 hP hD hS 0 rfl rfl 0 (by decide) (hts _ k_X3_copyFrom_f9) (fun _ h9 => h9) rfl (by decide +kernel) rfl rfl (Nat.le_of_ble_eq_true rfl) dX3_copyFrom_5 (fun H locs hP hD hS => ?_)
  have hP : va_P G.1 vwCl (MA h0 omk mt mw ++ MA h1 omk omt omw) H := hP
  have hD : va_D A (MA h0 omk mt mw ++ MA h1 omk omt omw) := hD
  refine lv_aload_n hx hb dX3_copyFrom_8 rfl (lv_at hl 0 rfl) ?_
  refine lv_aload_n hx hb dX3_copyFrom_9 rfl (lv_at hl 1 rfl) ?_
  refine va_get (D := G.1) (ci := 3) (v := .int omt) (C := RX3) (T := TX3) (N := 3) hx hb hts in_X3_copyFrom_RX3 hown hK.1 hP 1 rfl rfl 1 (by decide) (hts _ k_X3_copyFrom_f15) (fun _ h9 => h9) rfl dX3_copyFrom_10 ?_
  refine va_put (D := G.1) (ci := 3) (v := .int omt) (ty := .int) (C := RX3) (T := TX3) (N := 3) hx hb hts in_X3_copyFrom_RX3 tyX3 tyX3_ok nmX3 hown hK.1 hP hD hS 0 rfl rfl 1 (by decide) (hts _ k_X3_copyFrom_f15) (fun _ h9 => h9) rfl (by decide +kernel) rfl rfl (Nat.le_of_ble_eq_true rfl) dX3_copyFrom_13 (fun H locs hP hD hS => ?_)
  have hP : va_P G.1 vwCl (MA h0 omk omt mw ++ MA h1 omk omt omw) H := hP
  have hD : va_D A (MA h0 omk omt mw ++ MA h1 omk omt omw) := hD
  refine lv_aload_n hx hb dX3_copyFrom_16 rfl (lv_at hl 0 rfl) ?_
  refine lv_aload_n hx hb dX3_copyFrom_17 rfl (lv_at hl 1 rfl) ?_
  refine va_get (D := G.1) (ci := 3) (v := .int omw) (C := RX3) (T := TX3) (N := 3) hx hb hts in_X3_copyFrom_RX3 hown hK.1 hP 1 rfl rfl 2 (by decide) (hts _ k_X3_copyFrom_f18) (fun _ h9 => h9) rfl dX3_copyFrom_18 ?_
  refine va_put (D := G.1) (ci := 3) (v := .int omw) (ty := .int) (C := RX3) (T := TX3) (N := 3) hx hb hts in_X3_copyFrom_RX3 tyX3 tyX3_ok nmX3 hown hK.1 hP hD hS 0 rfl rfl 2 (by decide) (hts _ k_X3_copyFrom_f18) (fun _ h9 => h9) rfl (by decide +kernel) rfl rfl (Nat.le_of_ble_eq_true rfl) dX3_copyFrom_21 (fun H locs hP hD hS => ?_)
  have hP : va_P G.1 vwCl (MA h0 omk omt omw ++ MA h1 omk omt omw) H := hP
  have hD : va_D A (MA h0 omk omt omw ++ MA h1 omk omt omw) := hD
  exact end_V C0 hP hD hS (omk, omt, omw) (by simp only [f_X3_copyFrom]) rfl dX3_copyFrom_24

def f_X5_kindAt (ln : Int32) (q : (Nat → Int32)) (p0 : Int32) : Int32 :=
  if p0 < 0 then
    (-5)
  else
    if ln ≤ p0 then
      (-5)
    else
      if (nI 12) ≤ p0 then
        (-5)
      else
        (q p0.toNatClampNeg)
set_option maxRecDepth 20000 in
theorem k_X5_kindAt_f15 : Cond.fieldLink RX5 15 "SteamRations$WaitingLine" "length" "I" ∈ wsX5_kindAt := by decide +kernel
set_option maxRecDepth 20000 in
theorem k_X5_kindAt_f9 : Cond.fieldLink RX5 9 "SteamRations$WaitingLine" "kinds" "[I" ∈ wsX5_kindAt := by decide +kernel
set_option maxRecDepth 20000 in
theorem in_X5_kindAt_RX5 : ∀ w ∈ u_ws RX5 TX5 2, w ∈ wsX5_kindAt := by decide +kernel
theorem cd_X5_kindAt : yX5_kindAt.cls = RX5 ∧ yX5_kindAt.cls ≠ "java/lang/invoke/MethodHandle" ∧ yX5_kindAt.cls ≠ "java/lang/invoke/VarHandle" ∧ (parseMethodDescriptor yX5_kindAt.desc).map (fun d => d.parameters.length) = some 1 := by decide +kernel
set_option maxHeartbeats 4000000 in
set_option maxRecDepth 100000 in
theorem c_X5_kindAt (l : Launch) (G : GG) (h0 : Nat) (h1 : Nat) (ln : Int32) (q : (Nat → Int32)) (sz : Nat) (p0 : Int32)  : Met l yX5_kindAt wsX5_kindAt ({ frames := 0, cells := 0, slots := 0, locals := 0 }) (Pre G [.ref h0, .int p0] (LN G h0 h1 ln q) sz) (PI G (va_A (LN G h0 h1 ln q) sz) (fun r (_ : Unit) => f_X5_kindAt ln q p0 = r) (fun _ : Unit => LN G h0 h1 ln q)) 0 0 (va_A (LN G h0 h1 ln q) sz) := by
  refine Met.walk (cc := cX5_kindAt) (maxL := 2) (ret := (some .int)) (Qc := fun A => PI G A (fun r (_ : Unit) => f_X5_kindAt ln q p0 = r) (fun _ : Unit => LN G h0 h1 ln q)) (by decide) rfl (Nat.le_of_ble_eq_true rfl) ?_
  intro p e s m below meth c A H C0 _ hK hsz hP hD hA hS ls hl
  have hx := C0.1
  have hb := C0.2.1
  have hown : s.vm.findClass RX5 = some m.cls := C0.2.2.2.2.1
  have hml := C0.2.2.2.1
  have hts : ∀ w ∈ wsX5_kindAt, w.before [.ref h0, .int p0].toArray s = true := C0.2.2.2.2.2.1
  have hl : lv_has ls 2 [(0, .ref h0), (1, .int p0)] := hl
  refine lv_iload_n hx hb dX5_kindAt_0 rfl (lv_at hl 1 rfl) ?_
  refine lv_if_lt (tgt := 30) hx hb dX5_kindAt_1 (by decide) (fun c_1 => ?_) (fun c_1 => ?_)
  · refine lv_bipush (v := (-5)) hx hb dX5_kindAt_30 (by decide) ?_
    exact end_I C0 hP hD hS () (by simp only [f_X5_kindAt, if_pos c_1]) rfl dX5_kindAt_32
  · refine lv_iload_n hx hb dX5_kindAt_4 rfl (lv_at hl 1 rfl) ?_
    refine lv_aload_n hx hb dX5_kindAt_5 rfl (lv_at hl 0 rfl) ?_
    refine va_get (D := G.1) (ci := 5) (v := .int ln) (C := RX5) (T := TX5) (N := 2) hx hb hts in_X5_kindAt_RX5 hown hK.1 hP 0 rfl rfl 1 (by decide) (hts _ k_X5_kindAt_f15) (fun _ h9 => h9) rfl dX5_kindAt_6 ?_
    refine lv_icmp_ge (tgt := 30) hx hb dX5_kindAt_9 (by decide) (fun c_2 => ?_) (fun c_2 => ?_)
    · refine lv_bipush (v := (-5)) hx hb dX5_kindAt_30 (by decide) ?_
      exact end_I C0 hP hD hS () (by simp only [f_X5_kindAt, if_neg c_1, if_pos c_2]) rfl dX5_kindAt_32
    · refine lv_iload_n hx hb dX5_kindAt_12 rfl (lv_at hl 1 rfl) ?_
      refine lv_aload_n hx hb dX5_kindAt_13 rfl (lv_at hl 0 rfl) ?_
      refine va_get (D := G.1) (ci := 5) (v := .ref h1) (C := RX5) (T := TX5) (N := 2) hx hb hts in_X5_kindAt_RX5 hown hK.1 hP 0 rfl rfl 0 (by decide) (hts _ k_X5_kindAt_f9) (fun _ h9 => h9) rfl dX5_kindAt_14 ?_
      refine n_alen (n := 12) hx hb hK hP 1 0 rfl rfl dX5_kindAt_17 ?_
      refine lv_icmp_ge (tgt := 30) hx hb dX5_kindAt_18 (by decide) (fun c_3 => ?_) (fun c_3 => ?_)
      · refine lv_bipush (v := (-5)) hx hb dX5_kindAt_30 (by decide) ?_
        exact end_I C0 hP hD hS () (by simp only [f_X5_kindAt, if_neg c_1, if_neg c_2, if_pos c_3]) rfl dX5_kindAt_32
      · refine lv_aload_n hx hb dX5_kindAt_21 rfl (lv_at hl 0 rfl) ?_
        refine va_get (D := G.1) (ci := 5) (v := .ref h1) (C := RX5) (T := TX5) (N := 2) hx hb hts in_X5_kindAt_RX5 hown hK.1 hP 0 rfl rfl 0 (by decide) (hts _ k_X5_kindAt_f9) (fun _ h9 => h9) rfl dX5_kindAt_22 ?_
        refine lv_iload_n hx hb dX5_kindAt_25 rfl (lv_at hl 1 rfl) ?_
        refine va_iald (f := q) hx hb hK.1 hP 1 0 rfl rfl (vinOf c_1 c_3 (by decide)) dX5_kindAt_26 ?_
        refine lv_goto (tgt := 32) hx hb dX5_kindAt_27 (by decide) ?_
        exact end_I C0 hP hD hS () (by simp only [f_X5_kindAt, if_neg c_1, if_neg c_2, if_neg c_3]) rfl dX5_kindAt_32

def f_X5_add (ln : Int32) (q : (Nat → Int32)) (p0 : Int32) : Int32 × Int32 × (Nat → Int32) :=
  if ln < 0 then
    ((-3), ln, q)
  else
    if ln < (nI 12) then
      (((ln + (nI 1)) - (nI 1)), (ln + (nI 1)), (upd q ln.toNatClampNeg p0))
    else
      ((-3), ln, q)
set_option maxRecDepth 20000 in
theorem k_X5_add_f15 : Cond.fieldLink RX5 15 "SteamRations$WaitingLine" "length" "I" ∈ wsX5_add := by decide +kernel
set_option maxRecDepth 20000 in
theorem k_X5_add_f9 : Cond.fieldLink RX5 9 "SteamRations$WaitingLine" "kinds" "[I" ∈ wsX5_add := by decide +kernel
set_option maxRecDepth 20000 in
theorem in_X5_add_RX5 : ∀ w ∈ u_ws RX5 TX5 2, w ∈ wsX5_add := by decide +kernel
theorem cd_X5_add : yX5_add.cls = RX5 ∧ yX5_add.cls ≠ "java/lang/invoke/MethodHandle" ∧ yX5_add.cls ≠ "java/lang/invoke/VarHandle" ∧ (parseMethodDescriptor yX5_add.desc).map (fun d => d.parameters.length) = some 1 := by decide +kernel
set_option maxHeartbeats 4000000 in
set_option maxRecDepth 100000 in
theorem c_X5_add (l : Launch) (G : GG) (h0 : Nat) (h1 : Nat) (ln : Int32) (q : (Nat → Int32)) (sz : Nat) (p0 : Int32)  : Met l yX5_add wsX5_add ({ frames := 0, cells := 0, slots := 0, locals := 0 }) (Pre G [.ref h0, .int p0] (LN G h0 h1 ln q) sz) (PI G (va_A (LN G h0 h1 ln q) sz) (fun r (u : Int32 × (Nat → Int32)) => f_X5_add ln q p0 = (r, u)) (fun u : Int32 × (Nat → Int32) => LN G h0 h1 u.1 u.2)) 0 0 (va_A (LN G h0 h1 ln q) sz) := by
  refine Met.walk (cc := cX5_add) (maxL := 2) (ret := (some .int)) (Qc := fun A => PI G A (fun r (u : Int32 × (Nat → Int32)) => f_X5_add ln q p0 = (r, u)) (fun u : Int32 × (Nat → Int32) => LN G h0 h1 u.1 u.2)) (by decide) rfl (Nat.le_of_ble_eq_true rfl) ?_
  intro p e s m below meth c A H C0 _ hK hsz hP hD hA hS ls hl
  have hx := C0.1
  have hb := C0.2.1
  have hown : s.vm.findClass RX5 = some m.cls := C0.2.2.2.2.1
  have hml := C0.2.2.2.1
  have hts : ∀ w ∈ wsX5_add, w.before [.ref h0, .int p0].toArray s = true := C0.2.2.2.2.2.1
  have hl : lv_has ls 2 [(0, .ref h0), (1, .int p0)] := hl
  refine lv_aload_n hx hb dX5_add_0 rfl (lv_at hl 0 rfl) ?_
  refine va_get (D := G.1) (ci := 5) (v := .int ln) (C := RX5) (T := TX5) (N := 2) hx hb hts in_X5_add_RX5 hown hK.1 hP 0 rfl rfl 1 (by decide) (hts _ k_X5_add_f15) (fun _ h9 => h9) rfl dX5_add_1 ?_
  refine lv_if_lt (tgt := 19) hx hb dX5_add_4 (by decide) (fun c_1 => ?_) (fun c_1 => ?_)
  · refine lv_bipush (v := (-3)) hx hb dX5_add_19 (by decide) ?_
    exact end_I C0 hP hD hS (ln, q) (by simp only [f_X5_add, if_pos c_1]) rfl dX5_add_21
  · refine lv_aload_n hx hb dX5_add_7 rfl (lv_at hl 0 rfl) ?_
    refine va_get (D := G.1) (ci := 5) (v := .int ln) (C := RX5) (T := TX5) (N := 2) hx hb hts in_X5_add_RX5 hown hK.1 hP 0 rfl rfl 1 (by decide) (hts _ k_X5_add_f15) (fun _ h9 => h9) rfl dX5_add_8 ?_
    refine lv_aload_n hx hb dX5_add_11 rfl (lv_at hl 0 rfl) ?_
    refine va_get (D := G.1) (ci := 5) (v := .ref h1) (C := RX5) (T := TX5) (N := 2) hx hb hts in_X5_add_RX5 hown hK.1 hP 0 rfl rfl 0 (by decide) (hts _ k_X5_add_f9) (fun _ h9 => h9) rfl dX5_add_12 ?_
    refine n_alen (n := 12) hx hb hK hP 1 0 rfl rfl dX5_add_15 ?_
    refine lv_icmp_lt (tgt := 22) hx hb dX5_add_16 (by decide) (fun c_2 => ?_) (fun c_2 => ?_)
    · refine lv_aload_n hx hb dX5_add_22 rfl (lv_at hl 0 rfl) ?_
      refine va_get (D := G.1) (ci := 5) (v := .ref h1) (C := RX5) (T := TX5) (N := 2) hx hb hts in_X5_add_RX5 hown hK.1 hP 0 rfl rfl 0 (by decide) (hts _ k_X5_add_f9) (fun _ h9 => h9) rfl dX5_add_23 ?_
      refine lv_aload_n hx hb dX5_add_26 rfl (lv_at hl 0 rfl) ?_
      refine va_get (D := G.1) (ci := 5) (v := .int ln) (C := RX5) (T := TX5) (N := 2) hx hb hts in_X5_add_RX5 hown hK.1 hP 0 rfl rfl 1 (by decide) (hts _ k_X5_add_f15) (fun _ h9 => h9) rfl dX5_add_27 ?_
      refine lv_iload_n hx hb dX5_add_30 rfl (lv_at hl 1 rfl) ?_
      refine va_iast (f := q) (x := p0) hx hb hK.1 hP hD hS 1 0 rfl rfl (vinOf c_1 (ltOf c_2) (by decide)) dX5_add_31 (fun H locs hP hD hS => ?_)
      have hP : va_P G.1 vwCl (LN G h0 h1 ln (upd q ln.toNatClampNeg p0)) H := hP
      have hD : va_D A (LN G h0 h1 ln (upd q ln.toNatClampNeg p0)) := hD
      refine lv_aload_n hx hb dX5_add_32 rfl (lv_at hl 0 rfl) ?_
      refine lv_dup hx hb dX5_add_33 rfl ?_
      refine va_get (D := G.1) (ci := 5) (v := .int ln) (C := RX5) (T := TX5) (N := 2) hx hb hts in_X5_add_RX5 hown hK.1 hP 0 rfl rfl 1 (by decide) (hts _ k_X5_add_f15) (fun _ h9 => h9) rfl dX5_add_34 ?_
      refine lv_iconst (v := (nI 1)) hx hb dX5_add_37 (by decide) ?_
      refine lv_iadd hx hb dX5_add_38 ?_
      refine va_put (D := G.1) (ci := 5) (v := .int (ln + (nI 1))) (ty := .int) (C := RX5) (T := TX5) (N := 2) hx hb hts in_X5_add_RX5 tyX5 tyX5_ok nmX5 hown hK.1 hP hD hS 0 rfl rfl 1 (by decide) (hts _ k_X5_add_f15) (fun _ h9 => h9) rfl (by decide +kernel) rfl rfl (Nat.le_of_ble_eq_true rfl) dX5_add_39 (fun H locs hP hD hS => ?_)
      have hP : va_P G.1 vwCl (LN G h0 h1 (ln + (nI 1)) (upd q ln.toNatClampNeg p0)) H := hP
      have hD : va_D A (LN G h0 h1 (ln + (nI 1)) (upd q ln.toNatClampNeg p0)) := hD
      refine lv_aload_n hx hb dX5_add_42 rfl (lv_at hl 0 rfl) ?_
      refine va_get (D := G.1) (ci := 5) (v := .int (ln + (nI 1))) (C := RX5) (T := TX5) (N := 2) hx hb hts in_X5_add_RX5 hown hK.1 hP 0 rfl rfl 1 (by decide) (hts _ k_X5_add_f15) (fun _ h9 => h9) rfl dX5_add_43 ?_
      refine lv_iconst (v := (nI 1)) hx hb dX5_add_46 (by decide) ?_
      refine lv_isub hx hb dX5_add_47 ?_
      exact end_I C0 hP hD hS ((ln + (nI 1)), (upd q ln.toNatClampNeg p0)) (by simp only [f_X5_add, if_neg c_1, if_pos c_2]) rfl dX5_add_48
    · refine lv_bipush (v := (-3)) hx hb dX5_add_19 (by decide) ?_
      exact end_I C0 hP hD hS (ln, q) (by simp only [f_X5_add, if_neg c_1, if_neg c_2]) rfl dX5_add_21

def f_X5_copyFrom (oln : Int32) (oq : Nat → Int32) : Int32 × (Nat → Int32) := (oln, oq)
set_option maxRecDepth 20000 in
theorem k_X5_copyFrom_f15 : Cond.fieldLink RX5 15 "SteamRations$WaitingLine" "length" "I" ∈ wsX5_copyFrom := by decide +kernel
set_option maxRecDepth 20000 in
theorem k_X5_copyFrom_f9 : Cond.fieldLink RX5 9 "SteamRations$WaitingLine" "kinds" "[I" ∈ wsX5_copyFrom := by decide +kernel
set_option maxRecDepth 20000 in
theorem in_X5_copyFrom_RX5 : ∀ w ∈ u_ws RX5 TX5 2, w ∈ wsX5_copyFrom := by decide +kernel
theorem cd_X5_copyFrom : yX5_copyFrom.cls = RX5 ∧ yX5_copyFrom.cls ≠ "java/lang/invoke/MethodHandle" ∧ yX5_copyFrom.cls ≠ "java/lang/invoke/VarHandle" ∧ (parseMethodDescriptor yX5_copyFrom.desc).map (fun d => d.parameters.length) = some 1 := by decide +kernel
set_option maxHeartbeats 4000000 in
set_option maxRecDepth 100000 in
theorem c_X5_copyFrom (l : Launch) (G : GG) (h0 : Nat) (h1 : Nat) (h2 : Nat) (h3 : Nat) (ln : Int32) (q : (Nat → Int32)) (oln : Int32) (oq : (Nat → Int32)) (sz : Nat)   : Met l yX5_copyFrom wsX5_copyFrom ({ frames := 0, cells := 0, slots := 0, locals := 0 }) (Pre G [.ref h0, .ref h2] (LN G h0 h1 ln q ++ LN G h2 h3 oln oq) sz) (PV G (va_A (LN G h0 h1 ln q ++ LN G h2 h3 oln oq) sz) (fun u : Int32 × (Nat → Int32) => f_X5_copyFrom oln oq = u) (fun u : Int32 × (Nat → Int32) => LN G h0 h1 u.1 u.2 ++ LN G h2 h3 oln oq)) 0 0 (va_A (LN G h0 h1 ln q ++ LN G h2 h3 oln oq) sz) := by
  refine Met.walk (cc := cX5_copyFrom) (maxL := 3) (ret := none) (Qc := fun A => PV G A (fun u : Int32 × (Nat → Int32) => f_X5_copyFrom oln oq = u) (fun u : Int32 × (Nat → Int32) => LN G h0 h1 u.1 u.2 ++ LN G h2 h3 oln oq)) (by decide) rfl (Nat.le_of_ble_eq_true rfl) ?_
  intro p e s m below meth c A H C0 _ hK hsz hP hD hA hS ls hl
  have hx := C0.1
  have hb := C0.2.1
  have hown : s.vm.findClass RX5 = some m.cls := C0.2.2.2.2.1
  have hml := C0.2.2.2.1
  have hts : ∀ w ∈ wsX5_copyFrom, w.before [.ref h0, .ref h2].toArray s = true := C0.2.2.2.2.2.1
  have hl : lv_has ls 3 [(0, .ref h0), (1, .ref h2)] := hl
  have h_X5_copyFrom_10 : ∀ (n : Nat) (ln_10 : Int32) (q_10 : (Nat → Int32)) (i : Nat), 12 - i < n → (i ≤ 12) → (ln_10 = oln) → (∀ j, j < i → q_10 j = oq j) → ∀ (H : Heap) (locs : List Loc) (ls : Array Slot), va_P G.1 vwCl (LN G h0 h1 ln_10 q_10 ++ LN G h2 h3 oln oq) H → va_D A (LN G h0 h1 ln_10 q_10 ++ LN G h2 h3 oln oq) → va_S A s.heap H locs → lv_has ls 3 [(2, .int (nI i)), (0, .ref h0), (1, .ref h2)] → W p l e ({ frames := 0, cells := 0, slots := 0, locals := 0 }) s m ([.ref h0, .ref h2] : List Value).toArray below meth c H locs 0 0 (MQ below (PV G A (fun u : Int32 × (Nat → Int32) => f_X5_copyFrom oln oq = u) (fun u : Int32 × (Nat → Int32) => LN G h0 h1 u.1 u.2 ++ LN G h2 h3 oln oq)) ([.ref h0, .ref h2] : List Value).toArray s 0 0 A) (F0 m 10 ls []) := by
    intro n
    induction n with
    | zero =>
      intro ln_10 q_10 i hm
      exact absurd hm (Nat.not_lt_zero _)
    | succ n ih =>
      intro ln_10 q_10 i hm hi hl0 hq  H locs ls hP hD hS hl
      refine lv_iload_n hx hb dX5_copyFrom_10 rfl (lv_at hl 0 rfl) ?_
      refine lv_aload_n hx hb dX5_copyFrom_11 rfl (lv_at hl 1 rfl) ?_
      refine va_get (D := G.1) (ci := 5) (v := .ref h1) (C := RX5) (T := TX5) (N := 2) hx hb hts in_X5_copyFrom_RX5 hown hK.1 hP 0 rfl rfl 0 (by decide) (hts _ k_X5_copyFrom_f9) (fun _ h9 => h9) rfl dX5_copyFrom_12 ?_
      refine n_alen (n := 12) hx hb hK hP 1 0 rfl rfl dX5_copyFrom_15 ?_
      refine lv_icmp_ge (tgt := 46) hx hb dX5_copyFrom_16 (by decide) (fun c_1 => ?_) (fun c_1 => ?_)
      · have c_1n : 12 ≤ i := (nI_leI (by omega) (by omega)).mp c_1
        rw [hl0] at hP hD
        have hP : va_P G.1 vwCl (LN G h0 h1 oln oq ++ LN G h2 h3 oln oq) H := va_P_arr (k := 1) (by intro j hj; exact hq j (by omega)) hP rfl rfl
        have hD : va_D A (LN G h0 h1 oln oq ++ LN G h2 h3 oln oq) := va_D_arr (k := 1) hD rfl rfl
        exact end_V C0 hP hD hS (oln, oq) rfl rfl dX5_copyFrom_46
      · have c_1n : ¬ (12 ≤ i) := fun z => c_1 ((nI_leI (by omega) (by omega)).mpr z)
        refine lv_iload_n hx hb dX5_copyFrom_19 rfl (lv_at hl 0 rfl) ?_
        refine lv_aload_n hx hb dX5_copyFrom_20 rfl (lv_at hl 2 rfl) ?_
        refine va_get (D := G.1) (ci := 5) (v := .ref h3) (C := RX5) (T := TX5) (N := 2) hx hb hts in_X5_copyFrom_RX5 hown hK.1 hP 2 rfl rfl 0 (by decide) (hts _ k_X5_copyFrom_f9) (fun _ h9 => h9) rfl dX5_copyFrom_21 ?_
        refine n_alen (n := 12) hx hb hK hP 3 0 rfl rfl dX5_copyFrom_24 ?_
        refine lv_icmp_ge (tgt := 46) hx hb dX5_copyFrom_25 (by decide) (fun c_2 => absurd c_2 c_1) (fun c_2 => ?_)
        refine lv_aload_n hx hb dX5_copyFrom_28 rfl (lv_at hl 1 rfl) ?_
        refine va_get (D := G.1) (ci := 5) (v := .ref h1) (C := RX5) (T := TX5) (N := 2) hx hb hts in_X5_copyFrom_RX5 hown hK.1 hP 0 rfl rfl 0 (by decide) (hts _ k_X5_copyFrom_f9) (fun _ h9 => h9) rfl dX5_copyFrom_29 ?_
        refine lv_iload_n hx hb dX5_copyFrom_32 rfl (lv_at hl 0 rfl) ?_
        refine lv_aload_n hx hb dX5_copyFrom_33 rfl (lv_at hl 2 rfl) ?_
        refine va_get (D := G.1) (ci := 5) (v := .ref h3) (C := RX5) (T := TX5) (N := 2) hx hb hts in_X5_copyFrom_RX5 hown hK.1 hP 2 rfl rfl 0 (by decide) (hts _ k_X5_copyFrom_f9) (fun _ h9 => h9) rfl dX5_copyFrom_34 ?_
        refine lv_iload_n hx hb dX5_copyFrom_37 rfl (lv_at hl 0 rfl) ?_
        refine n_iald (f := oq) (j := i) hx hb hK hP 3 rfl (by omega) (by decide) dX5_copyFrom_38 ?_
        refine n_iast (f := q_10) (j := i) (x := (oq i)) hx hb hK hP hD hS 1 rfl (by omega) (by decide) dX5_copyFrom_39 (fun H locs hP hD hS => ?_)
        have hP : va_P G.1 vwCl (LN G h0 h1 ln_10 (upd q_10 i (oq i)) ++ LN G h2 h3 oln oq) H := hP
        have hD : va_D A (LN G h0 h1 ln_10 (upd q_10 i (oq i)) ++ LN G h2 h3 oln oq) := hD
        refine lv_iinc (v := (nI (i + 1))) (lv' := [(2, .int (nI (i + 1))), (0, .ref h0), (1, .ref h2)]) hx hb dX5_copyFrom_40 hl (k := 0) rfl (inc1 i) (by decide) rfl (fun ls hl => ?_)
        refine lv_goto (tgt := 10) hx hb dX5_copyFrom_43 (by decide) ?_
        exact ih ln_10 (upd q_10 i (oq i)) (i + 1) (by omega) (by omega) hl0 (upd_copied hq)  _ _ _ hP hD hS (lv_sub hl [0, 1, 2] rfl)
  refine lv_aload_n hx hb dX5_copyFrom_0 rfl (lv_at hl 0 rfl) ?_
  refine lv_aload_n hx hb dX5_copyFrom_1 rfl (lv_at hl 1 rfl) ?_
  refine va_get (D := G.1) (ci := 5) (v := .int oln) (C := RX5) (T := TX5) (N := 2) hx hb hts in_X5_copyFrom_RX5 hown hK.1 hP 2 rfl rfl 1 (by decide) (hts _ k_X5_copyFrom_f15) (fun _ h9 => h9) rfl dX5_copyFrom_2 ?_
  refine va_put (D := G.1) (ci := 5) (v := .int oln) (ty := .int) (C := RX5) (T := TX5) (N := 2) hx hb hts in_X5_copyFrom_RX5 tyX5 tyX5_ok nmX5 hown hK.1 hP hD hS 0 rfl rfl 1 (by decide) (hts _ k_X5_copyFrom_f15) (fun _ h9 => h9) rfl (by decide +kernel) rfl rfl (Nat.le_of_ble_eq_true rfl) dX5_copyFrom_5 (fun H locs hP hD hS => ?_)
  have hP : va_P G.1 vwCl (LN G h0 h1 oln q ++ LN G h2 h3 oln oq) H := hP
  have hD : va_D A (LN G h0 h1 oln q ++ LN G h2 h3 oln oq) := hD
  refine lv_iconst (v := (nI 0)) hx hb dX5_copyFrom_8 (by decide) ?_
  refine lv_istore_n (lv' := [(2, .int (nI 0)), (0, .ref h0), (1, .ref h2)]) hx hb dX5_copyFrom_9 rfl hl (by decide) rfl (fun ls hl => ?_)
  exact h_X5_copyFrom_10 13 oln q 0 (by omega) (by omega) rfl (fun j h => absurd h (Nat.not_lt_zero j))  _ _ _ hP hD hS (lv_sub hl [0, 1, 2] rfl)

def s_X5_remove_24  : Nat → Int32 → (Nat → Int32) → Int32 → Nat → Int32 × Int32 × (Nat → Int32)
  | 0, _, _, _, _ => (0, 0, fun _ => 0)
  | n + 1, ln_24, q_24, k, i =>
    if ln_24 ≤ (nI i) then
      (k, (ln_24 - (nI 1)), q_24)
    else
      if (nI 12) ≤ (nI i) then
        (k, (ln_24 - (nI 1)), q_24)
      else
        s_X5_remove_24 n ln_24 (upd q_24 (i - 1) (q_24 i)) k (i + 1)
def f_X5_remove (ln : Int32) (q : (Nat → Int32)) (p0 : Int32) : Int32 × Int32 × (Nat → Int32) :=
  if p0 < 0 then
    ((-1), ln, q)
  else
    if p0 < ln then
      s_X5_remove_24 13 ln q (f_X5_kindAt ln q (nI p0.toNatClampNeg)) (p0.toNatClampNeg + 1)
    else
      ((-1), ln, q)
set_option maxRecDepth 20000 in
theorem k_X5_remove_f15 : Cond.fieldLink RX5 15 "SteamRations$WaitingLine" "length" "I" ∈ wsX5_remove := by decide +kernel
set_option maxRecDepth 20000 in
theorem k_X5_remove_f9 : Cond.fieldLink RX5 9 "SteamRations$WaitingLine" "kinds" "[I" ∈ wsX5_remove := by decide +kernel
set_option maxRecDepth 20000 in
theorem in_X5_remove_RX5 : ∀ w ∈ u_ws RX5 TX5 2, w ∈ wsX5_remove := by decide +kernel
theorem cd_X5_remove : yX5_remove.cls = RX5 ∧ yX5_remove.cls ≠ "java/lang/invoke/MethodHandle" ∧ yX5_remove.cls ≠ "java/lang/invoke/VarHandle" ∧ (parseMethodDescriptor yX5_remove.desc).map (fun d => d.parameters.length) = some 1 := by decide +kernel
set_option maxHeartbeats 4000000 in
set_option maxRecDepth 100000 in
theorem c_X5_remove (l : Launch) (G : GG) (h0 : Nat) (h1 : Nat) (ln : Int32) (q : (Nat → Int32)) (sz : Nat) (p0 : Int32)  : Met l yX5_remove wsX5_remove ({ frames := 1, cells := 0, slots := 0, locals := 21 }) (Pre G [.ref h0, .int p0] (LN G h0 h1 ln q) sz) (PI G (va_A (LN G h0 h1 ln q) sz) (fun r (u : Int32 × (Nat → Int32)) => f_X5_remove ln q p0 = (r, u)) (fun u : Int32 × (Nat → Int32) => LN G h0 h1 u.1 u.2)) 0 0 (va_A (LN G h0 h1 ln q) sz) := by
  refine Met.walk (cc := cX5_remove) (maxL := 4) (ret := (some .int)) (Qc := fun A => PI G A (fun r (u : Int32 × (Nat → Int32)) => f_X5_remove ln q p0 = (r, u)) (fun u : Int32 × (Nat → Int32) => LN G h0 h1 u.1 u.2)) (by decide) rfl (Nat.le_of_ble_eq_true rfl) ?_
  intro p e s m below meth c A H C0 _ hK hsz hP hD hA hS ls hl
  have hx := C0.1
  have hb := C0.2.1
  have hown : s.vm.findClass RX5 = some m.cls := C0.2.2.2.2.1
  have hml := C0.2.2.2.1
  have hts : ∀ w ∈ wsX5_remove, w.before [.ref h0, .int p0].toArray s = true := C0.2.2.2.2.2.1
  have hl : lv_has ls 4 [(0, .ref h0), (1, .int p0)] := hl
  have h_X5_remove_24 : ∀ (n : Nat) (ln_24 : Int32) (q_24 : (Nat → Int32)) (k : Int32) (i : Nat), 12 - i < n → (1 ≤ i ∧ i < 2 ^ 31) → f_X5_remove ln q p0 = s_X5_remove_24 n ln_24 q_24 k i → ∀ (H : Heap) (locs : List Loc) (ls : Array Slot), va_P G.1 vwCl (LN G h0 h1 ln_24 q_24) H → va_D A (LN G h0 h1 ln_24 q_24) → va_S A s.heap H locs → lv_has ls 4 [(3, .int (nI i)), (2, .int k), (0, .ref h0)] → W p l e ({ frames := 1, cells := 0, slots := 0, locals := 21 }) s m ([.ref h0, .int p0] : List Value).toArray below meth c H locs 0 0 (MQ below (PI G A (fun r (u : Int32 × (Nat → Int32)) => f_X5_remove ln q p0 = (r, u)) (fun u : Int32 × (Nat → Int32) => LN G h0 h1 u.1 u.2)) ([.ref h0, .int p0] : List Value).toArray s 0 0 A) (F0 m 24 ls []) := by
    intro n
    induction n with
    | zero =>
      intro ln_24 q_24 k i hm
      exact absurd hm (Nat.not_lt_zero _)
    | succ n ih =>
      intro ln_24 q_24 k i hm hi hE H locs ls hP hD hS hl
      refine lv_iload_n hx hb dX5_remove_24 rfl (lv_at hl 0 rfl) ?_
      refine lv_aload_n hx hb dX5_remove_25 rfl (lv_at hl 2 rfl) ?_
      refine va_get (D := G.1) (ci := 5) (v := .int ln_24) (C := RX5) (T := TX5) (N := 2) hx hb hts in_X5_remove_RX5 hown hK.1 hP 0 rfl rfl 1 (by decide) (hts _ k_X5_remove_f15) (fun _ h9 => h9) rfl dX5_remove_26 ?_
      refine lv_icmp_ge (tgt := 61) hx hb dX5_remove_29 (by decide) (fun c_4 => ?_) (fun c_4 => ?_)
      · refine lv_aload_n hx hb dX5_remove_61 rfl (lv_at hl 2 rfl) ?_
        refine lv_dup hx hb dX5_remove_62 rfl ?_
        refine va_get (D := G.1) (ci := 5) (v := .int ln_24) (C := RX5) (T := TX5) (N := 2) hx hb hts in_X5_remove_RX5 hown hK.1 hP 0 rfl rfl 1 (by decide) (hts _ k_X5_remove_f15) (fun _ h9 => h9) rfl dX5_remove_63 ?_
        refine lv_iconst (v := (nI 1)) hx hb dX5_remove_66 (by decide) ?_
        refine lv_isub hx hb dX5_remove_67 ?_
        refine va_put (D := G.1) (ci := 5) (v := .int (ln_24 - (nI 1))) (ty := .int) (C := RX5) (T := TX5) (N := 2) hx hb hts in_X5_remove_RX5 tyX5 tyX5_ok nmX5 hown hK.1 hP hD hS 0 rfl rfl 1 (by decide) (hts _ k_X5_remove_f15) (fun _ h9 => h9) rfl (by decide +kernel) rfl rfl (Nat.le_of_ble_eq_true rfl) dX5_remove_68 (fun H locs hP hD hS => ?_)
        have hP : va_P G.1 vwCl (LN G h0 h1 (ln_24 - (nI 1)) q_24) H := hP
        have hD : va_D A (LN G h0 h1 (ln_24 - (nI 1)) q_24) := hD
        refine lv_iload_n hx hb dX5_remove_71 rfl (lv_at hl 1 rfl) ?_
        exact end_I C0 hP hD hS ((ln_24 - (nI 1)), q_24) (hE.trans (by simp only [s_X5_remove_24, if_pos c_4])) rfl dX5_remove_72
      · refine lv_iload_n hx hb dX5_remove_32 rfl (lv_at hl 0 rfl) ?_
        refine lv_aload_n hx hb dX5_remove_33 rfl (lv_at hl 2 rfl) ?_
        refine va_get (D := G.1) (ci := 5) (v := .ref h1) (C := RX5) (T := TX5) (N := 2) hx hb hts in_X5_remove_RX5 hown hK.1 hP 0 rfl rfl 0 (by decide) (hts _ k_X5_remove_f9) (fun _ h9 => h9) rfl dX5_remove_34 ?_
        refine n_alen (n := 12) hx hb hK hP 1 0 rfl rfl dX5_remove_37 ?_
        refine lv_icmp_ge (tgt := 61) hx hb dX5_remove_38 (by decide) (fun c_5 => ?_) (fun c_5 => ?_)
        · have c_5n : 12 ≤ i := (nI_leI (by omega) (by omega)).mp c_5
          refine lv_aload_n hx hb dX5_remove_61 rfl (lv_at hl 2 rfl) ?_
          refine lv_dup hx hb dX5_remove_62 rfl ?_
          refine va_get (D := G.1) (ci := 5) (v := .int ln_24) (C := RX5) (T := TX5) (N := 2) hx hb hts in_X5_remove_RX5 hown hK.1 hP 0 rfl rfl 1 (by decide) (hts _ k_X5_remove_f15) (fun _ h9 => h9) rfl dX5_remove_63 ?_
          refine lv_iconst (v := (nI 1)) hx hb dX5_remove_66 (by decide) ?_
          refine lv_isub hx hb dX5_remove_67 ?_
          refine va_put (D := G.1) (ci := 5) (v := .int (ln_24 - (nI 1))) (ty := .int) (C := RX5) (T := TX5) (N := 2) hx hb hts in_X5_remove_RX5 tyX5 tyX5_ok nmX5 hown hK.1 hP hD hS 0 rfl rfl 1 (by decide) (hts _ k_X5_remove_f15) (fun _ h9 => h9) rfl (by decide +kernel) rfl rfl (Nat.le_of_ble_eq_true rfl) dX5_remove_68 (fun H locs hP hD hS => ?_)
          have hP : va_P G.1 vwCl (LN G h0 h1 (ln_24 - (nI 1)) q_24) H := hP
          have hD : va_D A (LN G h0 h1 (ln_24 - (nI 1)) q_24) := hD
          refine lv_iload_n hx hb dX5_remove_71 rfl (lv_at hl 1 rfl) ?_
          exact end_I C0 hP hD hS ((ln_24 - (nI 1)), q_24) (hE.trans (by simp only [s_X5_remove_24, if_neg c_4, if_pos c_5])) rfl dX5_remove_72
        · have c_5n : ¬ (12 ≤ i) := fun z => c_5 ((nI_leI (by omega) (by omega)).mpr z)
          refine lv_aload_n hx hb dX5_remove_41 rfl (lv_at hl 2 rfl) ?_
          refine va_get (D := G.1) (ci := 5) (v := .ref h1) (C := RX5) (T := TX5) (N := 2) hx hb hts in_X5_remove_RX5 hown hK.1 hP 0 rfl rfl 0 (by decide) (hts _ k_X5_remove_f9) (fun _ h9 => h9) rfl dX5_remove_42 ?_
          refine lv_iload_n hx hb dX5_remove_45 rfl (lv_at hl 0 rfl) ?_
          refine lv_iconst (v := (nI 1)) hx hb dX5_remove_46 (by decide) ?_
          refine n_isub (i := i) (j := 1) hx hb (by omega) dX5_remove_47 ?_
          refine lv_aload_n hx hb dX5_remove_48 rfl (lv_at hl 2 rfl) ?_
          refine va_get (D := G.1) (ci := 5) (v := .ref h1) (C := RX5) (T := TX5) (N := 2) hx hb hts in_X5_remove_RX5 hown hK.1 hP 0 rfl rfl 0 (by decide) (hts _ k_X5_remove_f9) (fun _ h9 => h9) rfl dX5_remove_49 ?_
          refine lv_iload_n hx hb dX5_remove_52 rfl (lv_at hl 0 rfl) ?_
          refine n_iald (f := q_24) (j := i) hx hb hK hP 1 rfl (by omega) (by decide) dX5_remove_53 ?_
          refine n_iast (f := q_24) (j := i - 1) (x := (q_24 i)) hx hb hK hP hD hS 1 rfl (by omega) (by decide) dX5_remove_54 (fun H locs hP hD hS => ?_)
          have hP : va_P G.1 vwCl (LN G h0 h1 ln_24 (upd q_24 (i - 1) (q_24 i))) H := hP
          have hD : va_D A (LN G h0 h1 ln_24 (upd q_24 (i - 1) (q_24 i))) := hD
          refine lv_iinc (v := (nI (i + 1))) (lv' := [(3, .int (nI (i + 1))), (2, .int k), (0, .ref h0)]) hx hb dX5_remove_55 hl (k := 0) rfl (inc1 i) (by decide) rfl (fun ls hl => ?_)
          refine lv_goto (tgt := 24) hx hb dX5_remove_58 (by decide) ?_
          exact ih ln_24 (upd q_24 (i - 1) (q_24 i)) k (i + 1) (by omega) (by omega) (hE.trans (by simp only [s_X5_remove_24, if_neg c_4, if_neg c_5])) _ _ _ hP hD hS (lv_sub hl [0, 1, 2] rfl)
  refine lv_iload_n hx hb dX5_remove_0 rfl (lv_at hl 1 rfl) ?_
  refine lv_if_lt (tgt := 12) hx hb dX5_remove_1 (by decide) (fun c_1 => ?_) (fun c_1 => ?_)
  · refine lv_iconst (v := (-1)) hx hb dX5_remove_12 (by decide) ?_
    exact end_I C0 hP hD hS (ln, q) (by simp only [f_X5_remove, if_pos c_1]) rfl dX5_remove_13
  · refine lv_iload_n hx hb dX5_remove_4 rfl (lv_at hl 1 rfl) ?_
    refine lv_aload_n hx hb dX5_remove_5 rfl (lv_at hl 0 rfl) ?_
    refine va_get (D := G.1) (ci := 5) (v := .int ln) (C := RX5) (T := TX5) (N := 2) hx hb hts in_X5_remove_RX5 hown hK.1 hP 0 rfl rfl 1 (by decide) (hts _ k_X5_remove_f15) (fun _ h9 => h9) rfl dX5_remove_6 ?_
    refine lv_icmp_lt (tgt := 14) hx hb dX5_remove_9 (by decide) (fun c_2 => ?_) (fun c_2 => ?_)
    · have ej_2 : p0 = nI p0.toNatClampNeg := natOf c_1
      have hj_2 : p0.toNatClampNeg + 1 < 2 ^ 31 := natSucc c_1 c_2
      have hl : lv_has ls 4 [(0, .ref h0), (1, .int (nI p0.toNatClampNeg))] := by rw [← ej_2]; exact hl
      refine lv_aload_n hx hb dX5_remove_14 rfl (lv_at hl 0 rfl) ?_
      refine lv_iload_n hx hb dX5_remove_15 rfl (lv_at hl 1 rfl) ?_
      refine gcall_I (run_V (As := [.int (nI p0.toNatClampNeg)]) (rest := []) C0 hK hP hD (c_X5_kindAt l G h0 h1 ln q H.size (nI p0.toNatClampNeg)) (cwV 1 hts gX5_remove_X5_kindAt rfl rfl rfl cd_X5_kindAt ⟨Nat.le_of_ble_eq_true rfl, Nat.le_of_ble_eq_true rfl⟩) [0, 1] rfl rfl 0 (ci := 5) rfl rfl rfl rfl hl.1 rfl (Nat.le_of_ble_eq_true rfl) dX5_remove_16 ⟨Nat.le_of_ble_eq_true rfl, Nat.le_of_ble_eq_true rfl⟩) hP hD hS hA [0, 1] rfl rfl (fun _ => rfl) (fun r_3 _ H locs hw_3 hP hD hS => ?_)
      subst hw_3
      have hP : va_P G.1 vwCl (LN G h0 h1 ln q) H := hP
      have hD : va_D A (LN G h0 h1 ln q) := hD
      refine lv_istore_n (lv' := [(2, .int (f_X5_kindAt ln q (nI p0.toNatClampNeg))), (0, .ref h0), (1, .int (nI p0.toNatClampNeg))]) hx hb dX5_remove_19 rfl hl (by decide) rfl (fun ls hl => ?_)
      refine lv_iload_n hx hb dX5_remove_20 rfl (lv_at hl 2 rfl) ?_
      refine lv_iconst (v := (nI 1)) hx hb dX5_remove_21 (by decide) ?_
      refine n_iadd (i := p0.toNatClampNeg) (j := 1) hx hb dX5_remove_22 ?_
      refine lv_istore_n (lv' := [(3, .int (nI (p0.toNatClampNeg + 1))), (2, .int (f_X5_kindAt ln q (nI p0.toNatClampNeg))), (0, .ref h0), (1, .int (nI p0.toNatClampNeg))]) hx hb dX5_remove_23 rfl hl (by decide) rfl (fun ls hl => ?_)
      exact h_X5_remove_24 13 ln q (f_X5_kindAt ln q (nI p0.toNatClampNeg)) (p0.toNatClampNeg + 1) (by omega) (by omega) (by simp only [f_X5_remove, if_neg c_1, if_pos c_2]) _ _ _ hP hD hS (lv_sub hl [0, 1, 2] rfl)
    · refine lv_iconst (v := (-1)) hx hb dX5_remove_12 (by decide) ?_
      exact end_I C0 hP hD hS (ln, q) (by simp only [f_X5_remove, if_neg c_1, if_neg c_2]) rfl dX5_remove_13
