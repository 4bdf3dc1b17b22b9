def f_X4_rewind  : Int32 :=
  (nI 0)
set_option maxRecDepth 20000 in
theorem k_X4_rewind_f26 : Cond.fieldLink RX4 26 "SteamRations$OrderText" "place" "I" ∈ wsX4_rewind := by decide +kernel
set_option maxRecDepth 20000 in
theorem in_X4_rewind_RX4 : ∀ w ∈ u_ws RX4 TX4 6, w ∈ wsX4_rewind := by decide +kernel
theorem cd_X4_rewind : yX4_rewind.cls = RX4 ∧ yX4_rewind.cls ≠ "java/lang/invoke/MethodHandle" ∧ yX4_rewind.cls ≠ "java/lang/invoke/VarHandle" ∧ (parseMethodDescriptor yX4_rewind.desc).map (fun d => d.parameters.length) = some 0 := by decide +kernel
set_option maxHeartbeats 4000000 in
set_option maxRecDepth 100000 in
theorem c_X4_rewind (l : Launch) (G : GG) (h0 : Nat) (h1 : Nat) (tp : Int32) (tl : Int32) (tr : Int32) (tg : Int32) (tv : Int32) (T : (Nat → Int32)) (sz : Nat)   : Met l yX4_rewind wsX4_rewind ({ frames := 0, cells := 0, slots := 0, locals := 0 }) (Pre G [.ref h0] (OT G h0 h1 tp tl tr tg tv T) sz) (PV G (va_A (OT G h0 h1 tp tl tr tg tv T) sz) (fun u : Int32 => f_X4_rewind = u) (fun u : Int32 => OT G h0 h1 u tl tr tg tv T)) 0 0 (va_A (OT G h0 h1 tp tl tr tg tv T) sz) := by
  refine Met.walk (cc := cX4_rewind) (maxL := 1) (ret := none) (Qc := fun A => PV G A (fun u : Int32 => f_X4_rewind = u) (fun u : Int32 => OT G h0 h1 u tl tr tg tv T)) (by decide) rfl (Nat.le_of_ble_eq_true rfl) ?_
  intro p e s m below meth c A H C0 _ hK hsz hP hD hA hS ls hl
  have hx := C0.1
  have hb := C0.2.1
  have hown : s.vm.findClass RX4 = some m.cls := C0.2.2.2.2.1
  have hml := C0.2.2.2.1
  have hts : ∀ w ∈ wsX4_rewind, w.before [.ref h0].toArray s = true := C0.2.2.2.2.2.1
  have hl : lv_has ls 1 [(0, .ref h0)] := hl
  refine lv_aload_n hx hb dX4_rewind_0 rfl (lv_at hl 0 rfl) ?_
  refine lv_iconst (v := (nI 0)) hx hb dX4_rewind_1 (by decide) ?_
  refine va_put (D := G.1) (ci := 4) (v := .int (nI 0)) (ty := .int) (C := RX4) (T := TX4) (N := 6) hx hb hts in_X4_rewind_RX4 tyX4 tyX4_ok nmX4 hown hK.1 hP hD hS 0 rfl rfl 1 (by decide) (hts _ k_X4_rewind_f26) (fun _ h9 => h9) rfl (by decide +kernel) rfl rfl (Nat.le_of_ble_eq_true rfl) dX4_rewind_2 (fun H locs hP hD hS => ?_)
  have hP : va_P G.1 vwCl (OT G h0 h1 (nI 0) tl tr tg tv T) H := hP
  have hD : va_D A (OT G h0 h1 (nI 0) tl tr tg tv T) := hD
  exact end_V C0 hP hD hS (nI 0) (by simp only [f_X4_rewind]) rfl dX4_rewind_5

def f_X4_here (tp : Int32) (tl : Int32) (T : (Nat → Int32)) : Int32 :=
  if tp < 0 then
    (-1)
  else
    if tl ≤ tp then
      (-1)
    else
      if tp < (nI 80) then
        (T tp.toNatClampNeg)
      else
        (-1)
set_option maxRecDepth 20000 in
theorem k_X4_here_f15 : Cond.fieldLink RX4 15 "SteamRations$OrderText" "length" "I" ∈ wsX4_here := by decide +kernel
set_option maxRecDepth 20000 in
theorem k_X4_here_f26 : Cond.fieldLink RX4 26 "SteamRations$OrderText" "place" "I" ∈ wsX4_here := by decide +kernel
set_option maxRecDepth 20000 in
theorem k_X4_here_f9 : Cond.fieldLink RX4 9 "SteamRations$OrderText" "characters" "[C" ∈ wsX4_here := by decide +kernel
set_option maxRecDepth 20000 in
theorem in_X4_here_RX4 : ∀ w ∈ u_ws RX4 TX4 6, w ∈ wsX4_here := by decide +kernel
theorem cd_X4_here : yX4_here.cls = RX4 ∧ yX4_here.cls ≠ "java/lang/invoke/MethodHandle" ∧ yX4_here.cls ≠ "java/lang/invoke/VarHandle" ∧ (parseMethodDescriptor yX4_here.desc).map (fun d => d.parameters.length) = some 0 := by decide +kernel
set_option maxHeartbeats 4000000 in
set_option maxRecDepth 100000 in
theorem c_X4_here (l : Launch) (G : GG) (h0 : Nat) (h1 : Nat) (tp : Int32) (tl : Int32) (tr : Int32) (tg : Int32) (tv : Int32) (T : (Nat → Int32)) (sz : Nat)   : Met l yX4_here wsX4_here ({ frames := 0, cells := 0, slots := 0, locals := 0 }) (Pre G [.ref h0] (OT G h0 h1 tp tl tr tg tv T) sz) (PI G (va_A (OT G h0 h1 tp tl tr tg tv T) sz) (fun r (_ : Unit) => f_X4_here tp tl T = r) (fun _ : Unit => OT G h0 h1 tp tl tr tg tv T)) 0 0 (va_A (OT G h0 h1 tp tl tr tg tv T) sz) := by
  refine Met.walk (cc := cX4_here) (maxL := 1) (ret := (some .int)) (Qc := fun A => PI G A (fun r (_ : Unit) => f_X4_here tp tl T = r) (fun _ : Unit => OT G h0 h1 tp tl tr tg tv T)) (by decide) rfl (Nat.le_of_ble_eq_true rfl) ?_
  intro p e s m below meth c A H C0 _ hK hsz hP hD hA hS ls hl
  have hx := C0.1
  have hb := C0.2.1
  have hown : s.vm.findClass RX4 = some m.cls := C0.2.2.2.2.1
  have hml := C0.2.2.2.1
  have hts : ∀ w ∈ wsX4_here, w.before [.ref h0].toArray s = true := C0.2.2.2.2.2.1
  have hl : lv_has ls 1 [(0, .ref h0)] := hl
  refine lv_aload_n hx hb dX4_here_0 rfl (lv_at hl 0 rfl) ?_
  refine va_get (D := G.1) (ci := 4) (v := .int tp) (C := RX4) (T := TX4) (N := 6) hx hb hts in_X4_here_RX4 hown hK.1 hP 0 rfl rfl 1 (by decide) (hts _ k_X4_here_f26) (fun _ h9 => h9) rfl dX4_here_1 ?_
  refine lv_if_lt (tgt := 30) hx hb dX4_here_4 (by decide) (fun c_1 => ?_) (fun c_1 => ?_)
  · refine lv_iconst (v := (-1)) hx hb dX4_here_30 (by decide) ?_
    exact end_I C0 hP hD hS () (by simp only [f_X4_here, if_pos c_1]) rfl dX4_here_31
  · refine lv_aload_n hx hb dX4_here_7 rfl (lv_at hl 0 rfl) ?_
    refine va_get (D := G.1) (ci := 4) (v := .int tp) (C := RX4) (T := TX4) (N := 6) hx hb hts in_X4_here_RX4 hown hK.1 hP 0 rfl rfl 1 (by decide) (hts _ k_X4_here_f26) (fun _ h9 => h9) rfl dX4_here_8 ?_
    refine lv_aload_n hx hb dX4_here_11 rfl (lv_at hl 0 rfl) ?_
    refine va_get (D := G.1) (ci := 4) (v := .int tl) (C := RX4) (T := TX4) (N := 6) hx hb hts in_X4_here_RX4 hown hK.1 hP 0 rfl rfl 2 (by decide) (hts _ k_X4_here_f15) (fun _ h9 => h9) rfl dX4_here_12 ?_
    refine lv_icmp_ge (tgt := 30) hx hb dX4_here_15 (by decide) (fun c_2 => ?_) (fun c_2 => ?_)
    · refine lv_iconst (v := (-1)) hx hb dX4_here_30 (by decide) ?_
      exact end_I C0 hP hD hS () (by simp only [f_X4_here, if_neg c_1, if_pos c_2]) rfl dX4_here_31
    · refine lv_aload_n hx hb dX4_here_18 rfl (lv_at hl 0 rfl) ?_
      refine va_get (D := G.1) (ci := 4) (v := .int tp) (C := RX4) (T := TX4) (N := 6) hx hb hts in_X4_here_RX4 hown hK.1 hP 0 rfl rfl 1 (by decide) (hts _ k_X4_here_f26) (fun _ h9 => h9) rfl dX4_here_19 ?_
      refine lv_aload_n hx hb dX4_here_22 rfl (lv_at hl 0 rfl) ?_
      refine va_get (D := G.1) (ci := 4) (v := .ref h1) (C := RX4) (T := TX4) (N := 6) hx hb hts in_X4_here_RX4 hown hK.1 hP 0 rfl rfl 0 (by decide) (hts _ k_X4_here_f9) (fun _ h9 => h9) rfl dX4_here_23 ?_
      refine n_alen (n := 80) hx hb hK hP 1 1 rfl rfl dX4_here_26 ?_
      refine lv_icmp_lt (tgt := 32) hx hb dX4_here_27 (by decide) (fun c_3 => ?_) (fun c_3 => ?_)
      · refine lv_aload_n hx hb dX4_here_32 rfl (lv_at hl 0 rfl) ?_
        refine va_get (D := G.1) (ci := 4) (v := .ref h1) (C := RX4) (T := TX4) (N := 6) hx hb hts in_X4_here_RX4 hown hK.1 hP 0 rfl rfl 0 (by decide) (hts _ k_X4_here_f9) (fun _ h9 => h9) rfl dX4_here_33 ?_
        refine lv_aload_n hx hb dX4_here_36 rfl (lv_at hl 0 rfl) ?_
        refine va_get (D := G.1) (ci := 4) (v := .int tp) (C := RX4) (T := TX4) (N := 6) hx hb hts in_X4_here_RX4 hown hK.1 hP 0 rfl rfl 1 (by decide) (hts _ k_X4_here_f26) (fun _ h9 => h9) rfl dX4_here_37 ?_
        refine va_cald (f := T) hx hb hK.1 hP 1 1 rfl rfl (vinOf c_1 (ltOf c_3) (by decide)) dX4_here_40 ?_
        exact end_I C0 hP hD hS () (by simp only [f_X4_here, if_neg c_1, if_neg c_2, if_pos c_3]) rfl dX4_here_41
      · refine lv_iconst (v := (-1)) hx hb dX4_here_30 (by decide) ?_
        exact end_I C0 hP hD hS () (by simp only [f_X4_here, if_neg c_1, if_neg c_2, if_neg c_3]) rfl dX4_here_31

def f_X4_accept (tp : Int32) (tl : Int32) (T : (Nat → Int32)) (p0 : Int32) : Int32 × Int32 :=
  if (f_X4_here tp tl T) = p0 then
    ((nI 1), (tp + (nI 1)))
  else
    ((nI 0), tp)
set_option maxRecDepth 20000 in
theorem k_X4_accept_f26 : Cond.fieldLink RX4 26 "SteamRations$OrderText" "place" "I" ∈ wsX4_accept := by decide +kernel
set_option maxRecDepth 20000 in
theorem in_X4_accept_RX4 : ∀ w ∈ u_ws RX4 TX4 6, w ∈ wsX4_accept := by decide +kernel
theorem cd_X4_accept : yX4_accept.cls = RX4 ∧ yX4_accept.cls ≠ "java/lang/invoke/MethodHandle" ∧ yX4_accept.cls ≠ "java/lang/invoke/VarHandle" ∧ (parseMethodDescriptor yX4_accept.desc).map (fun d => d.parameters.length) = some 1 := by decide +kernel
set_option maxHeartbeats 4000000 in
set_option maxRecDepth 100000 in
theorem c_X4_accept (l : Launch) (G : GG) (h0 : Nat) (h1 : Nat) (tp : Int32) (tl : Int32) (tr : Int32) (tg : Int32) (tv : Int32) (T : (Nat → Int32)) (sz : Nat) (p0 : Int32)  : Met l yX4_accept wsX4_accept ({ frames := 1, cells := 0, slots := 0, locals := 20 }) (Pre G [.ref h0, .int p0] (OT G h0 h1 tp tl tr tg tv T) sz) (PI G (va_A (OT G h0 h1 tp tl tr tg tv T) sz) (fun r (u : Int32) => f_X4_accept tp tl T p0 = (r, u) ∧ (r = nI 0 ∨ r = nI 1)) (fun u : Int32 => OT G h0 h1 u tl tr tg tv T)) 0 0 (va_A (OT G h0 h1 tp tl tr tg tv T) sz) := by
  refine Met.walk (cc := cX4_accept) (maxL := 2) (ret := (some .boolean)) (Qc := fun A => PI G A (fun r (u : Int32) => f_X4_accept tp tl T p0 = (r, u) ∧ (r = nI 0 ∨ r = nI 1)) (fun u : Int32 => OT G h0 h1 u tl tr tg tv T)) (by decide) rfl (Nat.le_of_ble_eq_true rfl) ?_
  intro p e s m below meth c A H C0 _ hK hsz hP hD hA hS ls hl
  have hx := C0.1
  have hb := C0.2.1
  have hown : s.vm.findClass RX4 = some m.cls := C0.2.2.2.2.1
  have hml := C0.2.2.2.1
  have hts : ∀ w ∈ wsX4_accept, w.before [.ref h0, .int p0].toArray s = true := C0.2.2.2.2.2.1
  have hl : lv_has ls 2 [(0, .ref h0), (1, .int p0)] := hl
  refine lv_aload_n hx hb dX4_accept_0 rfl (lv_at hl 0 rfl) ?_
  refine gcall_I (run_V (As := []) (rest := []) C0 hK hP hD (c_X4_here l G h0 h1 tp tl tr tg tv T H.size ) (cwV 0 hts gX4_accept_X4_here rfl rfl rfl cd_X4_here ⟨Nat.le_of_ble_eq_true rfl, Nat.le_of_ble_eq_true rfl⟩) [0, 1] rfl rfl 0 (ci := 4) rfl rfl rfl rfl hl.1 rfl (Nat.le_of_ble_eq_true rfl) dX4_accept_1 ⟨Nat.le_of_ble_eq_true rfl, Nat.le_of_ble_eq_true rfl⟩) hP hD hS hA [0, 1] rfl rfl (fun _ => rfl) (fun r_1 _ H locs hw_1 hP hD hS => ?_)
  subst hw_1
  have hP : va_P G.1 vwCl (OT G h0 h1 tp tl tr tg tv T) H := hP
  have hD : va_D A (OT G h0 h1 tp tl tr tg tv T) := hD
  refine lv_iload_n hx hb dX4_accept_4 rfl (lv_at hl 1 rfl) ?_
  refine lv_icmp_eq (tgt := 10) hx hb dX4_accept_5 (by decide) (fun c_2 => ?_) (fun c_2 => ?_)
  · refine lv_aload_n hx hb dX4_accept_10 rfl (lv_at hl 0 rfl) ?_
    refine lv_dup hx hb dX4_accept_11 rfl ?_
    refine va_get (D := G.1) (ci := 4) (v := .int tp) (C := RX4) (T := TX4) (N := 6) hx hb hts in_X4_accept_RX4 hown hK.1 hP 0 rfl rfl 1 (by decide) (hts _ k_X4_accept_f26) (fun _ h9 => h9) rfl dX4_accept_12 ?_
    refine lv_iconst (v := (nI 1)) hx hb dX4_accept_15 (by decide) ?_
    refine lv_iadd hx hb dX4_accept_16 ?_
    refine va_put (D := G.1) (ci := 4) (v := .int (tp + (nI 1))) (ty := .int) (C := RX4) (T := TX4) (N := 6) hx hb hts in_X4_accept_RX4 tyX4 tyX4_ok nmX4 hown hK.1 hP hD hS 0 rfl rfl 1 (by decide) (hts _ k_X4_accept_f26) (fun _ h9 => h9) rfl (by decide +kernel) rfl rfl (Nat.le_of_ble_eq_true rfl) dX4_accept_17 (fun H locs hP hD hS => ?_)
    have hP : va_P G.1 vwCl (OT G h0 h1 (tp + (nI 1)) tl tr tg tv T) H := hP
    have hD : va_D A (OT G h0 h1 (tp + (nI 1)) tl tr tg tv T) := hD
    refine lv_iconst (v := (nI 1)) hx hb dX4_accept_20 (by decide) ?_
    exact end_Z C0 (by decide) hP hD hS (tp + (nI 1)) ⟨(by simp only [f_X4_accept, if_pos c_2]), by decide⟩ rfl dX4_accept_21
  · refine lv_iconst (v := (nI 0)) hx hb dX4_accept_8 (by decide) ?_
    exact end_Z C0 (by decide) hP hD hS tp ⟨(by simp only [f_X4_accept, if_neg c_2]), by decide⟩ rfl dX4_accept_9

def f_X4_digitHere (tp : Int32) (tl : Int32) (T : (Nat → Int32)) : Int32 :=
  if (f_X6_isWithin (f_X4_here tp tl T) (nI 48) (nI 57)) = 0 then
    (-1)
  else
    ((f_X4_here tp tl T) - (nI 48))
theorem cd_X4_digitHere : yX4_digitHere.cls = RX4 ∧ yX4_digitHere.cls ≠ "java/lang/invoke/MethodHandle" ∧ yX4_digitHere.cls ≠ "java/lang/invoke/VarHandle" ∧ (parseMethodDescriptor yX4_digitHere.desc).map (fun d => d.parameters.length) = some 0 := by decide +kernel
set_option maxHeartbeats 4000000 in
set_option maxRecDepth 100000 in
theorem c_X4_digitHere (l : Launch) (G : GG) (h0 : Nat) (h1 : Nat) (tp : Int32) (tl : Int32) (tr : Int32) (tg : Int32) (tv : Int32) (T : (Nat → Int32)) (sz : Nat)   : Met l yX4_digitHere wsX4_digitHere ({ frames := 1, cells := 0, slots := 0, locals := 22 }) (Pre G [.ref h0] (OT G h0 h1 tp tl tr tg tv T) sz) (PI G (va_A (OT G h0 h1 tp tl tr tg tv T) sz) (fun r (_ : Unit) => f_X4_digitHere tp tl T = r) (fun _ : Unit => OT G h0 h1 tp tl tr tg tv T)) 0 0 (va_A (OT G h0 h1 tp tl tr tg tv T) sz) := by
  refine Met.walk (cc := cX4_digitHere) (maxL := 2) (ret := (some .int)) (Qc := fun A => PI G A (fun r (_ : Unit) => f_X4_digitHere tp tl T = r) (fun _ : Unit => OT G h0 h1 tp tl tr tg tv T)) (by decide) rfl (Nat.le_of_ble_eq_true rfl) ?_
  intro p e s m below meth c A H C0 _ hK hsz hP hD hA hS ls hl
  have hx := C0.1
  have hb := C0.2.1
  have hown : s.vm.findClass RX4 = some m.cls := C0.2.2.2.2.1
  have hml := C0.2.2.2.1
  have hts : ∀ w ∈ wsX4_digitHere, w.before [.ref h0].toArray s = true := C0.2.2.2.2.2.1
  have hl : lv_has ls 2 [(0, .ref h0)] := hl
  refine lv_aload_n hx hb dX4_digitHere_0 rfl (lv_at hl 0 rfl) ?_
  refine gcall_I (run_V (As := []) (rest := []) C0 hK hP hD (c_X4_here l G h0 h1 tp tl tr tg tv T H.size ) (cwV 0 hts gX4_digitHere_X4_here rfl rfl rfl cd_X4_here ⟨Nat.le_of_ble_eq_true rfl, Nat.le_of_ble_eq_true rfl⟩) [0, 1] rfl rfl 0 (ci := 4) rfl rfl rfl rfl hl.1 rfl (Nat.le_of_ble_eq_true rfl) dX4_digitHere_1 ⟨Nat.le_of_ble_eq_true rfl, Nat.le_of_ble_eq_true rfl⟩) hP hD hS hA [0, 1] rfl rfl (fun _ => rfl) (fun r_1 _ H locs hw_1 hP hD hS => ?_)
  subst hw_1
  have hP : va_P G.1 vwCl (OT G h0 h1 tp tl tr tg tv T) H := hP
  have hD : va_D A (OT G h0 h1 tp tl tr tg tv T) := hD
  refine lv_istore_n (lv' := [(1, .int (f_X4_here tp tl T)), (0, .ref h0)]) hx hb dX4_digitHere_4 rfl hl (by decide) rfl (fun ls hl => ?_)
  refine lv_iload_n hx hb dX4_digitHere_5 rfl (lv_at hl 0 rfl) ?_
  refine lv_bipush (v := (nI 48)) hx hb dX4_digitHere_6 (by decide) ?_
  refine lv_bipush (v := (nI 57)) hx hb dX4_digitHere_8 (by decide) ?_
  refine gcall_I (run_SN (As := [.int (f_X4_here tp tl T), .int (nI 48), .int (nI 57)]) (rest := []) C0 hK hP hD (c_X6_isWithin l G   H.size (f_X4_here tp tl T) (nI 48) (nI 57)) (va_cnB 3 hts gX4_digitHere_X6_isWithin_n57 rfl rfl rfl hK.2.2.2.2.2.2 (hts _ (by decide +kernel)) cd2_X6_isWithin ⟨Nat.le_of_ble_eq_true rfl, Nat.le_of_ble_eq_true rfl⟩) (hts _ (by decide +kernel)) [] rfl rfl rfl hl.1 rfl (Nat.le_of_ble_eq_true rfl) dX4_digitHere_10 ⟨Nat.le_of_ble_eq_true rfl, Nat.le_of_ble_eq_true rfl⟩) hP hD hS hA [] rfl rfl (fun _ => rfl) (fun r_2 _ H locs hw_2 hP hD hS => ?_)
  have hz_r_2 := hw_2.2
  have hw_2 := hw_2.1
  subst hw_2
  have hP : va_P G.1 vwCl (OT G h0 h1 tp tl tr tg tv T) H := hP
  have hD : va_D A (OT G h0 h1 tp tl tr tg tv T) := hD
  refine lv_if_eq (tgt := 23) hx hb dX4_digitHere_13 (by decide) (fun c_3 => ?_) (fun c_3 => ?_)
  · refine lv_iconst (v := (-1)) hx hb dX4_digitHere_23 (by decide) ?_
    exact end_I C0 hP hD hS () (by simp only [f_X4_digitHere, if_pos c_3]) rfl dX4_digitHere_24
  · refine lv_iload_n hx hb dX4_digitHere_16 rfl (lv_at hl 0 rfl) ?_
    refine lv_bipush (v := (nI 48)) hx hb dX4_digitHere_17 (by decide) ?_
    refine lv_isub hx hb dX4_digitHere_19 ?_
    refine lv_goto (tgt := 24) hx hb dX4_digitHere_20 (by decide) ?_
    exact end_I C0 hP hD hS () (by simp only [f_X4_digitHere, if_neg c_3]) rfl dX4_digitHere_24

def f_X4_readValue (tp : Int32) (tl : Int32) (tv : Int32) (T : (Nat → Int32)) (p0 : Int32) (p1 : Int32) : Int32 × Int32 × Int32 :=
  if (f_X6_isWithin (f_X4_digitHere tp tl T) p0 p1) = 0 then
    ((nI 0), tp, tv)
  else
    if (f_X4_digitHere tp tl T) ≤ 0 then
      ((nI 1), (tp + (nI 1)), (f_X4_digitHere tp tl T))
    else
      if (f_X4_digitHere (tp + (nI 1)) tl T) = (-1) then
        ((nI 1), (tp + (nI 1)), (f_X4_digitHere tp tl T))
      else
        if (((nI 10) * (f_X4_digitHere tp tl T)) + (f_X4_digitHere (tp + (nI 1)) tl T)) ≤ p1 then
          if (((nI 10) * (f_X4_digitHere tp tl T)) + (f_X4_digitHere (tp + (nI 1)) tl T)) ≤ 0 then
            ((nI 1), ((tp + (nI 1)) + (nI 1)), (((nI 10) * (f_X4_digitHere tp tl T)) + (f_X4_digitHere (tp + (nI 1)) tl T)))
          else
            if (f_X4_digitHere ((tp + (nI 1)) + (nI 1)) tl T) = (-1) then
              ((nI 1), ((tp + (nI 1)) + (nI 1)), (((nI 10) * (f_X4_digitHere tp tl T)) + (f_X4_digitHere (tp + (nI 1)) tl T)))
            else
              if (((nI 10) * (((nI 10) * (f_X4_digitHere tp tl T)) + (f_X4_digitHere (tp + (nI 1)) tl T))) + (f_X4_digitHere ((tp + (nI 1)) + (nI 1)) tl T)) ≤ p1 then
                ((nI 1), (((tp + (nI 1)) + (nI 1)) + (nI 1)), (((nI 10) * (((nI 10) * (f_X4_digitHere tp tl T)) + (f_X4_digitHere (tp + (nI 1)) tl T))) + (f_X4_digitHere ((tp + (nI 1)) + (nI 1)) tl T)))
              else
                ((nI 1), ((tp + (nI 1)) + (nI 1)), (((nI 10) * (f_X4_digitHere tp tl T)) + (f_X4_digitHere (tp + (nI 1)) tl T)))
        else
          ((nI 1), (tp + (nI 1)), (f_X4_digitHere tp tl T))
set_option maxRecDepth 20000 in
theorem k_X4_readValue_f26 : Cond.fieldLink RX4 26 "SteamRations$OrderText" "place" "I" ∈ wsX4_readValue := by decide +kernel
set_option maxRecDepth 20000 in
theorem k_X4_readValue_f48 : Cond.fieldLink RX4 48 "SteamRations$OrderText" "value" "I" ∈ wsX4_readValue := by decide +kernel
set_option maxRecDepth 20000 in
theorem in_X4_readValue_RX4 : ∀ w ∈ u_ws RX4 TX4 6, w ∈ wsX4_readValue := by decide +kernel
theorem cd_X4_readValue : yX4_readValue.cls = RX4 ∧ yX4_readValue.cls ≠ "java/lang/invoke/MethodHandle" ∧ yX4_readValue.cls ≠ "java/lang/invoke/VarHandle" ∧ (parseMethodDescriptor yX4_readValue.desc).map (fun d => d.parameters.length) = some 2 := by decide +kernel
set_option maxHeartbeats 4000000 in
set_option maxRecDepth 100000 in
theorem c_X4_readValue (l : Launch) (G : GG) (h0 : Nat) (h1 : Nat) (tp : Int32) (tl : Int32) (tr : Int32) (tg : Int32) (tv : Int32) (T : (Nat → Int32)) (sz : Nat) (p0 : Int32) (p1 : Int32)  : Met l yX4_readValue wsX4_readValue ({ frames := 2, cells := 0, slots := 0, locals := 43 }) (Pre G [.ref h0, .int p0, .int p1] (OT G h0 h1 tp tl tr tg tv T) sz) (PI G (va_A (OT G h0 h1 tp tl tr tg tv T) sz) (fun r (u : Int32 × Int32) => f_X4_readValue tp tl tv T p0 p1 = (r, u) ∧ (r = nI 0 ∨ r = nI 1)) (fun u : Int32 × Int32 => OT G h0 h1 u.1 tl tr tg u.2 T)) 0 0 (va_A (OT G h0 h1 tp tl tr tg tv T) sz) := by
  refine Met.walk (cc := cX4_readValue) (maxL := 5) (ret := (some .boolean)) (Qc := fun A => PI G A (fun r (u : Int32 × Int32) => f_X4_readValue tp tl tv T p0 p1 = (r, u) ∧ (r = nI 0 ∨ r = nI 1)) (fun u : Int32 × Int32 => OT G h0 h1 u.1 tl tr tg u.2 T)) (by decide) rfl (Nat.le_of_ble_eq_true rfl) ?_
  intro p e s m below meth c A H C0 _ hK hsz hP hD hA hS ls hl
  have hx := C0.1
  have hb := C0.2.1
  have hown : s.vm.findClass RX4 = some m.cls := C0.2.2.2.2.1
  have hml := C0.2.2.2.1
  have hts : ∀ w ∈ wsX4_readValue, w.before [.ref h0, .int p0, .int p1].toArray s = true := C0.2.2.2.2.2.1
  have hl : lv_has ls 5 [(0, .ref h0), (1, .int p0), (2, .int p1)] := hl
  refine lv_aload_n hx hb dX4_readValue_0 rfl (lv_at hl 0 rfl) ?_
  refine gcall_I (run_V (As := []) (rest := []) C0 hK hP hD (c_X4_digitHere l G h0 h1 tp tl tr tg tv T H.size ) (cwV 0 hts gX4_readValue_X4_digitHere rfl rfl rfl cd_X4_digitHere ⟨Nat.le_of_ble_eq_true rfl, Nat.le_of_ble_eq_true rfl⟩) [0, 1] rfl rfl 0 (ci := 4) rfl rfl rfl rfl hl.1 rfl (Nat.le_of_ble_eq_true rfl) dX4_readValue_1 ⟨Nat.le_of_ble_eq_true rfl, Nat.le_of_ble_eq_true rfl⟩) hP hD hS hA [0, 1] rfl rfl (fun _ => rfl) (fun r_1 _ H locs hw_1 hP hD hS => ?_)
  subst hw_1
  have hP : va_P G.1 vwCl (OT G h0 h1 tp tl tr tg tv T) H := hP
  have hD : va_D A (OT G h0 h1 tp tl tr tg tv T) := hD
  refine lv_istore_n (lv' := [(3, .int (f_X4_digitHere tp tl T)), (0, .ref h0), (1, .int p0), (2, .int p1)]) hx hb dX4_readValue_4 rfl hl (by decide) rfl (fun ls hl => ?_)
  refine lv_iload_n hx hb dX4_readValue_5 rfl (lv_at hl 0 rfl) ?_
  refine lv_iload_n hx hb dX4_readValue_6 rfl (lv_at hl 2 rfl) ?_
  refine lv_iload_n hx hb dX4_readValue_7 rfl (lv_at hl 3 rfl) ?_
  refine gcall_I (run_SN (As := [.int (f_X4_digitHere tp tl T), .int p0, .int p1]) (rest := []) C0 hK hP hD (c_X6_isWithin l G   H.size (f_X4_digitHere tp tl T) p0 p1) (va_cnB 3 hts gX4_readValue_X6_isWithin_n57 rfl rfl rfl hK.2.2.2.2.2.2 (hts _ (by decide +kernel)) cd2_X6_isWithin ⟨Nat.le_of_ble_eq_true rfl, Nat.le_of_ble_eq_true rfl⟩) (hts _ (by decide +kernel)) [] rfl rfl rfl hl.1 rfl (Nat.le_of_ble_eq_true rfl) dX4_readValue_8 ⟨Nat.le_of_ble_eq_true rfl, Nat.le_of_ble_eq_true rfl⟩) hP hD hS hA [] rfl rfl (fun _ => rfl) (fun r_2 _ H locs hw_2 hP hD hS => ?_)
  have hz_r_2 := hw_2.2
  have hw_2 := hw_2.1
  subst hw_2
  have hP : va_P G.1 vwCl (OT G h0 h1 tp tl tr tg tv T) H := hP
  have hD : va_D A (OT G h0 h1 tp tl tr tg tv T) := hD
  refine lv_if_ne (tgt := 16) hx hb dX4_readValue_11 (by decide) (fun c_3 => ?_) (fun c_3 => ?_)
  · refine lv_aload_n hx hb dX4_readValue_16 rfl (lv_at hl 1 rfl) ?_
    refine lv_iload_n hx hb dX4_readValue_17 rfl (lv_at hl 0 rfl) ?_
    refine va_put (D := G.1) (ci := 4) (v := .int (f_X4_digitHere tp tl T)) (ty := .int) (C := RX4) (T := TX4) (N := 6) hx hb hts in_X4_readValue_RX4 tyX4 tyX4_ok nmX4 hown hK.1 hP hD hS 0 rfl rfl 5 (by decide) (hts _ k_X4_readValue_f48) (fun _ h9 => h9) rfl (by decide +kernel) rfl rfl (Nat.le_of_ble_eq_true rfl) dX4_readValue_18 (fun H locs hP hD hS => ?_)
    have hP : va_P G.1 vwCl (OT G h0 h1 tp tl tr tg (f_X4_digitHere tp tl T) T) H := hP
    have hD : va_D A (OT G h0 h1 tp tl tr tg (f_X4_digitHere tp tl T) T) := hD
    refine lv_aload_n hx hb dX4_readValue_21 rfl (lv_at hl 1 rfl) ?_
    refine lv_dup hx hb dX4_readValue_22 rfl ?_
    refine va_get (D := G.1) (ci := 4) (v := .int tp) (C := RX4) (T := TX4) (N := 6) hx hb hts in_X4_readValue_RX4 hown hK.1 hP 0 rfl rfl 1 (by decide) (hts _ k_X4_readValue_f26) (fun _ h9 => h9) rfl dX4_readValue_23 ?_
    refine lv_iconst (v := (nI 1)) hx hb dX4_readValue_26 (by decide) ?_
    refine lv_iadd hx hb dX4_readValue_27 ?_
    refine va_put (D := G.1) (ci := 4) (v := .int (tp + (nI 1))) (ty := .int) (C := RX4) (T := TX4) (N := 6) hx hb hts in_X4_readValue_RX4 tyX4 tyX4_ok nmX4 hown hK.1 hP hD hS 0 rfl rfl 1 (by decide) (hts _ k_X4_readValue_f26) (fun _ h9 => h9) rfl (by decide +kernel) rfl rfl (Nat.le_of_ble_eq_true rfl) dX4_readValue_28 (fun H locs hP hD hS => ?_)
    have hP : va_P G.1 vwCl (OT G h0 h1 (tp + (nI 1)) tl tr tg (f_X4_digitHere tp tl T) T) H := hP
    have hD : va_D A (OT G h0 h1 (tp + (nI 1)) tl tr tg (f_X4_digitHere tp tl T) T) := hD
    refine lv_iconst (v := (nI 1)) hx hb dX4_readValue_31 (by decide) ?_
    refine lv_istore (lv' := [(4, .int (nI 1)), (3, .int (f_X4_digitHere tp tl T)), (0, .ref h0), (1, .int p0), (2, .int p1)]) hx hb dX4_readValue_32 hl (by decide) rfl (fun ls hl => ?_)
    refine lv_iload hx hb dX4_readValue_34 (lv_at hl 0 rfl) ?_
    refine lv_iconst (v := (nI 3)) hx hb dX4_readValue_36 (by decide) ?_
    refine lv_icmp_ge (tgt := 101) hx hb dX4_readValue_37 (by decide) (fun c_4 => absurd c_4 (by decide +kernel)) (fun c_4 => ?_)
    refine lv_aload_n hx hb dX4_readValue_40 rfl (lv_at hl 2 rfl) ?_
    refine va_get (D := G.1) (ci := 4) (v := .int (f_X4_digitHere tp tl T)) (C := RX4) (T := TX4) (N := 6) hx hb hts in_X4_readValue_RX4 hown hK.1 hP 0 rfl rfl 5 (by decide) (hts _ k_X4_readValue_f48) (fun _ h9 => h9) rfl dX4_readValue_41 ?_
    refine lv_if_le (tgt := 101) hx hb dX4_readValue_44 (by decide) (fun c_5 => ?_) (fun c_5 => ?_)
    · refine lv_iconst (v := (nI 1)) hx hb dX4_readValue_101 (by decide) ?_
      exact end_Z C0 (by decide) hP hD hS ((tp + (nI 1)), (f_X4_digitHere tp tl T)) ⟨(by simp only [f_X4_readValue, if_neg c_3, if_pos c_5]), by decide⟩ rfl dX4_readValue_102
    · refine lv_aload_n hx hb dX4_readValue_47 rfl (lv_at hl 2 rfl) ?_
      refine gcall_I (run_V (As := []) (rest := []) C0 hK hP hD (c_X4_digitHere l G h0 h1 (tp + (nI 1)) tl tr tg (f_X4_digitHere tp tl T) T H.size ) (cwV 0 hts gX4_readValue_X4_digitHere rfl rfl rfl cd_X4_digitHere ⟨Nat.le_of_ble_eq_true rfl, Nat.le_of_ble_eq_true rfl⟩) [0, 1] rfl rfl 0 (ci := 4) rfl rfl rfl rfl hl.1 rfl (Nat.le_of_ble_eq_true rfl) dX4_readValue_48 ⟨Nat.le_of_ble_eq_true rfl, Nat.le_of_ble_eq_true rfl⟩) hP hD hS hA [0, 1] rfl rfl (fun _ => rfl) (fun r_6 _ H locs hw_6 hP hD hS => ?_)
      subst hw_6
      have hP : va_P G.1 vwCl (OT G h0 h1 (tp + (nI 1)) tl tr tg (f_X4_digitHere tp tl T) T) H := hP
      have hD : va_D A (OT G h0 h1 (tp + (nI 1)) tl tr tg (f_X4_digitHere tp tl T) T) := hD
      refine lv_istore_n (lv' := [(3, .int (f_X4_digitHere (tp + (nI 1)) tl T)), (4, .int (nI 1)), (0, .ref h0), (1, .int p0), (2, .int p1)]) hx hb dX4_readValue_51 rfl hl (by decide) rfl (fun ls hl => ?_)
      refine lv_iload_n hx hb dX4_readValue_52 rfl (lv_at hl 0 rfl) ?_
      refine lv_iconst (v := (-1)) hx hb dX4_readValue_53 (by decide) ?_
      refine lv_icmp_eq (tgt := 70) hx hb dX4_readValue_54 (by decide) (fun c_7 => ?_) (fun c_7 => ?_)
      · refine lv_iconst (v := (nI 1)) hx hb dX4_readValue_70 (by decide) ?_
        exact end_Z C0 (by decide) hP hD hS ((tp + (nI 1)), (f_X4_digitHere tp tl T)) ⟨(by simp only [f_X4_readValue, if_neg c_3, if_neg c_5, if_pos c_7]), by decide⟩ rfl dX4_readValue_71
      · refine lv_bipush (v := (nI 10)) hx hb dX4_readValue_57 (by decide) ?_
        refine lv_aload_n hx hb dX4_readValue_59 rfl (lv_at hl 2 rfl) ?_
        refine va_get (D := G.1) (ci := 4) (v := .int (f_X4_digitHere tp tl T)) (C := RX4) (T := TX4) (N := 6) hx hb hts in_X4_readValue_RX4 hown hK.1 hP 0 rfl rfl 5 (by decide) (hts _ k_X4_readValue_f48) (fun _ h9 => h9) rfl dX4_readValue_60 ?_
        refine lv_imul hx hb dX4_readValue_63 ?_
        refine lv_iload_n hx hb dX4_readValue_64 rfl (lv_at hl 0 rfl) ?_
        refine lv_iadd hx hb dX4_readValue_65 ?_
        refine lv_iload_n hx hb dX4_readValue_66 rfl (lv_at hl 4 rfl) ?_
        refine lv_icmp_le (tgt := 72) hx hb dX4_readValue_67 (by decide) (fun c_8 => ?_) (fun c_8 => ?_)
        · refine lv_aload_n hx hb dX4_readValue_72 rfl (lv_at hl 2 rfl) ?_
          refine lv_bipush (v := (nI 10)) hx hb dX4_readValue_73 (by decide) ?_
          refine lv_aload_n hx hb dX4_readValue_75 rfl (lv_at hl 2 rfl) ?_
          refine va_get (D := G.1) (ci := 4) (v := .int (f_X4_digitHere tp tl T)) (C := RX4) (T := TX4) (N := 6) hx hb hts in_X4_readValue_RX4 hown hK.1 hP 0 rfl rfl 5 (by decide) (hts _ k_X4_readValue_f48) (fun _ h9 => h9) rfl dX4_readValue_76 ?_
          refine lv_imul hx hb dX4_readValue_79 ?_
          refine lv_iload_n hx hb dX4_readValue_80 rfl (lv_at hl 0 rfl) ?_
          refine lv_iadd hx hb dX4_readValue_81 ?_
          refine va_put (D := G.1) (ci := 4) (v := .int (((nI 10) * (f_X4_digitHere tp tl T)) + (f_X4_digitHere (tp + (nI 1)) tl T))) (ty := .int) (C := RX4) (T := TX4) (N := 6) hx hb hts in_X4_readValue_RX4 tyX4 tyX4_ok nmX4 hown hK.1 hP hD hS 0 rfl rfl 5 (by decide) (hts _ k_X4_readValue_f48) (fun _ h9 => h9) rfl (by decide +kernel) rfl rfl (Nat.le_of_ble_eq_true rfl) dX4_readValue_82 (fun H locs hP hD hS => ?_)
          have hP : va_P G.1 vwCl (OT G h0 h1 (tp + (nI 1)) tl tr tg (((nI 10) * (f_X4_digitHere tp tl T)) + (f_X4_digitHere (tp + (nI 1)) tl T)) T) H := hP
          have hD : va_D A (OT G h0 h1 (tp + (nI 1)) tl tr tg (((nI 10) * (f_X4_digitHere tp tl T)) + (f_X4_digitHere (tp + (nI 1)) tl T)) T) := hD
          refine lv_aload_n hx hb dX4_readValue_85 rfl (lv_at hl 2 rfl) ?_
          refine lv_dup hx hb dX4_readValue_86 rfl ?_
          refine va_get (D := G.1) (ci := 4) (v := .int (tp + (nI 1))) (C := RX4) (T := TX4) (N := 6) hx hb hts in_X4_readValue_RX4 hown hK.1 hP 0 rfl rfl 1 (by decide) (hts _ k_X4_readValue_f26) (fun _ h9 => h9) rfl dX4_readValue_87 ?_
          refine lv_iconst (v := (nI 1)) hx hb dX4_readValue_90 (by decide) ?_
          refine lv_iadd hx hb dX4_readValue_91 ?_
          refine va_put (D := G.1) (ci := 4) (v := .int ((tp + (nI 1)) + (nI 1))) (ty := .int) (C := RX4) (T := TX4) (N := 6) hx hb hts in_X4_readValue_RX4 tyX4 tyX4_ok nmX4 hown hK.1 hP hD hS 0 rfl rfl 1 (by decide) (hts _ k_X4_readValue_f26) (fun _ h9 => h9) rfl (by decide +kernel) rfl rfl (Nat.le_of_ble_eq_true rfl) dX4_readValue_92 (fun H locs hP hD hS => ?_)
          have hP : va_P G.1 vwCl (OT G h0 h1 ((tp + (nI 1)) + (nI 1)) tl tr tg (((nI 10) * (f_X4_digitHere tp tl T)) + (f_X4_digitHere (tp + (nI 1)) tl T)) T) H := hP
          have hD : va_D A (OT G h0 h1 ((tp + (nI 1)) + (nI 1)) tl tr tg (((nI 10) * (f_X4_digitHere tp tl T)) + (f_X4_digitHere (tp + (nI 1)) tl T)) T) := hD
          refine lv_iinc (v := (nI 2)) (lv' := [(4, .int (nI 2)), (3, .int (f_X4_digitHere (tp + (nI 1)) tl T)), (0, .ref h0), (1, .int p0), (2, .int p1)]) hx hb dX4_readValue_95 hl (k := 1) rfl (inc1 1) (by decide) rfl (fun ls hl => ?_)
          refine lv_goto (tgt := 34) hx hb dX4_readValue_98 (by decide) ?_
          refine lv_iload hx hb dX4_readValue_34 (lv_at hl 0 rfl) ?_
          refine lv_iconst (v := (nI 3)) hx hb dX4_readValue_36 (by decide) ?_
          refine lv_icmp_ge (tgt := 101) hx hb dX4_readValue_37 (by decide) (fun c_9 => absurd c_9 (by decide +kernel)) (fun c_9 => ?_)
          refine lv_aload_n hx hb dX4_readValue_40 rfl (lv_at hl 2 rfl) ?_
          refine va_get (D := G.1) (ci := 4) (v := .int (((nI 10) * (f_X4_digitHere tp tl T)) + (f_X4_digitHere (tp + (nI 1)) tl T))) (C := RX4) (T := TX4) (N := 6) hx hb hts in_X4_readValue_RX4 hown hK.1 hP 0 rfl rfl 5 (by decide) (hts _ k_X4_readValue_f48) (fun _ h9 => h9) rfl dX4_readValue_41 ?_
          refine lv_if_le (tgt := 101) hx hb dX4_readValue_44 (by decide) (fun c_10 => ?_) (fun c_10 => ?_)
          · refine lv_iconst (v := (nI 1)) hx hb dX4_readValue_101 (by decide) ?_
            exact end_Z C0 (by decide) hP hD hS (((tp + (nI 1)) + (nI 1)), (((nI 10) * (f_X4_digitHere tp tl T)) + (f_X4_digitHere (tp + (nI 1)) tl T))) ⟨(by simp only [f_X4_readValue, if_neg c_3, if_neg c_5, if_neg c_7, if_pos c_8, if_pos c_10]), by decide⟩ rfl dX4_readValue_102
          · refine lv_aload_n hx hb dX4_readValue_47 rfl (lv_at hl 2 rfl) ?_
            refine gcall_I (run_V (As := []) (rest := []) C0 hK hP hD (c_X4_digitHere l G h0 h1 ((tp + (nI 1)) + (nI 1)) tl tr tg (((nI 10) * (f_X4_digitHere tp tl T)) + (f_X4_digitHere (tp + (nI 1)) tl T)) T H.size ) (cwV 0 hts gX4_readValue_X4_digitHere rfl rfl rfl cd_X4_digitHere ⟨Nat.le_of_ble_eq_true rfl, Nat.le_of_ble_eq_true rfl⟩) [0, 1] rfl rfl 0 (ci := 4) rfl rfl rfl rfl hl.1 rfl (Nat.le_of_ble_eq_true rfl) dX4_readValue_48 ⟨Nat.le_of_ble_eq_true rfl, Nat.le_of_ble_eq_true rfl⟩) hP hD hS hA [0, 1] rfl rfl (fun _ => rfl) (fun r_11 _ H locs hw_11 hP hD hS => ?_)
            subst hw_11
            have hP : va_P G.1 vwCl (OT G h0 h1 ((tp + (nI 1)) + (nI 1)) tl tr tg (((nI 10) * (f_X4_digitHere tp tl T)) + (f_X4_digitHere (tp + (nI 1)) tl T)) T) H := hP
            have hD : va_D A (OT G h0 h1 ((tp + (nI 1)) + (nI 1)) tl tr tg (((nI 10) * (f_X4_digitHere tp tl T)) + (f_X4_digitHere (tp + (nI 1)) tl T)) T) := hD
            refine lv_istore_n (lv' := [(3, .int (f_X4_digitHere ((tp + (nI 1)) + (nI 1)) tl T)), (4, .int (nI 2)), (0, .ref h0), (1, .int p0), (2, .int p1)]) hx hb dX4_readValue_51 rfl hl (by decide) rfl (fun ls hl => ?_)
            refine lv_iload_n hx hb dX4_readValue_52 rfl (lv_at hl 0 rfl) ?_
            refine lv_iconst (v := (-1)) hx hb dX4_readValue_53 (by decide) ?_
            refine lv_icmp_eq (tgt := 70) hx hb dX4_readValue_54 (by decide) (fun c_12 => ?_) (fun c_12 => ?_)
            · refine lv_iconst (v := (nI 1)) hx hb dX4_readValue_70 (by decide) ?_
              exact end_Z C0 (by decide) hP hD hS (((tp + (nI 1)) + (nI 1)), (((nI 10) * (f_X4_digitHere tp tl T)) + (f_X4_digitHere (tp + (nI 1)) tl T))) ⟨(by simp only [f_X4_readValue, if_neg c_3, if_neg c_5, if_neg c_7, if_pos c_8, if_neg c_10, if_pos c_12]), by decide⟩ rfl dX4_readValue_71
            · refine lv_bipush (v := (nI 10)) hx hb dX4_readValue_57 (by decide) ?_
              refine lv_aload_n hx hb dX4_readValue_59 rfl (lv_at hl 2 rfl) ?_
              refine va_get (D := G.1) (ci := 4) (v := .int (((nI 10) * (f_X4_digitHere tp tl T)) + (f_X4_digitHere (tp + (nI 1)) tl T))) (C := RX4) (T := TX4) (N := 6) hx hb hts in_X4_readValue_RX4 hown hK.1 hP 0 rfl rfl 5 (by decide) (hts _ k_X4_readValue_f48) (fun _ h9 => h9) rfl dX4_readValue_60 ?_
              refine lv_imul hx hb dX4_readValue_63 ?_
              refine lv_iload_n hx hb dX4_readValue_64 rfl (lv_at hl 0 rfl) ?_
              refine lv_iadd hx hb dX4_readValue_65 ?_
              refine lv_iload_n hx hb dX4_readValue_66 rfl (lv_at hl 4 rfl) ?_
              refine lv_icmp_le (tgt := 72) hx hb dX4_readValue_67 (by decide) (fun c_13 => ?_) (fun c_13 => ?_)
              · refine lv_aload_n hx hb dX4_readValue_72 rfl (lv_at hl 2 rfl) ?_
                refine lv_bipush (v := (nI 10)) hx hb dX4_readValue_73 (by decide) ?_
                refine lv_aload_n hx hb dX4_readValue_75 rfl (lv_at hl 2 rfl) ?_
                refine va_get (D := G.1) (ci := 4) (v := .int (((nI 10) * (f_X4_digitHere tp tl T)) + (f_X4_digitHere (tp + (nI 1)) tl T))) (C := RX4) (T := TX4) (N := 6) hx hb hts in_X4_readValue_RX4 hown hK.1 hP 0 rfl rfl 5 (by decide) (hts _ k_X4_readValue_f48) (fun _ h9 => h9) rfl dX4_readValue_76 ?_
                refine lv_imul hx hb dX4_readValue_79 ?_
                refine lv_iload_n hx hb dX4_readValue_80 rfl (lv_at hl 0 rfl) ?_
                refine lv_iadd hx hb dX4_readValue_81 ?_
                refine va_put (D := G.1) (ci := 4) (v := .int (((nI 10) * (((nI 10) * (f_X4_digitHere tp tl T)) + (f_X4_digitHere (tp + (nI 1)) tl T))) + (f_X4_digitHere ((tp + (nI 1)) + (nI 1)) tl T))) (ty := .int) (C := RX4) (T := TX4) (N := 6) hx hb hts in_X4_readValue_RX4 tyX4 tyX4_ok nmX4 hown hK.1 hP hD hS 0 rfl rfl 5 (by decide) (hts _ k_X4_readValue_f48) (fun _ h9 => h9) rfl (by decide +kernel) rfl rfl (Nat.le_of_ble_eq_true rfl) dX4_readValue_82 (fun H locs hP hD hS => ?_)
                have hP : va_P G.1 vwCl (OT G h0 h1 ((tp + (nI 1)) + (nI 1)) tl tr tg (((nI 10) * (((nI 10) * (f_X4_digitHere tp tl T)) + (f_X4_digitHere (tp + (nI 1)) tl T))) + (f_X4_digitHere ((tp + (nI 1)) + (nI 1)) tl T)) T) H := hP
                have hD : va_D A (OT G h0 h1 ((tp + (nI 1)) + (nI 1)) tl tr tg (((nI 10) * (((nI 10) * (f_X4_digitHere tp tl T)) + (f_X4_digitHere (tp + (nI 1)) tl T))) + (f_X4_digitHere ((tp + (nI 1)) + (nI 1)) tl T)) T) := hD
                refine lv_aload_n hx hb dX4_readValue_85 rfl (lv_at hl 2 rfl) ?_
                refine lv_dup hx hb dX4_readValue_86 rfl ?_
                refine va_get (D := G.1) (ci := 4) (v := .int ((tp + (nI 1)) + (nI 1))) (C := RX4) (T := TX4) (N := 6) hx hb hts in_X4_readValue_RX4 hown hK.1 hP 0 rfl rfl 1 (by decide) (hts _ k_X4_readValue_f26) (fun _ h9 => h9) rfl dX4_readValue_87 ?_
                refine lv_iconst (v := (nI 1)) hx hb dX4_readValue_90 (by decide) ?_
                refine lv_iadd hx hb dX4_readValue_91 ?_
                refine va_put (D := G.1) (ci := 4) (v := .int (((tp + (nI 1)) + (nI 1)) + (nI 1))) (ty := .int) (C := RX4) (T := TX4) (N := 6) hx hb hts in_X4_readValue_RX4 tyX4 tyX4_ok nmX4 hown hK.1 hP hD hS 0 rfl rfl 1 (by decide) (hts _ k_X4_readValue_f26) (fun _ h9 => h9) rfl (by decide +kernel) rfl rfl (Nat.le_of_ble_eq_true rfl) dX4_readValue_92 (fun H locs hP hD hS => ?_)
                have hP : va_P G.1 vwCl (OT G h0 h1 (((tp + (nI 1)) + (nI 1)) + (nI 1)) tl tr tg (((nI 10) * (((nI 10) * (f_X4_digitHere tp tl T)) + (f_X4_digitHere (tp + (nI 1)) tl T))) + (f_X4_digitHere ((tp + (nI 1)) + (nI 1)) tl T)) T) H := hP
                have hD : va_D A (OT G h0 h1 (((tp + (nI 1)) + (nI 1)) + (nI 1)) tl tr tg (((nI 10) * (((nI 10) * (f_X4_digitHere tp tl T)) + (f_X4_digitHere (tp + (nI 1)) tl T))) + (f_X4_digitHere ((tp + (nI 1)) + (nI 1)) tl T)) T) := hD
                refine lv_iinc (v := (nI 3)) (lv' := [(4, .int (nI 3)), (3, .int (f_X4_digitHere ((tp + (nI 1)) + (nI 1)) tl T)), (0, .ref h0), (1, .int p0), (2, .int p1)]) hx hb dX4_readValue_95 hl (k := 1) rfl (inc1 2) (by decide) rfl (fun ls hl => ?_)
                refine lv_goto (tgt := 34) hx hb dX4_readValue_98 (by decide) ?_
                refine lv_iload hx hb dX4_readValue_34 (lv_at hl 0 rfl) ?_
                refine lv_iconst (v := (nI 3)) hx hb dX4_readValue_36 (by decide) ?_
                refine lv_icmp_ge (tgt := 101) hx hb dX4_readValue_37 (by decide) (fun c_14 => ?_) (fun c_14 => absurd (by decide +kernel) c_14)
                refine lv_iconst (v := (nI 1)) hx hb dX4_readValue_101 (by decide) ?_
                exact end_Z C0 (by decide) hP hD hS ((((tp + (nI 1)) + (nI 1)) + (nI 1)), (((nI 10) * (((nI 10) * (f_X4_digitHere tp tl T)) + (f_X4_digitHere (tp + (nI 1)) tl T))) + (f_X4_digitHere ((tp + (nI 1)) + (nI 1)) tl T))) ⟨(by simp only [f_X4_readValue, if_neg c_3, if_neg c_5, if_neg c_7, if_pos c_8, if_neg c_10, if_neg c_12, if_pos c_13]), by decide⟩ rfl dX4_readValue_102
              · refine lv_iconst (v := (nI 1)) hx hb dX4_readValue_70 (by decide) ?_
                exact end_Z C0 (by decide) hP hD hS (((tp + (nI 1)) + (nI 1)), (((nI 10) * (f_X4_digitHere tp tl T)) + (f_X4_digitHere (tp + (nI 1)) tl T))) ⟨(by simp only [f_X4_readValue, if_neg c_3, if_neg c_5, if_neg c_7, if_pos c_8, if_neg c_10, if_neg c_12, if_neg c_13]), by decide⟩ rfl dX4_readValue_71
        · refine lv_iconst (v := (nI 1)) hx hb dX4_readValue_70 (by decide) ?_
          exact end_Z C0 (by decide) hP hD hS ((tp + (nI 1)), (f_X4_digitHere tp tl T)) ⟨(by simp only [f_X4_readValue, if_neg c_3, if_neg c_5, if_neg c_7, if_neg c_8]), by decide⟩ rfl dX4_readValue_71
  · refine lv_iconst (v := (nI 0)) hx hb dX4_readValue_14 (by decide) ?_
    exact end_Z C0 (by decide) hP hD hS (tp, tv) ⟨(by simp only [f_X4_readValue, if_pos c_3]), by decide⟩ rfl dX4_readValue_15

def f_X4_readTarget (tp : Int32) (tl : Int32) (tg : Int32) (tv : Int32) (T : (Nat → Int32)) (p0 : Int32) : Int32 × Int32 × Int32 × Int32 :=
  match f_X4_readValue tp tl tv T (nI 0) p0 with
  | (r_1, tp_c1, tv_c1) =>
    if r_1 = 0 then
      ((nI 0), tp_c1, tg, tv_c1)
    else
      match f_X4_accept tp_c1 tl T (nI 58) with
      | (r_3, tp_c3) =>
        (r_3, tp_c3, tv_c1, tv_c1)
set_option maxRecDepth 20000 in
theorem k_X4_readTarget_f48 : Cond.fieldLink RX4 48 "SteamRations$OrderText" "value" "I" ∈ wsX4_readTarget := by decide +kernel
set_option maxRecDepth 20000 in
theorem k_X4_readTarget_f51 : Cond.fieldLink RX4 51 "SteamRations$OrderText" "target" "I" ∈ wsX4_readTarget := by decide +kernel
set_option maxRecDepth 20000 in
theorem in_X4_readTarget_RX4 : ∀ w ∈ u_ws RX4 TX4 6, w ∈ wsX4_readTarget := by decide +kernel
theorem cd_X4_readTarget : yX4_readTarget.cls = RX4 ∧ yX4_readTarget.cls ≠ "java/lang/invoke/MethodHandle" ∧ yX4_readTarget.cls ≠ "java/lang/invoke/VarHandle" ∧ (parseMethodDescriptor yX4_readTarget.desc).map (fun d => d.parameters.length) = some 1 := by decide +kernel
set_option maxHeartbeats 4000000 in
set_option maxRecDepth 100000 in
theorem c_X4_readTarget (l : Launch) (G : GG) (h0 : Nat) (h1 : Nat) (tp : Int32) (tl : Int32) (tr : Int32) (tg : Int32) (tv : Int32) (T : (Nat → Int32)) (sz : Nat) (p0 : Int32)  : Met l yX4_readTarget wsX4_readTarget ({ frames := 3, cells := 0, slots := 0, locals := 67 }) (Pre G [.ref h0, .int p0] (OT G h0 h1 tp tl tr tg tv T) sz) (PI G (va_A (OT G h0 h1 tp tl tr tg tv T) sz) (fun r (u : Int32 × Int32 × Int32) => f_X4_readTarget tp tl tg tv T p0 = (r, u) ∧ (r = nI 0 ∨ r = nI 1)) (fun u : Int32 × Int32 × Int32 => OT G h0 h1 u.1 tl tr u.2.1 u.2.2 T)) 0 0 (va_A (OT G h0 h1 tp tl tr tg tv T) sz) := by
  refine Met.walk (cc := cX4_readTarget) (maxL := 2) (ret := (some .boolean)) (Qc := fun A => PI G A (fun r (u : Int32 × Int32 × Int32) => f_X4_readTarget tp tl tg tv T p0 = (r, u) ∧ (r = nI 0 ∨ r = nI 1)) (fun u : Int32 × Int32 × Int32 => OT G h0 h1 u.1 tl tr u.2.1 u.2.2 T)) (by decide) rfl (Nat.le_of_ble_eq_true rfl) ?_
  intro p e s m below meth c A H C0 _ hK hsz hP hD hA hS ls hl
  have hx := C0.1
  have hb := C0.2.1
  have hown : s.vm.findClass RX4 = some m.cls := C0.2.2.2.2.1
  have hml := C0.2.2.2.1
  have hts : ∀ w ∈ wsX4_readTarget, w.before [.ref h0, .int p0].toArray s = true := C0.2.2.2.2.2.1
  have hl : lv_has ls 2 [(0, .ref h0), (1, .int p0)] := hl
  refine lv_aload_n hx hb dX4_readTarget_0 rfl (lv_at hl 0 rfl) ?_
  refine lv_iconst (v := (nI 0)) hx hb dX4_readTarget_1 (by decide) ?_
  refine lv_iload_n hx hb dX4_readTarget_2 rfl (lv_at hl 1 rfl) ?_
  refine gcall_I (run_V (As := [.int (nI 0), .int p0]) (rest := []) C0 hK hP hD (c_X4_readValue l G h0 h1 tp tl tr tg tv T H.size (nI 0) p0) (cwV 2 hts gX4_readTarget_X4_readValue rfl rfl rfl cd_X4_readValue ⟨Nat.le_of_ble_eq_true rfl, Nat.le_of_ble_eq_true rfl⟩) [0, 1] rfl rfl 0 (ci := 4) rfl rfl rfl rfl hl.1 rfl (Nat.le_of_ble_eq_true rfl) dX4_readTarget_3 ⟨Nat.le_of_ble_eq_true rfl, Nat.le_of_ble_eq_true rfl⟩) hP hD hS hA [0, 1] rfl rfl (fun _ => rfl) (fun r_1 u_1 H locs hw_1 hP hD hS => ?_)
  obtain ⟨tp_c1, tv_c1⟩ := u_1
  have hz_r_1 := hw_1.2
  have hw_1 := hw_1.1
  have hP : va_P G.1 vwCl (OT G h0 h1 tp_c1 tl tr tg tv_c1 T) H := hP
  have hD : va_D A (OT G h0 h1 tp_c1 tl tr tg tv_c1 T) := hD
  refine lv_if_ne (tgt := 11) hx hb dX4_readTarget_6 (by decide) (fun c_2 => ?_) (fun c_2 => ?_)
  · refine lv_aload_n hx hb dX4_readTarget_11 rfl (lv_at hl 0 rfl) ?_
    refine lv_aload_n hx hb dX4_readTarget_12 rfl (lv_at hl 0 rfl) ?_
    refine va_get (D := G.1) (ci := 4) (v := .int tv_c1) (C := RX4) (T := TX4) (N := 6) hx hb hts in_X4_readTarget_RX4 hown hK.1 hP 0 rfl rfl 5 (by decide) (hts _ k_X4_readTarget_f48) (fun _ h9 => h9) rfl dX4_readTarget_13 ?_
    refine va_put (D := G.1) (ci := 4) (v := .int tv_c1) (ty := .int) (C := RX4) (T := TX4) (N := 6) hx hb hts in_X4_readTarget_RX4 tyX4 tyX4_ok nmX4 hown hK.1 hP hD hS 0 rfl rfl 4 (by decide) (hts _ k_X4_readTarget_f51) (fun _ h9 => h9) rfl (by decide +kernel) rfl rfl (Nat.le_of_ble_eq_true rfl) dX4_readTarget_16 (fun H locs hP hD hS => ?_)
    have hP : va_P G.1 vwCl (OT G h0 h1 tp_c1 tl tr tv_c1 tv_c1 T) H := hP
    have hD : va_D A (OT G h0 h1 tp_c1 tl tr tv_c1 tv_c1 T) := hD
    refine lv_aload_n hx hb dX4_readTarget_19 rfl (lv_at hl 0 rfl) ?_
    refine lv_bipush (v := (nI 58)) hx hb dX4_readTarget_20 (by decide) ?_
    refine gcall_I (run_V (As := [.int (nI 58)]) (rest := []) C0 hK hP hD (c_X4_accept l G h0 h1 tp_c1 tl tr tv_c1 tv_c1 T H.size (nI 58)) (cwV 1 hts gX4_readTarget_X4_accept rfl rfl rfl cd_X4_accept ⟨Nat.le_of_ble_eq_true rfl, Nat.le_of_ble_eq_true rfl⟩) [0, 1] rfl rfl 0 (ci := 4) rfl rfl rfl rfl hl.1 rfl (Nat.le_of_ble_eq_true rfl) dX4_readTarget_22 ⟨Nat.le_of_ble_eq_true rfl, Nat.le_of_ble_eq_true rfl⟩) hP hD hS hA [0, 1] rfl rfl (fun _ => rfl) (fun r_3 u_3 H locs hw_3 hP hD hS => ?_)
    obtain ⟨tp_c3, rfl⟩ : ∃ z, z = u_3 := ⟨_, rfl⟩
    have hz_r_3 := hw_3.2
    have hw_3 := hw_3.1
    have hP : va_P G.1 vwCl (OT G h0 h1 tp_c3 tl tr tv_c1 tv_c1 T) H := hP
    have hD : va_D A (OT G h0 h1 tp_c3 tl tr tv_c1 tv_c1 T) := hD
    exact end_Z C0 (nar_bool hz_r_3) hP hD hS (tp_c3, tv_c1, tv_c1) ⟨(by simp only [f_X4_readTarget, hw_1, if_neg c_2, hw_3]), hz_r_3⟩ rfl dX4_readTarget_25
  · refine lv_iconst (v := (nI 0)) hx hb dX4_readTarget_9 (by decide) ?_
    exact end_Z C0 (by decide) hP hD hS (tp_c1, tg, tv_c1) ⟨(by simp only [f_X4_readTarget, hw_1, if_pos c_2]), by decide⟩ rfl dX4_readTarget_10

def f_X4_readOrder (tp : Int32) (tl : Int32) (tg : Int32) (tv : Int32) (T : (Nat → Int32)) : Int32 × Int32 × Int32 × Int32 × Int32 :=
  match f_X4_accept tp tl T (nI 102) with
  | (r_2, tp_c2) =>
    if r_2 = 0 then
      match f_X4_accept tp_c2 tl T (nI 119) with
      | (r_4, tp_c4) =>
        if r_4 = 0 then
          match f_X4_accept tp_c4 tl T (nI 109) with
          | (r_6, tp_c6) =>
            if r_6 = 0 then
              match f_X4_accept tp_c6 tl T (nI 108) with
              | (r_8, tp_c8) =>
                if r_8 = 0 then
                  match f_X4_accept tp_c8 tl T (nI 116) with
                  | (r_10, tp_c10) =>
                    if r_10 = 0 then
                      ((nI 0), tp_c10, (f_X4_here tp tl T), tg, tv)
                    else
                      match f_X4_readValue tp_c10 tl tv T (nI 1) (nI 200) with
                      | (r_12, tp_c12, tv_c12) =>
                        if r_12 = 0 then
                          ((nI 0), tp_c12, (f_X4_here tp tl T), tg, tv_c12)
                        else
                          ((nI 1), tp_c12, (f_X4_here tp tl T), tg, tv_c12)
                else
                  match f_X4_readValue tp_c8 tl tv T (nI 0) (nI 2) with
                  | (r_14, tp_c14, tv_c14) =>
                    (r_14, tp_c14, (f_X4_here tp tl T), tg, tv_c14)
            else
              match f_X4_readTarget tp_c6 tl tg tv T (nI 3) with
              | (r_15, tp_c15, tg_c15, tv_c15) =>
                if r_15 = 0 then
                  ((nI 0), tp_c15, (f_X4_here tp tl T), tg_c15, tv_c15)
                else
                  match f_X4_readValue tp_c15 tl tv_c15 T (nI 0) (nI 2) with
                  | (r_17, tp_c17, tv_c17) =>
                    if r_17 = 0 then
                      ((nI 0), tp_c17, (f_X4_here tp tl T), tg_c15, tv_c17)
                    else
                      ((nI 1), tp_c17, (f_X4_here tp tl T), tg_c15, tv_c17)
        else
          match f_X4_readTarget tp_c4 tl tg tv T (nI 1) with
          | (r_19, tp_c19, tg_c19, tv_c19) =>
            if r_19 = 0 then
              ((nI 0), tp_c19, (f_X4_here tp tl T), tg_c19, tv_c19)
            else
              match f_X4_readValue tp_c19 tl tv_c19 T (nI 1) (nI 200) with
              | (r_21, tp_c21, tv_c21) =>
                if r_21 = 0 then
                  ((nI 0), tp_c21, (f_X4_here tp tl T), tg_c19, tv_c21)
                else
                  ((nI 1), tp_c21, (f_X4_here tp tl T), tg_c19, tv_c21)
    else
      match f_X4_readTarget tp_c2 tl tg tv T (nI 1) with
      | (r_23, tp_c23, tg_c23, tv_c23) =>
        if r_23 = 0 then
          ((nI 0), tp_c23, (f_X4_here tp tl T), tg_c23, tv_c23)
        else
          match f_X4_readValue tp_c23 tl tv_c23 T (nI 0) (nI 5) with
          | (r_25, tp_c25, tv_c25) =>
            if r_25 = 0 then
              ((nI 0), tp_c25, (f_X4_here tp tl T), tg_c23, tv_c25)
            else
              ((nI 1), tp_c25, (f_X4_here tp tl T), tg_c23, tv_c25)
set_option maxRecDepth 20000 in
theorem k_X4_readOrder_f37 : Cond.fieldLink RX4 37 "SteamRations$OrderText" "letter" "I" ∈ wsX4_readOrder := by decide +kernel
set_option maxRecDepth 20000 in
theorem in_X4_readOrder_RX4 : ∀ w ∈ u_ws RX4 TX4 6, w ∈ wsX4_readOrder := by decide +kernel
theorem cd_X4_readOrder : yX4_readOrder.cls = RX4 ∧ yX4_readOrder.cls ≠ "java/lang/invoke/MethodHandle" ∧ yX4_readOrder.cls ≠ "java/lang/invoke/VarHandle" ∧ (parseMethodDescriptor yX4_readOrder.desc).map (fun d => d.parameters.length) = some 0 := by decide +kernel
set_option maxHeartbeats 4000000 in
set_option maxRecDepth 100000 in
theorem c_X4_readOrder (l : Launch) (G : GG) (h0 : Nat) (h1 : Nat) (tp : Int32) (tl : Int32) (tr : Int32) (tg : Int32) (tv : Int32) (T : (Nat → Int32)) (sz : Nat)   : Met l yX4_readOrder wsX4_readOrder ({ frames := 4, cells := 0, slots := 0, locals := 88 }) (Pre G [.ref h0] (OT G h0 h1 tp tl tr tg tv T) sz) (PI G (va_A (OT G h0 h1 tp tl tr tg tv T) sz) (fun r (u : Int32 × Int32 × Int32 × Int32) => f_X4_readOrder tp tl tg tv T = (r, u) ∧ (r = nI 0 ∨ r = nI 1)) (fun u : Int32 × Int32 × Int32 × Int32 => OT G h0 h1 u.1 tl u.2.1 u.2.2.1 u.2.2.2 T)) 0 0 (va_A (OT G h0 h1 tp tl tr tg tv T) sz) := by
  refine Met.walk (cc := cX4_readOrder) (maxL := 1) (ret := (some .boolean)) (Qc := fun A => PI G A (fun r (u : Int32 × Int32 × Int32 × Int32) => f_X4_readOrder tp tl tg tv T = (r, u) ∧ (r = nI 0 ∨ r = nI 1)) (fun u : Int32 × Int32 × Int32 × Int32 => OT G h0 h1 u.1 tl u.2.1 u.2.2.1 u.2.2.2 T)) (by decide) rfl (Nat.le_of_ble_eq_true rfl) ?_
  intro p e s m below meth c A H C0 _ hK hsz hP hD hA hS ls hl
  have hx := C0.1
  have hb := C0.2.1
  have hown : s.vm.findClass RX4 = some m.cls := C0.2.2.2.2.1
  have hml := C0.2.2.2.1
  have hts : ∀ w ∈ wsX4_readOrder, w.before [.ref h0].toArray s = true := C0.2.2.2.2.2.1
  have hl : lv_has ls 1 [(0, .ref h0)] := hl
  refine lv_aload_n hx hb dX4_readOrder_0 rfl (lv_at hl 0 rfl) ?_
  refine lv_aload_n hx hb dX4_readOrder_1 rfl (lv_at hl 0 rfl) ?_
  refine gcall_I (run_V (As := []) (rest := [.ref h0]) C0 hK hP hD (c_X4_here l G h0 h1 tp tl tr tg tv T H.size ) (cwV 0 hts gX4_readOrder_X4_here rfl rfl rfl cd_X4_here ⟨Nat.le_of_ble_eq_true rfl, Nat.le_of_ble_eq_true rfl⟩) [0, 1] rfl rfl 0 (ci := 4) rfl rfl rfl rfl hl.1 rfl (Nat.le_of_ble_eq_true rfl) dX4_readOrder_2 ⟨Nat.le_of_ble_eq_true rfl, Nat.le_of_ble_eq_true rfl⟩) hP hD hS hA [0, 1] rfl rfl (fun _ => rfl) (fun r_1 _ H locs hw_1 hP hD hS => ?_)
  subst hw_1
  have hP : va_P G.1 vwCl (OT G h0 h1 tp tl tr tg tv T) H := hP
  have hD : va_D A (OT G h0 h1 tp tl tr tg tv T) := hD
  refine va_put (D := G.1) (ci := 4) (v := .int (f_X4_here tp tl T)) (ty := .int) (C := RX4) (T := TX4) (N := 6) hx hb hts in_X4_readOrder_RX4 tyX4 tyX4_ok nmX4 hown hK.1 hP hD hS 0 rfl rfl 3 (by decide) (hts _ k_X4_readOrder_f37) (fun _ h9 => h9) rfl (by decide +kernel) rfl rfl (Nat.le_of_ble_eq_true rfl) dX4_readOrder_5 (fun H locs hP hD hS => ?_)
  have hP : va_P G.1 vwCl (OT G h0 h1 tp tl (f_X4_here tp tl T) tg tv T) H := hP
  have hD : va_D A (OT G h0 h1 tp tl (f_X4_here tp tl T) tg tv T) := hD
  refine lv_aload_n hx hb dX4_readOrder_8 rfl (lv_at hl 0 rfl) ?_
  refine lv_bipush (v := (nI 102)) hx hb dX4_readOrder_9 (by decide) ?_
  refine gcall_I (run_V (As := [.int (nI 102)]) (rest := []) C0 hK hP hD (c_X4_accept l G h0 h1 tp tl (f_X4_here tp tl T) tg tv T H.size (nI 102)) (cwV 1 hts gX4_readOrder_X4_accept rfl rfl rfl cd_X4_accept ⟨Nat.le_of_ble_eq_true rfl, Nat.le_of_ble_eq_true rfl⟩) [0, 1] rfl rfl 0 (ci := 4) rfl rfl rfl rfl hl.1 rfl (Nat.le_of_ble_eq_true rfl) dX4_readOrder_11 ⟨Nat.le_of_ble_eq_true rfl, Nat.le_of_ble_eq_true rfl⟩) hP hD hS hA [0, 1] rfl rfl (fun _ => rfl) (fun r_2 u_2 H locs hw_2 hP hD hS => ?_)
  obtain ⟨tp_c2, rfl⟩ : ∃ z, z = u_2 := ⟨_, rfl⟩
  have hz_r_2 := hw_2.2
  have hw_2 := hw_2.1
  have hP : va_P G.1 vwCl (OT G h0 h1 tp_c2 tl (f_X4_here tp tl T) tg tv T) H := hP
  have hD : va_D A (OT G h0 h1 tp_c2 tl (f_X4_here tp tl T) tg tv T) := hD
  refine lv_if_eq (tgt := 40) hx hb dX4_readOrder_14 (by decide) (fun c_3 => ?_) (fun c_3 => ?_)
  · refine lv_aload_n hx hb dX4_readOrder_40 rfl (lv_at hl 0 rfl) ?_
    refine lv_bipush (v := (nI 119)) hx hb dX4_readOrder_41 (by decide) ?_
    refine gcall_I (run_V (As := [.int (nI 119)]) (rest := []) C0 hK hP hD (c_X4_accept l G h0 h1 tp_c2 tl (f_X4_here tp tl T) tg tv T H.size (nI 119)) (cwV 1 hts gX4_readOrder_X4_accept rfl rfl rfl cd_X4_accept ⟨Nat.le_of_ble_eq_true rfl, Nat.le_of_ble_eq_true rfl⟩) [0, 1] rfl rfl 0 (ci := 4) rfl rfl rfl rfl hl.1 rfl (Nat.le_of_ble_eq_true rfl) dX4_readOrder_43 ⟨Nat.le_of_ble_eq_true rfl, Nat.le_of_ble_eq_true rfl⟩) hP hD hS hA [0, 1] rfl rfl (fun _ => rfl) (fun r_4 u_4 H locs hw_4 hP hD hS => ?_)
    obtain ⟨tp_c4, rfl⟩ : ∃ z, z = u_4 := ⟨_, rfl⟩
    have hz_r_4 := hw_4.2
    have hw_4 := hw_4.1
    have hP : va_P G.1 vwCl (OT G h0 h1 tp_c4 tl (f_X4_here tp tl T) tg tv T) H := hP
    have hD : va_D A (OT G h0 h1 tp_c4 tl (f_X4_here tp tl T) tg tv T) := hD
    refine lv_if_eq (tgt := 74) hx hb dX4_readOrder_46 (by decide) (fun c_5 => ?_) (fun c_5 => ?_)
    · refine lv_aload_n hx hb dX4_readOrder_74 rfl (lv_at hl 0 rfl) ?_
      refine lv_bipush (v := (nI 109)) hx hb dX4_readOrder_75 (by decide) ?_
      refine gcall_I (run_V (As := [.int (nI 109)]) (rest := []) C0 hK hP hD (c_X4_accept l G h0 h1 tp_c4 tl (f_X4_here tp tl T) tg tv T H.size (nI 109)) (cwV 1 hts gX4_readOrder_X4_accept rfl rfl rfl cd_X4_accept ⟨Nat.le_of_ble_eq_true rfl, Nat.le_of_ble_eq_true rfl⟩) [0, 1] rfl rfl 0 (ci := 4) rfl rfl rfl rfl hl.1 rfl (Nat.le_of_ble_eq_true rfl) dX4_readOrder_77 ⟨Nat.le_of_ble_eq_true rfl, Nat.le_of_ble_eq_true rfl⟩) hP hD hS hA [0, 1] rfl rfl (fun _ => rfl) (fun r_6 u_6 H locs hw_6 hP hD hS => ?_)
      obtain ⟨tp_c6, rfl⟩ : ∃ z, z = u_6 := ⟨_, rfl⟩
      have hz_r_6 := hw_6.2
      have hw_6 := hw_6.1
      have hP : va_P G.1 vwCl (OT G h0 h1 tp_c6 tl (f_X4_here tp tl T) tg tv T) H := hP
      have hD : va_D A (OT G h0 h1 tp_c6 tl (f_X4_here tp tl T) tg tv T) := hD
      refine lv_if_eq (tgt := 106) hx hb dX4_readOrder_80 (by decide) (fun c_7 => ?_) (fun c_7 => ?_)
      · refine lv_aload_n hx hb dX4_readOrder_106 rfl (lv_at hl 0 rfl) ?_
        refine lv_bipush (v := (nI 108)) hx hb dX4_readOrder_107 (by decide) ?_
        refine gcall_I (run_V (As := [.int (nI 108)]) (rest := []) C0 hK hP hD (c_X4_accept l G h0 h1 tp_c6 tl (f_X4_here tp tl T) tg tv T H.size (nI 108)) (cwV 1 hts gX4_readOrder_X4_accept rfl rfl rfl cd_X4_accept ⟨Nat.le_of_ble_eq_true rfl, Nat.le_of_ble_eq_true rfl⟩) [0, 1] rfl rfl 0 (ci := 4) rfl rfl rfl rfl hl.1 rfl (Nat.le_of_ble_eq_true rfl) dX4_readOrder_109 ⟨Nat.le_of_ble_eq_true rfl, Nat.le_of_ble_eq_true rfl⟩) hP hD hS hA [0, 1] rfl rfl (fun _ => rfl) (fun r_8 u_8 H locs hw_8 hP hD hS => ?_)
        obtain ⟨tp_c8, rfl⟩ : ∃ z, z = u_8 := ⟨_, rfl⟩
        have hz_r_8 := hw_8.2
        have hw_8 := hw_8.1
        have hP : va_P G.1 vwCl (OT G h0 h1 tp_c8 tl (f_X4_here tp tl T) tg tv T) H := hP
        have hD : va_D A (OT G h0 h1 tp_c8 tl (f_X4_here tp tl T) tg tv T) := hD
        refine lv_if_eq (tgt := 122) hx hb dX4_readOrder_112 (by decide) (fun c_9 => ?_) (fun c_9 => ?_)
        · refine lv_aload_n hx hb dX4_readOrder_122 rfl (lv_at hl 0 rfl) ?_
          refine lv_bipush (v := (nI 116)) hx hb dX4_readOrder_123 (by decide) ?_
          refine gcall_I (run_V (As := [.int (nI 116)]) (rest := []) C0 hK hP hD (c_X4_accept l G h0 h1 tp_c8 tl (f_X4_here tp tl T) tg tv T H.size (nI 116)) (cwV 1 hts gX4_readOrder_X4_accept rfl rfl rfl cd_X4_accept ⟨Nat.le_of_ble_eq_true rfl, Nat.le_of_ble_eq_true rfl⟩) [0, 1] rfl rfl 0 (ci := 4) rfl rfl rfl rfl hl.1 rfl (Nat.le_of_ble_eq_true rfl) dX4_readOrder_125 ⟨Nat.le_of_ble_eq_true rfl, Nat.le_of_ble_eq_true rfl⟩) hP hD hS hA [0, 1] rfl rfl (fun _ => rfl) (fun r_10 u_10 H locs hw_10 hP hD hS => ?_)
          obtain ⟨tp_c10, rfl⟩ : ∃ z, z = u_10 := ⟨_, rfl⟩
          have hz_r_10 := hw_10.2
          have hw_10 := hw_10.1
          have hP : va_P G.1 vwCl (OT G h0 h1 tp_c10 tl (f_X4_here tp tl T) tg tv T) H := hP
          have hD : va_D A (OT G h0 h1 tp_c10 tl (f_X4_here tp tl T) tg tv T) := hD
          refine lv_if_eq (tgt := 146) hx hb dX4_readOrder_128 (by decide) (fun c_11 => ?_) (fun c_11 => ?_)
          · refine lv_iconst (v := (nI 0)) hx hb dX4_readOrder_146 (by decide) ?_
            exact end_Z C0 (by decide) hP hD hS (tp_c10, (f_X4_here tp tl T), tg, tv) ⟨(by simp only [f_X4_readOrder, hw_2, if_pos c_3, hw_4, if_pos c_5, hw_6, if_pos c_7, hw_8, if_pos c_9, hw_10, if_pos c_11]), by decide⟩ rfl dX4_readOrder_147
          · refine lv_aload_n hx hb dX4_readOrder_131 rfl (lv_at hl 0 rfl) ?_
            refine lv_iconst (v := (nI 1)) hx hb dX4_readOrder_132 (by decide) ?_
            refine lv_sipush (v := (nI 200)) hx hb dX4_readOrder_133 (by decide) ?_
            refine gcall_I (run_V (As := [.int (nI 1), .int (nI 200)]) (rest := []) C0 hK hP hD (c_X4_readValue l G h0 h1 tp_c10 tl (f_X4_here tp tl T) tg tv T H.size (nI 1) (nI 200)) (cwV 2 hts gX4_readOrder_X4_readValue rfl rfl rfl cd_X4_readValue ⟨Nat.le_of_ble_eq_true rfl, Nat.le_of_ble_eq_true rfl⟩) [0, 1] rfl rfl 0 (ci := 4) rfl rfl rfl rfl hl.1 rfl (Nat.le_of_ble_eq_true rfl) dX4_readOrder_136 ⟨Nat.le_of_ble_eq_true rfl, Nat.le_of_ble_eq_true rfl⟩) hP hD hS hA [0, 1] rfl rfl (fun _ => rfl) (fun r_12 u_12 H locs hw_12 hP hD hS => ?_)
            obtain ⟨tp_c12, tv_c12⟩ := u_12
            have hz_r_12 := hw_12.2
            have hw_12 := hw_12.1
            have hP : va_P G.1 vwCl (OT G h0 h1 tp_c12 tl (f_X4_here tp tl T) tg tv_c12 T) H := hP
            have hD : va_D A (OT G h0 h1 tp_c12 tl (f_X4_here tp tl T) tg tv_c12 T) := hD
            refine lv_if_eq (tgt := 146) hx hb dX4_readOrder_139 (by decide) (fun c_13 => ?_) (fun c_13 => ?_)
            · refine lv_iconst (v := (nI 0)) hx hb dX4_readOrder_146 (by decide) ?_
              exact end_Z C0 (by decide) hP hD hS (tp_c12, (f_X4_here tp tl T), tg, tv_c12) ⟨(by simp only [f_X4_readOrder, hw_2, if_pos c_3, hw_4, if_pos c_5, hw_6, if_pos c_7, hw_8, if_pos c_9, hw_10, if_neg c_11, hw_12, if_pos c_13]), by decide⟩ rfl dX4_readOrder_147
            · refine lv_iconst (v := (nI 1)) hx hb dX4_readOrder_142 (by decide) ?_
              refine lv_goto (tgt := 147) hx hb dX4_readOrder_143 (by decide) ?_
              exact end_Z C0 (by decide) hP hD hS (tp_c12, (f_X4_here tp tl T), tg, tv_c12) ⟨(by simp only [f_X4_readOrder, hw_2, if_pos c_3, hw_4, if_pos c_5, hw_6, if_pos c_7, hw_8, if_pos c_9, hw_10, if_neg c_11, hw_12, if_neg c_13]), by decide⟩ rfl dX4_readOrder_147
        · refine lv_aload_n hx hb dX4_readOrder_115 rfl (lv_at hl 0 rfl) ?_
          refine lv_iconst (v := (nI 0)) hx hb dX4_readOrder_116 (by decide) ?_
          refine lv_iconst (v := (nI 2)) hx hb dX4_readOrder_117 (by decide) ?_
          refine gcall_I (run_V (As := [.int (nI 0), .int (nI 2)]) (rest := []) C0 hK hP hD (c_X4_readValue l G h0 h1 tp_c8 tl (f_X4_here tp tl T) tg tv T H.size (nI 0) (nI 2)) (cwV 2 hts gX4_readOrder_X4_readValue rfl rfl rfl cd_X4_readValue ⟨Nat.le_of_ble_eq_true rfl, Nat.le_of_ble_eq_true rfl⟩) [0, 1] rfl rfl 0 (ci := 4) rfl rfl rfl rfl hl.1 rfl (Nat.le_of_ble_eq_true rfl) dX4_readOrder_118 ⟨Nat.le_of_ble_eq_true rfl, Nat.le_of_ble_eq_true rfl⟩) hP hD hS hA [0, 1] rfl rfl (fun _ => rfl) (fun r_14 u_14 H locs hw_14 hP hD hS => ?_)
          obtain ⟨tp_c14, tv_c14⟩ := u_14
          have hz_r_14 := hw_14.2
          have hw_14 := hw_14.1
          have hP : va_P G.1 vwCl (OT G h0 h1 tp_c14 tl (f_X4_here tp tl T) tg tv_c14 T) H := hP
          have hD : va_D A (OT G h0 h1 tp_c14 tl (f_X4_here tp tl T) tg tv_c14 T) := hD
          exact end_Z C0 (nar_bool hz_r_14) hP hD hS (tp_c14, (f_X4_here tp tl T), tg, tv_c14) ⟨(by simp only [f_X4_readOrder, hw_2, if_pos c_3, hw_4, if_pos c_5, hw_6, if_pos c_7, hw_8, if_neg c_9, hw_14]), hz_r_14⟩ rfl dX4_readOrder_121
      · refine lv_aload_n hx hb dX4_readOrder_83 rfl (lv_at hl 0 rfl) ?_
        refine lv_iconst (v := (nI 3)) hx hb dX4_readOrder_84 (by decide) ?_
        refine gcall_I (run_V (As := [.int (nI 3)]) (rest := []) C0 hK hP hD (c_X4_readTarget l G h0 h1 tp_c6 tl (f_X4_here tp tl T) tg tv T H.size (nI 3)) (cwV 1 hts gX4_readOrder_X4_readTarget rfl rfl rfl cd_X4_readTarget ⟨Nat.le_of_ble_eq_true rfl, Nat.le_of_ble_eq_true rfl⟩) [0, 1] rfl rfl 0 (ci := 4) rfl rfl rfl rfl hl.1 rfl (Nat.le_of_ble_eq_true rfl) dX4_readOrder_85 ⟨Nat.le_of_ble_eq_true rfl, Nat.le_of_ble_eq_true rfl⟩) hP hD hS hA [0, 1] rfl rfl (fun _ => rfl) (fun r_15 u_15 H locs hw_15 hP hD hS => ?_)
        obtain ⟨tp_c15, tg_c15, tv_c15⟩ := u_15
        have hz_r_15 := hw_15.2
        have hw_15 := hw_15.1
        have hP : va_P G.1 vwCl (OT G h0 h1 tp_c15 tl (f_X4_here tp tl T) tg_c15 tv_c15 T) H := hP
        have hD : va_D A (OT G h0 h1 tp_c15 tl (f_X4_here tp tl T) tg_c15 tv_c15 T) := hD
        refine lv_if_eq (tgt := 104) hx hb dX4_readOrder_88 (by decide) (fun c_16 => ?_) (fun c_16 => ?_)
        · refine lv_iconst (v := (nI 0)) hx hb dX4_readOrder_104 (by decide) ?_
          exact end_Z C0 (by decide) hP hD hS (tp_c15, (f_X4_here tp tl T), tg_c15, tv_c15) ⟨(by simp only [f_X4_readOrder, hw_2, if_pos c_3, hw_4, if_pos c_5, hw_6, if_neg c_7, hw_15, if_pos c_16]), by decide⟩ rfl dX4_readOrder_105
        · refine lv_aload_n hx hb dX4_readOrder_91 rfl (lv_at hl 0 rfl) ?_
          refine lv_iconst (v := (nI 0)) hx hb dX4_readOrder_92 (by decide) ?_
          refine lv_iconst (v := (nI 2)) hx hb dX4_readOrder_93 (by decide) ?_
          refine gcall_I (run_V (As := [.int (nI 0), .int (nI 2)]) (rest := []) C0 hK hP hD (c_X4_readValue l G h0 h1 tp_c15 tl (f_X4_here tp tl T) tg_c15 tv_c15 T H.size (nI 0) (nI 2)) (cwV 2 hts gX4_readOrder_X4_readValue rfl rfl rfl cd_X4_readValue ⟨Nat.le_of_ble_eq_true rfl, Nat.le_of_ble_eq_true rfl⟩) [0, 1] rfl rfl 0 (ci := 4) rfl rfl rfl rfl hl.1 rfl (Nat.le_of_ble_eq_true rfl) dX4_readOrder_94 ⟨Nat.le_of_ble_eq_true rfl, Nat.le_of_ble_eq_true rfl⟩) hP hD hS hA [0, 1] rfl rfl (fun _ => rfl) (fun r_17 u_17 H locs hw_17 hP hD hS => ?_)
          obtain ⟨tp_c17, tv_c17⟩ := u_17
          have hz_r_17 := hw_17.2
          have hw_17 := hw_17.1
          have hP : va_P G.1 vwCl (OT G h0 h1 tp_c17 tl (f_X4_here tp tl T) tg_c15 tv_c17 T) H := hP
          have hD : va_D A (OT G h0 h1 tp_c17 tl (f_X4_here tp tl T) tg_c15 tv_c17 T) := hD
          refine lv_if_eq (tgt := 104) hx hb dX4_readOrder_97 (by decide) (fun c_18 => ?_) (fun c_18 => ?_)
          · refine lv_iconst (v := (nI 0)) hx hb dX4_readOrder_104 (by decide) ?_
            exact end_Z C0 (by decide) hP hD hS (tp_c17, (f_X4_here tp tl T), tg_c15, tv_c17) ⟨(by simp only [f_X4_readOrder, hw_2, if_pos c_3, hw_4, if_pos c_5, hw_6, if_neg c_7, hw_15, if_neg c_16, hw_17, if_pos c_18]), by decide⟩ rfl dX4_readOrder_105
          · refine lv_iconst (v := (nI 1)) hx hb dX4_readOrder_100 (by decide) ?_
            refine lv_goto (tgt := 105) hx hb dX4_readOrder_101 (by decide) ?_
            exact end_Z C0 (by decide) hP hD hS (tp_c17, (f_X4_here tp tl T), tg_c15, tv_c17) ⟨(by simp only [f_X4_readOrder, hw_2, if_pos c_3, hw_4, if_pos c_5, hw_6, if_neg c_7, hw_15, if_neg c_16, hw_17, if_neg c_18]), by decide⟩ rfl dX4_readOrder_105
    · refine lv_aload_n hx hb dX4_readOrder_49 rfl (lv_at hl 0 rfl) ?_
      refine lv_iconst (v := (nI 1)) hx hb dX4_readOrder_50 (by decide) ?_
      refine gcall_I (run_V (As := [.int (nI 1)]) (rest := []) C0 hK hP hD (c_X4_readTarget l G h0 h1 tp_c4 tl (f_X4_here tp tl T) tg tv T H.size (nI 1)) (cwV 1 hts gX4_readOrder_X4_readTarget rfl rfl rfl cd_X4_readTarget ⟨Nat.le_of_ble_eq_true rfl, Nat.le_of_ble_eq_true rfl⟩) [0, 1] rfl rfl 0 (ci := 4) rfl rfl rfl rfl hl.1 rfl (Nat.le_of_ble_eq_true rfl) dX4_readOrder_51 ⟨Nat.le_of_ble_eq_true rfl, Nat.le_of_ble_eq_true rfl⟩) hP hD hS hA [0, 1] rfl rfl (fun _ => rfl) (fun r_19 u_19 H locs hw_19 hP hD hS => ?_)
      obtain ⟨tp_c19, tg_c19, tv_c19⟩ := u_19
      have hz_r_19 := hw_19.2
      have hw_19 := hw_19.1
      have hP : va_P G.1 vwCl (OT G h0 h1 tp_c19 tl (f_X4_here tp tl T) tg_c19 tv_c19 T) H := hP
      have hD : va_D A (OT G h0 h1 tp_c19 tl (f_X4_here tp tl T) tg_c19 tv_c19 T) := hD
      refine lv_if_eq (tgt := 72) hx hb dX4_readOrder_54 (by decide) (fun c_20 => ?_) (fun c_20 => ?_)
      · refine lv_iconst (v := (nI 0)) hx hb dX4_readOrder_72 (by decide) ?_
        exact end_Z C0 (by decide) hP hD hS (tp_c19, (f_X4_here tp tl T), tg_c19, tv_c19) ⟨(by simp only [f_X4_readOrder, hw_2, if_pos c_3, hw_4, if_neg c_5, hw_19, if_pos c_20]), by decide⟩ rfl dX4_readOrder_73
      · refine lv_aload_n hx hb dX4_readOrder_57 rfl (lv_at hl 0 rfl) ?_
        refine lv_iconst (v := (nI 1)) hx hb dX4_readOrder_58 (by decide) ?_
        refine lv_sipush (v := (nI 200)) hx hb dX4_readOrder_59 (by decide) ?_
        refine gcall_I (run_V (As := [.int (nI 1), .int (nI 200)]) (rest := []) C0 hK hP hD (c_X4_readValue l G h0 h1 tp_c19 tl (f_X4_here tp tl T) tg_c19 tv_c19 T H.size (nI 1) (nI 200)) (cwV 2 hts gX4_readOrder_X4_readValue rfl rfl rfl cd_X4_readValue ⟨Nat.le_of_ble_eq_true rfl, Nat.le_of_ble_eq_true rfl⟩) [0, 1] rfl rfl 0 (ci := 4) rfl rfl rfl rfl hl.1 rfl (Nat.le_of_ble_eq_true rfl) dX4_readOrder_62 ⟨Nat.le_of_ble_eq_true rfl, Nat.le_of_ble_eq_true rfl⟩) hP hD hS hA [0, 1] rfl rfl (fun _ => rfl) (fun r_21 u_21 H locs hw_21 hP hD hS => ?_)
        obtain ⟨tp_c21, tv_c21⟩ := u_21
        have hz_r_21 := hw_21.2
        have hw_21 := hw_21.1
        have hP : va_P G.1 vwCl (OT G h0 h1 tp_c21 tl (f_X4_here tp tl T) tg_c19 tv_c21 T) H := hP
        have hD : va_D A (OT G h0 h1 tp_c21 tl (f_X4_here tp tl T) tg_c19 tv_c21 T) := hD
        refine lv_if_eq (tgt := 72) hx hb dX4_readOrder_65 (by decide) (fun c_22 => ?_) (fun c_22 => ?_)
        · refine lv_iconst (v := (nI 0)) hx hb dX4_readOrder_72 (by decide) ?_
          exact end_Z C0 (by decide) hP hD hS (tp_c21, (f_X4_here tp tl T), tg_c19, tv_c21) ⟨(by simp only [f_X4_readOrder, hw_2, if_pos c_3, hw_4, if_neg c_5, hw_19, if_neg c_20, hw_21, if_pos c_22]), by decide⟩ rfl dX4_readOrder_73
        · refine lv_iconst (v := (nI 1)) hx hb dX4_readOrder_68 (by decide) ?_
          refine lv_goto (tgt := 73) hx hb dX4_readOrder_69 (by decide) ?_
          exact end_Z C0 (by decide) hP hD hS (tp_c21, (f_X4_here tp tl T), tg_c19, tv_c21) ⟨(by simp only [f_X4_readOrder, hw_2, if_pos c_3, hw_4, if_neg c_5, hw_19, if_neg c_20, hw_21, if_neg c_22]), by decide⟩ rfl dX4_readOrder_73
  · refine lv_aload_n hx hb dX4_readOrder_17 rfl (lv_at hl 0 rfl) ?_
    refine lv_iconst (v := (nI 1)) hx hb dX4_readOrder_18 (by decide) ?_
    refine gcall_I (run_V (As := [.int (nI 1)]) (rest := []) C0 hK hP hD (c_X4_readTarget l G h0 h1 tp_c2 tl (f_X4_here tp tl T) tg tv T H.size (nI 1)) (cwV 1 hts gX4_readOrder_X4_readTarget rfl rfl rfl cd_X4_readTarget ⟨Nat.le_of_ble_eq_true rfl, Nat.le_of_ble_eq_true rfl⟩) [0, 1] rfl rfl 0 (ci := 4) rfl rfl rfl rfl hl.1 rfl (Nat.le_of_ble_eq_true rfl) dX4_readOrder_19 ⟨Nat.le_of_ble_eq_true rfl, Nat.le_of_ble_eq_true rfl⟩) hP hD hS hA [0, 1] rfl rfl (fun _ => rfl) (fun r_23 u_23 H locs hw_23 hP hD hS => ?_)
    obtain ⟨tp_c23, tg_c23, tv_c23⟩ := u_23
    have hz_r_23 := hw_23.2
    have hw_23 := hw_23.1
    have hP : va_P G.1 vwCl (OT G h0 h1 tp_c23 tl (f_X4_here tp tl T) tg_c23 tv_c23 T) H := hP
    have hD : va_D A (OT G h0 h1 tp_c23 tl (f_X4_here tp tl T) tg_c23 tv_c23 T) := hD
    refine lv_if_eq (tgt := 38) hx hb dX4_readOrder_22 (by decide) (fun c_24 => ?_) (fun c_24 => ?_)
    · refine lv_iconst (v := (nI 0)) hx hb dX4_readOrder_38 (by decide) ?_
      exact end_Z C0 (by decide) hP hD hS (tp_c23, (f_X4_here tp tl T), tg_c23, tv_c23) ⟨(by simp only [f_X4_readOrder, hw_2, if_neg c_3, hw_23, if_pos c_24]), by decide⟩ rfl dX4_readOrder_39
    · refine lv_aload_n hx hb dX4_readOrder_25 rfl (lv_at hl 0 rfl) ?_
      refine lv_iconst (v := (nI 0)) hx hb dX4_readOrder_26 (by decide) ?_
      refine lv_iconst (v := (nI 5)) hx hb dX4_readOrder_27 (by decide) ?_
      refine gcall_I (run_V (As := [.int (nI 0), .int (nI 5)]) (rest := []) C0 hK hP hD (c_X4_readValue l G h0 h1 tp_c23 tl (f_X4_here tp tl T) tg_c23 tv_c23 T H.size (nI 0) (nI 5)) (cwV 2 hts gX4_readOrder_X4_readValue rfl rfl rfl cd_X4_readValue ⟨Nat.le_of_ble_eq_true rfl, Nat.le_of_ble_eq_true rfl⟩) [0, 1] rfl rfl 0 (ci := 4) rfl rfl rfl rfl hl.1 rfl (Nat.le_of_ble_eq_true rfl) dX4_readOrder_28 ⟨Nat.le_of_ble_eq_true rfl, Nat.le_of_ble_eq_true rfl⟩) hP hD hS hA [0, 1] rfl rfl (fun _ => rfl) (fun r_25 u_25 H locs hw_25 hP hD hS => ?_)
      obtain ⟨tp_c25, tv_c25⟩ := u_25
      have hz_r_25 := hw_25.2
      have hw_25 := hw_25.1
      have hP : va_P G.1 vwCl (OT G h0 h1 tp_c25 tl (f_X4_here tp tl T) tg_c23 tv_c25 T) H := hP
      have hD : va_D A (OT G h0 h1 tp_c25 tl (f_X4_here tp tl T) tg_c23 tv_c25 T) := hD
      refine lv_if_eq (tgt := 38) hx hb dX4_readOrder_31 (by decide) (fun c_26 => ?_) (fun c_26 => ?_)
      · refine lv_iconst (v := (nI 0)) hx hb dX4_readOrder_38 (by decide) ?_
        exact end_Z C0 (by decide) hP hD hS (tp_c25, (f_X4_here tp tl T), tg_c23, tv_c25) ⟨(by simp only [f_X4_readOrder, hw_2, if_neg c_3, hw_23, if_neg c_24, hw_25, if_pos c_26]), by decide⟩ rfl dX4_readOrder_39
      · refine lv_iconst (v := (nI 1)) hx hb dX4_readOrder_34 (by decide) ?_
        refine lv_goto (tgt := 39) hx hb dX4_readOrder_35 (by decide) ?_
        exact end_Z C0 (by decide) hP hD hS (tp_c25, (f_X4_here tp tl T), tg_c23, tv_c25) ⟨(by simp only [f_X4_readOrder, hw_2, if_neg c_3, hw_23, if_neg c_24, hw_25, if_neg c_26]), by decide⟩ rfl dX4_readOrder_39

def f_X4_readNextOrder (tp : Int32) (tl : Int32) (tg : Int32) (tv : Int32) (T : (Nat → Int32)) : Int32 × Int32 × Int32 × Int32 :=
  match f_X4_accept tp tl T (nI 44) with
  | (r_1, tp_c1) =>
    match f_X4_readOrder tp_c1 tl tg tv T with
    | (r_2, tp_c2, tr_c2, tg_c2, tv_c2) =>
      (tp_c2, tr_c2, tg_c2, tv_c2)
theorem cd_X4_readNextOrder : yX4_readNextOrder.cls = RX4 ∧ yX4_readNextOrder.cls ≠ "java/lang/invoke/MethodHandle" ∧ yX4_readNextOrder.cls ≠ "java/lang/invoke/VarHandle" ∧ (parseMethodDescriptor yX4_readNextOrder.desc).map (fun d => d.parameters.length) = some 0 := by decide +kernel
set_option maxHeartbeats 4000000 in
set_option maxRecDepth 100000 in
theorem c_X4_readNextOrder (l : Launch) (G : GG) (h0 : Nat) (h1 : Nat) (tp : Int32) (tl : Int32) (tr : Int32) (tg : Int32) (tv : Int32) (T : (Nat → Int32)) (sz : Nat)   : Met l yX4_readNextOrder wsX4_readNextOrder ({ frames := 5, cells := 0, slots := 0, locals := 108 }) (Pre G [.ref h0] (OT G h0 h1 tp tl tr tg tv T) sz) (PV G (va_A (OT G h0 h1 tp tl tr tg tv T) sz) (fun u : Int32 × Int32 × Int32 × Int32 => f_X4_readNextOrder tp tl tg tv T = u) (fun u : Int32 × Int32 × Int32 × Int32 => OT G h0 h1 u.1 tl u.2.1 u.2.2.1 u.2.2.2 T)) 0 0 (va_A (OT G h0 h1 tp tl tr tg tv T) sz) := by
  refine Met.walk (cc := cX4_readNextOrder) (maxL := 1) (ret := none) (Qc := fun A => PV G A (fun u : Int32 × Int32 × Int32 × Int32 => f_X4_readNextOrder tp tl tg tv T = u) (fun u : Int32 × Int32 × Int32 × Int32 => OT G h0 h1 u.1 tl u.2.1 u.2.2.1 u.2.2.2 T)) (by decide) rfl (Nat.le_of_ble_eq_true rfl) ?_
  intro p e s m below meth c A H C0 _ hK hsz hP hD hA hS ls hl
  have hx := C0.1
  have hb := C0.2.1
  have hown : s.vm.findClass RX4 = some m.cls := C0.2.2.2.2.1
  have hml := C0.2.2.2.1
  have hts : ∀ w ∈ wsX4_readNextOrder, w.before [.ref h0].toArray s = true := C0.2.2.2.2.2.1
  have hl : lv_has ls 1 [(0, .ref h0)] := hl
  refine lv_aload_n hx hb dX4_readNextOrder_0 rfl (lv_at hl 0 rfl) ?_
  refine lv_bipush (v := (nI 44)) hx hb dX4_readNextOrder_1 (by decide) ?_
  refine gcall_I (run_V (As := [.int (nI 44)]) (rest := []) C0 hK hP hD (c_X4_accept l G h0 h1 tp tl tr tg tv T H.size (nI 44)) (cwV 1 hts gX4_readNextOrder_X4_accept rfl rfl rfl cd_X4_accept ⟨Nat.le_of_ble_eq_true rfl, Nat.le_of_ble_eq_true rfl⟩) [0, 1] rfl rfl 0 (ci := 4) rfl rfl rfl rfl hl.1 rfl (Nat.le_of_ble_eq_true rfl) dX4_readNextOrder_3 ⟨Nat.le_of_ble_eq_true rfl, Nat.le_of_ble_eq_true rfl⟩) hP hD hS hA [0, 1] rfl rfl (fun _ => rfl) (fun r_1 u_1 H locs hw_1 hP hD hS => ?_)
  obtain ⟨tp_c1, rfl⟩ : ∃ z, z = u_1 := ⟨_, rfl⟩
  have hz_r_1 := hw_1.2
  have hw_1 := hw_1.1
  have hP : va_P G.1 vwCl (OT G h0 h1 tp_c1 tl tr tg tv T) H := hP
  have hD : va_D A (OT G h0 h1 tp_c1 tl tr tg tv T) := hD
  refine lv_pop hx hb dX4_readNextOrder_6 rfl ?_
  refine lv_aload_n hx hb dX4_readNextOrder_7 rfl (lv_at hl 0 rfl) ?_
  refine gcall_I (run_V (As := []) (rest := []) C0 hK hP hD (c_X4_readOrder l G h0 h1 tp_c1 tl tr tg tv T H.size ) (cwV 0 hts gX4_readNextOrder_X4_readOrder rfl rfl rfl cd_X4_readOrder ⟨Nat.le_of_ble_eq_true rfl, Nat.le_of_ble_eq_true rfl⟩) [0, 1] rfl rfl 0 (ci := 4) rfl rfl rfl rfl hl.1 rfl (Nat.le_of_ble_eq_true rfl) dX4_readNextOrder_8 ⟨Nat.le_of_ble_eq_true rfl, Nat.le_of_ble_eq_true rfl⟩) hP hD hS hA [0, 1] rfl rfl (fun _ => rfl) (fun r_2 u_2 H locs hw_2 hP hD hS => ?_)
  obtain ⟨tp_c2, tr_c2, tg_c2, tv_c2⟩ := u_2
  have hz_r_2 := hw_2.2
  have hw_2 := hw_2.1
  have hP : va_P G.1 vwCl (OT G h0 h1 tp_c2 tl tr_c2 tg_c2 tv_c2 T) H := hP
  have hD : va_D A (OT G h0 h1 tp_c2 tl tr_c2 tg_c2 tv_c2 T) := hD
  refine lv_pop hx hb dX4_readNextOrder_11 rfl ?_
  exact end_V C0 hP hD hS (tp_c2, tr_c2, tg_c2, tv_c2) (by simp only [f_X4_readNextOrder, hw_1, hw_2]) rfl dX4_readNextOrder_12

def s_X4_countOrders_6 (tl : Int32) (T : (Nat → Int32)) : Nat → Int32 → Int32 → Int32 → Int32 → Nat → Int32 × Int32 × Int32 × Int32 × Int32
  | 0, _, _, _, _, _ => (0, 0, 0, 0, 0)
  | n + 1, tp_6, tr_6, tg_6, tv_6, i =>
    if (nI 80) < (nI i) then
      (((-100) - tp_6), tp_6, tr_6, tg_6, tv_6)
    else
      match f_X4_readOrder tp_6 tl tg_6 tv_6 T with
      | (r_3, tp_c3, tr_c3, tg_c3, tv_c3) =>
        if r_3 = 0 then
          (((-100) - tp_c3), tp_c3, tr_c3, tg_c3, tv_c3)
        else
          if tp_c3 = tl then
            ((nI i), tp_c3, tr_c3, tg_c3, tv_c3)
          else
            match f_X4_accept tp_c3 tl T (nI 44) with
            | (r_6, tp_c6) =>
              if r_6 = 0 then
                (((-100) - tp_c6), tp_c6, tr_c3, tg_c3, tv_c3)
              else
                s_X4_countOrders_6 tl T n tp_c6 tr_c3 tg_c3 tv_c3 (i + 1)
def f_X4_countOrders (tl : Int32) (tr : Int32) (tg : Int32) (tv : Int32) (T : (Nat → Int32)) : Int32 × Int32 × Int32 × Int32 × Int32 :=
  s_X4_countOrders_6 tl T 81 (nI 0) tr tg tv 1
set_option maxRecDepth 20000 in
theorem k_X4_countOrders_f15 : Cond.fieldLink RX4 15 "SteamRations$OrderText" "length" "I" ∈ wsX4_countOrders := by decide +kernel
set_option maxRecDepth 20000 in
theorem k_X4_countOrders_f26 : Cond.fieldLink RX4 26 "SteamRations$OrderText" "place" "I" ∈ wsX4_countOrders := by decide +kernel
set_option maxRecDepth 20000 in
theorem in_X4_countOrders_RX4 : ∀ w ∈ u_ws RX4 TX4 6, w ∈ wsX4_countOrders := by decide +kernel
theorem cd_X4_countOrders : yX4_countOrders.cls = RX4 ∧ yX4_countOrders.cls ≠ "java/lang/invoke/MethodHandle" ∧ yX4_countOrders.cls ≠ "java/lang/invoke/VarHandle" ∧ (parseMethodDescriptor yX4_countOrders.desc).map (fun d => d.parameters.length) = some 0 := by decide +kernel
set_option maxHeartbeats 4000000 in
set_option maxRecDepth 100000 in
theorem c_X4_countOrders (l : Launch) (G : GG) (h0 : Nat) (h1 : Nat) (tp : Int32) (tl : Int32) (tr : Int32) (tg : Int32) (tv : Int32) (T : (Nat → Int32)) (sz : Nat)   : Met l yX4_countOrders wsX4_countOrders ({ frames := 5, cells := 0, slots := 0, locals := 108 }) (Pre G [.ref h0] (OT G h0 h1 tp tl tr tg tv T) sz) (PI G (va_A (OT G h0 h1 tp tl tr tg tv T) sz) (fun r (u : Int32 × Int32 × Int32 × Int32) => f_X4_countOrders tl tr tg tv T = (r, u)) (fun u : Int32 × Int32 × Int32 × Int32 => OT G h0 h1 u.1 tl u.2.1 u.2.2.1 u.2.2.2 T)) 0 0 (va_A (OT G h0 h1 tp tl tr tg tv T) sz) := by
  refine Met.walk (cc := cX4_countOrders) (maxL := 2) (ret := (some .int)) (Qc := fun A => PI G A (fun r (u : Int32 × Int32 × Int32 × Int32) => f_X4_countOrders tl tr tg tv T = (r, u)) (fun u : Int32 × Int32 × Int32 × Int32 => OT G h0 h1 u.1 tl u.2.1 u.2.2.1 u.2.2.2 T)) (by decide) rfl (Nat.le_of_ble_eq_true rfl) ?_
  intro p e s m below meth c A H C0 _ hK hsz hP hD hA hS ls hl
  have hx := C0.1
  have hb := C0.2.1
  have hown : s.vm.findClass RX4 = some m.cls := C0.2.2.2.2.1
  have hml := C0.2.2.2.1
  have hts : ∀ w ∈ wsX4_countOrders, w.before [.ref h0].toArray s = true := C0.2.2.2.2.2.1
  have hl : lv_has ls 2 [(0, .ref h0)] := hl
  have h_X4_countOrders_6 : ∀ (n : Nat) (tp_6 : Int32) (tr_6 : Int32) (tg_6 : Int32) (tv_6 : Int32) (i : Nat), 81 - i < n → (i ≤ 81) → f_X4_countOrders tl tr tg tv T = s_X4_countOrders_6 tl T n tp_6 tr_6 tg_6 tv_6 i → ∀ (H : Heap) (locs : List Loc) (ls : Array Slot), va_P G.1 vwCl (OT G h0 h1 tp_6 tl tr_6 tg_6 tv_6 T) H → va_D A (OT G h0 h1 tp_6 tl tr_6 tg_6 tv_6 T) → va_S A s.heap H locs → lv_has ls 2 [(1, .int (nI i)), (0, .ref h0)] → W p l e ({ frames := 5, cells := 0, slots := 0, locals := 108 }) s m ([.ref h0] : List Value).toArray below meth c H locs 0 0 (MQ below (PI G A (fun r (u : Int32 × Int32 × Int32 × Int32) => f_X4_countOrders tl tr tg tv T = (r, u)) (fun u : Int32 × Int32 × Int32 × Int32 => OT G h0 h1 u.1 tl u.2.1 u.2.2.1 u.2.2.2 T)) ([.ref h0] : List Value).toArray s 0 0 A) (F0 m 6 ls []) := by
    intro n
    induction n with
    | zero =>
      intro tp_6 tr_6 tg_6 tv_6 i hm
      exact absurd hm (Nat.not_lt_zero _)
    | succ n ih =>
      intro tp_6 tr_6 tg_6 tv_6 i hm hi hE H locs ls hP hD hS hl
      refine lv_iload_n hx hb dX4_countOrders_6 rfl (lv_at hl 0 rfl) ?_
      refine lv_bipush (v := (nI 80)) hx hb dX4_countOrders_7 (by decide) ?_
      refine lv_icmp_gt (tgt := 63) hx hb dX4_countOrders_9 (by decide) (fun c_2 => ?_) (fun c_2 => ?_)
      · have c_2n : 80 < i := (nI_ltI (by omega) (by omega)).mp c_2
        refine lv_bipush (v := (-100)) hx hb dX4_countOrders_63 (by decide) ?_
        refine lv_aload_n hx hb dX4_countOrders_65 rfl (lv_at hl 1 rfl) ?_
        refine va_get (D := G.1) (ci := 4) (v := .int tp_6) (C := RX4) (T := TX4) (N := 6) hx hb hts in_X4_countOrders_RX4 hown hK.1 hP 0 rfl rfl 1 (by decide) (hts _ k_X4_countOrders_f26) (fun _ h9 => h9) rfl dX4_countOrders_66 ?_
        refine lv_isub hx hb dX4_countOrders_69 ?_
        exact end_I C0 hP hD hS (tp_6, tr_6, tg_6, tv_6) (hE.trans (by simp only [s_X4_countOrders_6, if_pos c_2])) rfl dX4_countOrders_70
      · have c_2n : ¬ (80 < i) := fun z => c_2 ((nI_ltI (by omega) (by omega)).mpr z)
        refine lv_aload_n hx hb dX4_countOrders_12 rfl (lv_at hl 1 rfl) ?_
        refine gcall_I (run_V (As := []) (rest := []) C0 hK hP hD (c_X4_readOrder l G h0 h1 tp_6 tl tr_6 tg_6 tv_6 T H.size ) (cwV 0 hts gX4_countOrders_X4_readOrder rfl rfl rfl cd_X4_readOrder ⟨Nat.le_of_ble_eq_true rfl, Nat.le_of_ble_eq_true rfl⟩) [0, 1] rfl rfl 0 (ci := 4) rfl rfl rfl rfl hl.1 rfl (Nat.le_of_ble_eq_true rfl) dX4_countOrders_13 ⟨Nat.le_of_ble_eq_true rfl, Nat.le_of_ble_eq_true rfl⟩) hP hD hS hA [0, 1] rfl rfl (fun _ => rfl) (fun r_3 u_3 H locs hw_3 hP hD hS => ?_)
        obtain ⟨tp_c3, tr_c3, tg_c3, tv_c3⟩ := u_3
        have hz_r_3 := hw_3.2
        have hw_3 := hw_3.1
        have hP : va_P G.1 vwCl (OT G h0 h1 tp_c3 tl tr_c3 tg_c3 tv_c3 T) H := hP
        have hD : va_D A (OT G h0 h1 tp_c3 tl tr_c3 tg_c3 tv_c3 T) := hD
        refine lv_if_ne (tgt := 27) hx hb dX4_countOrders_16 (by decide) (fun c_4 => ?_) (fun c_4 => ?_)
        · refine lv_aload_n hx hb dX4_countOrders_27 rfl (lv_at hl 1 rfl) ?_
          refine va_get (D := G.1) (ci := 4) (v := .int tp_c3) (C := RX4) (T := TX4) (N := 6) hx hb hts in_X4_countOrders_RX4 hown hK.1 hP 0 rfl rfl 1 (by decide) (hts _ k_X4_countOrders_f26) (fun _ h9 => h9) rfl dX4_countOrders_28 ?_
          refine lv_aload_n hx hb dX4_countOrders_31 rfl (lv_at hl 1 rfl) ?_
          refine va_get (D := G.1) (ci := 4) (v := .int tl) (C := RX4) (T := TX4) (N := 6) hx hb hts in_X4_countOrders_RX4 hown hK.1 hP 0 rfl rfl 2 (by decide) (hts _ k_X4_countOrders_f15) (fun _ h9 => h9) rfl dX4_countOrders_32 ?_
          refine lv_icmp_ne (tgt := 40) hx hb dX4_countOrders_35 (by decide) (fun c_5 => ?_) (fun c_5 => ?_)
          · refine lv_aload_n hx hb dX4_countOrders_40 rfl (lv_at hl 1 rfl) ?_
            refine lv_bipush (v := (nI 44)) hx hb dX4_countOrders_41 (by decide) ?_
            refine gcall_I (run_V (As := [.int (nI 44)]) (rest := []) C0 hK hP hD (c_X4_accept l G h0 h1 tp_c3 tl tr_c3 tg_c3 tv_c3 T H.size (nI 44)) (cwV 1 hts gX4_countOrders_X4_accept rfl rfl rfl cd_X4_accept ⟨Nat.le_of_ble_eq_true rfl, Nat.le_of_ble_eq_true rfl⟩) [0, 1] rfl rfl 0 (ci := 4) rfl rfl rfl rfl hl.1 rfl (Nat.le_of_ble_eq_true rfl) dX4_countOrders_43 ⟨Nat.le_of_ble_eq_true rfl, Nat.le_of_ble_eq_true rfl⟩) hP hD hS hA [0, 1] rfl rfl (fun _ => rfl) (fun r_6 u_6 H locs hw_6 hP hD hS => ?_)
            obtain ⟨tp_c6, rfl⟩ : ∃ z, z = u_6 := ⟨_, rfl⟩
            have hz_r_6 := hw_6.2
            have hw_6 := hw_6.1
            have hP : va_P G.1 vwCl (OT G h0 h1 tp_c6 tl tr_c3 tg_c3 tv_c3 T) H := hP
            have hD : va_D A (OT G h0 h1 tp_c6 tl tr_c3 tg_c3 tv_c3 T) := hD
            refine lv_if_ne (tgt := 57) hx hb dX4_countOrders_46 (by decide) (fun c_7 => ?_) (fun c_7 => ?_)
            · refine lv_iinc (v := (nI (i + 1))) (lv' := [(1, .int (nI (i + 1))), (0, .ref h0)]) hx hb dX4_countOrders_57 hl (k := 0) rfl (inc1 i) (by decide) rfl (fun ls hl => ?_)
              refine lv_goto (tgt := 6) hx hb dX4_countOrders_60 (by decide) ?_
              exact ih tp_c6 tr_c3 tg_c3 tv_c3 (i + 1) (by omega) (by omega) (hE.trans (by simp only [s_X4_countOrders_6, if_neg c_2, hw_3, if_neg c_4, if_neg c_5, hw_6, if_neg c_7])) _ _ _ hP hD hS (lv_sub hl [0, 1] rfl)
            · refine lv_bipush (v := (-100)) hx hb dX4_countOrders_49 (by decide) ?_
              refine lv_aload_n hx hb dX4_countOrders_51 rfl (lv_at hl 1 rfl) ?_
              refine va_get (D := G.1) (ci := 4) (v := .int tp_c6) (C := RX4) (T := TX4) (N := 6) hx hb hts in_X4_countOrders_RX4 hown hK.1 hP 0 rfl rfl 1 (by decide) (hts _ k_X4_countOrders_f26) (fun _ h9 => h9) rfl dX4_countOrders_52 ?_
              refine lv_isub hx hb dX4_countOrders_55 ?_
              exact end_I C0 hP hD hS (tp_c6, tr_c3, tg_c3, tv_c3) (hE.trans (by simp only [s_X4_countOrders_6, if_neg c_2, hw_3, if_neg c_4, if_neg c_5, hw_6, if_pos c_7])) rfl dX4_countOrders_56
          · refine lv_iload_n hx hb dX4_countOrders_38 rfl (lv_at hl 0 rfl) ?_
            exact end_I C0 hP hD hS (tp_c3, tr_c3, tg_c3, tv_c3) (hE.trans (by simp only [s_X4_countOrders_6, if_neg c_2, hw_3, if_neg c_4, if_pos c_5])) rfl dX4_countOrders_39
        · refine lv_bipush (v := (-100)) hx hb dX4_countOrders_19 (by decide) ?_
          refine lv_aload_n hx hb dX4_countOrders_21 rfl (lv_at hl 1 rfl) ?_
          refine va_get (D := G.1) (ci := 4) (v := .int tp_c3) (C := RX4) (T := TX4) (N := 6) hx hb hts in_X4_countOrders_RX4 hown hK.1 hP 0 rfl rfl 1 (by decide) (hts _ k_X4_countOrders_f26) (fun _ h9 => h9) rfl dX4_countOrders_22 ?_
          refine lv_isub hx hb dX4_countOrders_25 ?_
          exact end_I C0 hP hD hS (tp_c3, tr_c3, tg_c3, tv_c3) (hE.trans (by simp only [s_X4_countOrders_6, if_neg c_2, hw_3, if_pos c_4])) rfl dX4_countOrders_26
  refine lv_aload_n hx hb dX4_countOrders_0 rfl (lv_at hl 0 rfl) ?_
  refine gcall_V (run_V (As := []) (rest := []) C0 hK hP hD (c_X4_rewind l G h0 h1 tp tl tr tg tv T H.size ) (cwV 0 hts gX4_countOrders_X4_rewind rfl rfl rfl cd_X4_rewind ⟨Nat.le_of_ble_eq_true rfl, Nat.le_of_ble_eq_true rfl⟩) [0, 1] rfl rfl 0 (ci := 4) rfl rfl rfl rfl hl.1 rfl (Nat.le_of_ble_eq_true rfl) dX4_countOrders_1 ⟨Nat.le_of_ble_eq_true rfl, Nat.le_of_ble_eq_true rfl⟩) hP hD hS hA [0, 1] rfl rfl (fun _ => rfl) (fun u_1 H locs hw_1 hP hD hS => ?_)
  obtain ⟨tp_c1, rfl⟩ : ∃ z, z = u_1 := ⟨_, rfl⟩
  simp only [f_X4_rewind, Prod.mk.injEq] at hw_1
  obtain rfl := hw_1
  have hP : va_P G.1 vwCl (OT G h0 h1 (nI 0) tl tr tg tv T) H := hP
  have hD : va_D A (OT G h0 h1 (nI 0) tl tr tg tv T) := hD
  refine lv_iconst (v := (nI 1)) hx hb dX4_countOrders_4 (by decide) ?_
  refine lv_istore_n (lv' := [(1, .int (nI 1)), (0, .ref h0)]) hx hb dX4_countOrders_5 rfl hl (by decide) rfl (fun ls hl => ?_)
  exact h_X4_countOrders_6 81 (nI 0) tr tg tv 1 (by omega) (by omega) (by simp only [f_X4_countOrders]) _ _ _ hP hD hS (lv_sub hl [0, 1] rfl)
