theorem fit_bool {r : Int32} (h : r = nI 0 ∨ r = nI 1) : fits .boolean (.int r) = true := by
  rcases h with rfl | rfl <;> decide

def f_X7_isNext (g : (Nat → Int32)) (T : (Nat → Int32)) (p0 : Int32) (p1 : Int32) : Int32 :=
  if (g 4) = 0 then
    (nI 0)
  else
    if (g 2) ≤ (g 3) then
      (nI 0)
    else
      if (f_X7_in (T (g 3).toNatClampNeg) p0 p1) = 0 then
        (nI 0)
      else
        (nI 1)
set_option maxRecDepth 20000 in
theorem k_X7_isNext_f107 : Cond.fieldLink RX7 107 "SteamRationsModel" "isRight" "Z" ∈ wsX7_isNext := by decide +kernel
set_option maxRecDepth 20000 in
theorem k_X7_isNext_f111 : Cond.fieldLink RX7 111 "SteamRationsModel" "at" "I" ∈ wsX7_isNext := by decide +kernel
set_option maxRecDepth 20000 in
theorem k_X7_isNext_f114 : Cond.fieldLink RX7 114 "SteamRationsModel" "typed" "I" ∈ wsX7_isNext := by decide +kernel
set_option maxRecDepth 20000 in
theorem k_X7_isNext_f13 : Cond.fieldLink RX7 13 "SteamRationsModel" "text" "[C" ∈ wsX7_isNext := by decide +kernel
set_option maxRecDepth 20000 in
theorem in_X7_isNext_RX7 : ∀ w ∈ u_ws RX7 TX7 11, w ∈ wsX7_isNext := by decide +kernel
theorem cd_X7_isNext : yX7_isNext.cls = RX7 ∧ yX7_isNext.cls ≠ "java/lang/invoke/MethodHandle" ∧ yX7_isNext.cls ≠ "java/lang/invoke/VarHandle" ∧ (parseMethodDescriptor yX7_isNext.desc).map (fun d => d.parameters.length) = some 2 := by decide +kernel
set_option maxHeartbeats 4000000 in
set_option maxRecDepth 100000 in
theorem c_X7_isNext (l : Launch) (G : GG) (a : Nat → Nat) (g : (Nat → Int32)) (M : (Nat → Int32)) (T : (Nat → Int32)) (Y : (Nat → Int32)) (sz : Nat) (p0 : Int32) (p1 : Int32) (h3 : ¬ g 3 < 0) (h2 : g 2 ≤ nI 80) : Met l yX7_isNext wsX7_isNext ({ frames := 1, cells := 0, slots := 0, locals := 22 }) (Pre G [.ref (a 0), .int p0, .int p1] (MC G a g M T Y) sz) (PI G (va_A (MC G a g M T Y) sz) (fun r (u : Unit) => f_X7_isNext g T p0 p1 = r ∧ (r = nI 0 ∨ r = nI 1)) (fun _ : Unit => MC G a g M T Y)) 0 0 (va_A (MC G a g M T Y) sz) := by
  refine Met.walk (cc := cX7_isNext) (maxL := 3) (ret := (some .boolean)) (Qc := fun A => PI G A (fun r (u : Unit) => f_X7_isNext g T p0 p1 = r ∧ (r = nI 0 ∨ r = nI 1)) (fun _ : Unit => MC G a g M T Y)) (by decide) rfl (Nat.le_of_ble_eq_true rfl) ?_
  intro p e s m below meth c A H C0 _ hK hsz hP hD hA hS ls hl
  have hx := C0.1
  have hb := C0.2.1
  have hown : s.vm.findClass RX7 = some m.cls := C0.2.2.2.2.1
  have hml := C0.2.2.2.1
  have hts : ∀ w ∈ wsX7_isNext, w.before [.ref (a 0), .int p0, .int p1].toArray s = true := C0.2.2.2.2.2.1
  have hl : lv_has ls 3 [(0, .ref (a 0)), (1, .int p0), (2, .int p1)] := hl
  refine lv_aload_n hx hb dX7_isNext_0 rfl (lv_at hl 0 rfl) ?_
  refine va_get (D := G.1) (ci := 7) (v := .int (g 4)) (C := RX7) (T := TX7) (N := 11) hx hb hts in_X7_isNext_RX7 hown hK.1 hP 0 rfl rfl 6 (by decide) (hts _ k_X7_isNext_f107) (fun _ h9 => h9) rfl dX7_isNext_1 ?_
  refine lv_if_eq (tgt := 39) hx hb dX7_isNext_4 (by decide) (fun c_1 => ?_) (fun c_1 => ?_)
  · refine lv_iconst (v := (nI 0)) hx hb dX7_isNext_39 (by decide) ?_
    exact end_Z C0 (by decide) hP hD hS () ⟨(by simp only [f_X7_isNext, if_pos c_1]), by decide⟩ rfl dX7_isNext_40
  · refine lv_aload_n hx hb dX7_isNext_7 rfl (lv_at hl 0 rfl) ?_
    refine va_get (D := G.1) (ci := 7) (v := .int (g 3)) (C := RX7) (T := TX7) (N := 11) hx hb hts in_X7_isNext_RX7 hown hK.1 hP 0 rfl rfl 5 (by decide) (hts _ k_X7_isNext_f111) (fun _ h9 => h9) rfl dX7_isNext_8 ?_
    refine lv_aload_n hx hb dX7_isNext_11 rfl (lv_at hl 0 rfl) ?_
    refine va_get (D := G.1) (ci := 7) (v := .int (g 2)) (C := RX7) (T := TX7) (N := 11) hx hb hts in_X7_isNext_RX7 hown hK.1 hP 0 rfl rfl 4 (by decide) (hts _ k_X7_isNext_f114) (fun _ h9 => h9) rfl dX7_isNext_12 ?_
    refine lv_icmp_ge (tgt := 39) hx hb dX7_isNext_15 (by decide) (fun c_2 => ?_) (fun c_2 => ?_)
    · refine lv_iconst (v := (nI 0)) hx hb dX7_isNext_39 (by decide) ?_
      exact end_Z C0 (by decide) hP hD hS () ⟨(by simp only [f_X7_isNext, if_neg c_1, if_pos c_2]), by decide⟩ rfl dX7_isNext_40
    · refine lv_aload_n hx hb dX7_isNext_18 rfl (lv_at hl 0 rfl) ?_
      refine va_get (D := G.1) (ci := 7) (v := .ref (a 2)) (C := RX7) (T := TX7) (N := 11) hx hb hts in_X7_isNext_RX7 hown hK.1 hP 0 rfl rfl 3 (by decide) (hts _ k_X7_isNext_f13) (fun _ h9 => h9) rfl dX7_isNext_19 ?_
      refine lv_aload_n hx hb dX7_isNext_22 rfl (lv_at hl 0 rfl) ?_
      refine va_get (D := G.1) (ci := 7) (v := .int (g 3)) (C := RX7) (T := TX7) (N := 11) hx hb hts in_X7_isNext_RX7 hown hK.1 hP 0 rfl rfl 5 (by decide) (hts _ k_X7_isNext_f111) (fun _ h9 => h9) rfl dX7_isNext_23 ?_
      refine va_cald (f := T) hx hb hK.1 hP 2 1 rfl rfl (vinLt h3 c_2 h2 (by decide)) dX7_isNext_26 ?_
      refine lv_iload_n hx hb dX7_isNext_27 rfl (lv_at hl 1 rfl) ?_
      refine lv_iload_n hx hb dX7_isNext_28 rfl (lv_at hl 2 rfl) ?_
      refine gcall_I (run_S (As := [.int (T (g 3).toNatClampNeg), .int p0, .int p1]) (rest := []) C0 hK hP hD (c_X7_in l G   H.size (T (g 3).toNatClampNeg) p0 p1) (va_cwS 3 hts gX7_isNext_X7_in rfl rfl rfl cd2_X7_in ⟨Nat.le_of_ble_eq_true rfl, Nat.le_of_ble_eq_true rfl⟩) [] rfl rfl rfl hl.1 rfl (Nat.le_of_ble_eq_true rfl) dX7_isNext_29 ⟨Nat.le_of_ble_eq_true rfl, Nat.le_of_ble_eq_true rfl⟩) hP hD hS hA [] rfl rfl (fun _ => rfl) (fun r_3 _ H locs hw_3 hP hD hS => ?_)
      have hz_r_3 := hw_3.2
      have hw_3 := hw_3.1
      subst hw_3
      have hP : va_P G.1 vwCl (MC G a g M T Y) H := hP
      have hD : va_D A (MC G a g M T Y) := hD
      refine lv_if_eq (tgt := 39) hx hb dX7_isNext_32 (by decide) (fun c_4 => ?_) (fun c_4 => ?_)
      · refine lv_iconst (v := (nI 0)) hx hb dX7_isNext_39 (by decide) ?_
        exact end_Z C0 (by decide) hP hD hS () ⟨(by simp only [f_X7_isNext, if_neg c_1, if_neg c_2, if_pos c_4]), by decide⟩ rfl dX7_isNext_40
      · refine lv_iconst (v := (nI 1)) hx hb dX7_isNext_35 (by decide) ?_
        refine lv_goto (tgt := 40) hx hb dX7_isNext_36 (by decide) ?_
        exact end_Z C0 (by decide) hP hD hS () ⟨(by simp only [f_X7_isNext, if_neg c_1, if_neg c_2, if_neg c_4]), by decide⟩ rfl dX7_isNext_40

theorem isNextIn {g T : Nat → Int32} {lo hi : Int32} (h : ¬ f_X7_isNext g T lo hi = 0) (h3 : ¬ g 3 < 0) (h2 : g 2 ≤ nI 80) : vp_in (g 3) 80 := by
  unfold f_X7_isNext at h
  by_cases c : g 4 = 0
  · rw [if_pos c] at h
    exact absurd rfl h
  · rw [if_neg c] at h
    by_cases c2 : g 2 ≤ g 3
    · rw [if_pos c2] at h
      exact absurd rfl h
    · exact vinLt h3 c2 h2 (by decide)
theorem vinBack {x : Int32} {n : Nat} (h : vp_in x n) : vp_in ((x + (nI 1)) - (nI 1)) n := by
  rw [Int32.add_sub_cancel]
  exact h
theorem atStep {x : Int32} (h : vp_in x 80) : ¬ (x + nI 1) < 0 ∧ (x + nI 1).toNatClampNeg = x.toNatClampNeg + 1 ∧ x.toNatClampNeg < 80 := by
  obtain ⟨j, hj, e⟩ := vp_in_of h (by decide)
  rw [e, nI_add, nI_clamp (by omega), nI_clamp (by omega)]
  exact ⟨nI_pos (by omega), rfl, hj⟩

def f_X7_digit (g : (Nat → Int32)) (T : (Nat → Int32)) (p0 : Int32) : Int32 × (Nat → Int32) :=
  if (f_X7_isNext g T (nI 48) ((nI 48) + p0)) = 0 then
    ((nI 0), (upd (upd g 4 (f_X7_isNext g T (nI 48) ((nI 48) + p0))) 3 ((g 3) + (nI 0))))
  else
    (((T (((g 3) + (nI 1)) - (nI 1)).toNatClampNeg) - (nI 48)), (upd (upd g 4 (f_X7_isNext g T (nI 48) ((nI 48) + p0))) 3 ((g 3) + (nI 1))))
set_option maxRecDepth 20000 in
theorem k_X7_digit_f107 : Cond.fieldLink RX7 107 "SteamRationsModel" "isRight" "Z" ∈ wsX7_digit := by decide +kernel
set_option maxRecDepth 20000 in
theorem k_X7_digit_f111 : Cond.fieldLink RX7 111 "SteamRationsModel" "at" "I" ∈ wsX7_digit := by decide +kernel
set_option maxRecDepth 20000 in
theorem k_X7_digit_f13 : Cond.fieldLink RX7 13 "SteamRationsModel" "text" "[C" ∈ wsX7_digit := by decide +kernel
set_option maxRecDepth 20000 in
theorem in_X7_digit_RX7 : ∀ w ∈ u_ws RX7 TX7 11, w ∈ wsX7_digit := by decide +kernel
theorem cd_X7_digit : yX7_digit.cls = RX7 ∧ yX7_digit.cls ≠ "java/lang/invoke/MethodHandle" ∧ yX7_digit.cls ≠ "java/lang/invoke/VarHandle" ∧ (parseMethodDescriptor yX7_digit.desc).map (fun d => d.parameters.length) = some 1 := by decide +kernel
set_option maxHeartbeats 4000000 in
set_option maxRecDepth 100000 in
theorem c_X7_digit (l : Launch) (G : GG) (a : Nat → Nat) (g : (Nat → Int32)) (M : (Nat → Int32)) (T : (Nat → Int32)) (Y : (Nat → Int32)) (sz : Nat) (p0 : Int32) (h3 : ¬ g 3 < 0) (h2 : g 2 ≤ nI 80) : Met l yX7_digit wsX7_digit ({ frames := 2, cells := 0, slots := 0, locals := 44 }) (Pre G [.ref (a 0), .int p0] (MC G a g M T Y) sz) (PI G (va_A (MC G a g M T Y) sz) (fun r (u : (Nat → Int32)) => f_X7_digit g T p0 = (r, u)) (fun u : (Nat → Int32) => MC G a u M T Y)) 0 0 (va_A (MC G a g M T Y) sz) := by
  refine Met.walk (cc := cX7_digit) (maxL := 2) (ret := (some .int)) (Qc := fun A => PI G A (fun r (u : (Nat → Int32)) => f_X7_digit g T p0 = (r, u)) (fun u : (Nat → Int32) => MC G a u M T Y)) (by decide) rfl (Nat.le_of_ble_eq_true rfl) ?_
  intro p e s m below meth c A H C0 _ hK hsz hP hD hA hS ls hl
  have hx := C0.1
  have hb := C0.2.1
  have hown : s.vm.findClass RX7 = some m.cls := C0.2.2.2.2.1
  have hml := C0.2.2.2.1
  have hts : ∀ w ∈ wsX7_digit, w.before [.ref (a 0), .int p0].toArray s = true := C0.2.2.2.2.2.1
  have hl : lv_has ls 2 [(0, .ref (a 0)), (1, .int p0)] := hl
  refine lv_aload_n hx hb dX7_digit_0 rfl (lv_at hl 0 rfl) ?_
  refine lv_aload_n hx hb dX7_digit_1 rfl (lv_at hl 0 rfl) ?_
  refine lv_bipush (v := (nI 48)) hx hb dX7_digit_2 (by decide) ?_
  refine lv_bipush (v := (nI 48)) hx hb dX7_digit_4 (by decide) ?_
  refine lv_iload_n hx hb dX7_digit_6 rfl (lv_at hl 1 rfl) ?_
  refine lv_iadd hx hb dX7_digit_7 ?_
  refine gcall_I (run_V (As := [.int (nI 48), .int ((nI 48) + p0)]) (rest := [.ref (a 0)]) C0 hK hP hD (c_X7_isNext l G a g M T Y H.size (nI 48) ((nI 48) + p0) h3 h2) (cwV 2 hts gX7_digit_X7_isNext rfl rfl rfl cd_X7_isNext ⟨Nat.le_of_ble_eq_true rfl, Nat.le_of_ble_eq_true rfl⟩) [0, 1, 2, 3] rfl rfl 0 (ci := 7) rfl rfl rfl rfl hl.1 rfl (Nat.le_of_ble_eq_true rfl) dX7_digit_8 ⟨Nat.le_of_ble_eq_true rfl, Nat.le_of_ble_eq_true rfl⟩) hP hD hS hA [0, 1, 2, 3] rfl rfl (fun _ => rfl) (fun r_1 _ H locs hw_1 hP hD hS => ?_)
  have hz_r_1 := hw_1.2
  have hw_1 := hw_1.1
  subst hw_1
  have hP : va_P G.1 vwCl (MC G a g M T Y) H := hP
  have hD : va_D A (MC G a g M T Y) := hD
  refine va_put (D := G.1) (ci := 7) (v := .int (f_X7_isNext g T (nI 48) ((nI 48) + p0))) (ty := .boolean) (C := RX7) (T := TX7) (N := 11) hx hb hts in_X7_digit_RX7 tyX7 tyX7_ok nmX7 hown hK.1 hP hD hS 0 rfl rfl 6 (by decide) (hts _ k_X7_digit_f107) (fun _ h9 => h9) rfl (by decide +kernel) (nar_bool hz_r_1) (fit_bool hz_r_1) (Nat.le_of_ble_eq_true rfl) dX7_digit_11 (fun H locs hP hD hS => ?_)
  have hP : va_P G.1 vwCl (MC G a (upd g 4 (f_X7_isNext g T (nI 48) ((nI 48) + p0))) M T Y) H := hP
  have hD : va_D A (MC G a (upd g 4 (f_X7_isNext g T (nI 48) ((nI 48) + p0))) M T Y) := hD
  refine lv_aload_n hx hb dX7_digit_14 rfl (lv_at hl 0 rfl) ?_
  refine lv_dup hx hb dX7_digit_15 rfl ?_
  refine va_get (D := G.1) (ci := 7) (v := .int (g 3)) (C := RX7) (T := TX7) (N := 11) hx hb hts in_X7_digit_RX7 hown hK.1 hP 0 rfl rfl 5 (by decide) (hts _ k_X7_digit_f111) (fun _ h9 => h9) rfl dX7_digit_16 ?_
  refine lv_aload_n hx hb dX7_digit_19 rfl (lv_at hl 0 rfl) ?_
  refine va_get (D := G.1) (ci := 7) (v := .int (f_X7_isNext g T (nI 48) ((nI 48) + p0))) (C := RX7) (T := TX7) (N := 11) hx hb hts in_X7_digit_RX7 hown hK.1 hP 0 rfl rfl 6 (by decide) (hts _ k_X7_digit_f107) (fun _ h9 => h9) rfl dX7_digit_20 ?_
  refine lv_if_eq (tgt := 30) hx hb dX7_digit_23 (by decide) (fun c_2 => ?_) (fun c_2 => ?_)
  · refine lv_iconst (v := (nI 0)) hx hb dX7_digit_30 (by decide) ?_
    refine lv_iadd hx hb dX7_digit_31 ?_
    refine va_put (D := G.1) (ci := 7) (v := .int ((g 3) + (nI 0))) (ty := .int) (C := RX7) (T := TX7) (N := 11) hx hb hts in_X7_digit_RX7 tyX7 tyX7_ok nmX7 hown hK.1 hP hD hS 0 rfl rfl 5 (by decide) (hts _ k_X7_digit_f111) (fun _ h9 => h9) rfl (by decide +kernel) rfl rfl (Nat.le_of_ble_eq_true rfl) dX7_digit_32 (fun H locs hP hD hS => ?_)
    have hP : va_P G.1 vwCl (MC G a (upd (upd g 4 (f_X7_isNext g T (nI 48) ((nI 48) + p0))) 3 ((g 3) + (nI 0))) M T Y) H := hP
    have hD : va_D A (MC G a (upd (upd g 4 (f_X7_isNext g T (nI 48) ((nI 48) + p0))) 3 ((g 3) + (nI 0))) M T Y) := hD
    refine lv_aload_n hx hb dX7_digit_35 rfl (lv_at hl 0 rfl) ?_
    refine va_get (D := G.1) (ci := 7) (v := .int (f_X7_isNext g T (nI 48) ((nI 48) + p0))) (C := RX7) (T := TX7) (N := 11) hx hb hts in_X7_digit_RX7 hown hK.1 hP 0 rfl rfl 6 (by decide) (hts _ k_X7_digit_f107) (fun _ h9 => h9) rfl dX7_digit_36 ?_
    refine lv_if_eq (tgt := 59) hx hb dX7_digit_39 (by decide) (fun c_3 => ?_) (fun c_3 => absurd c_2 c_3)
    refine lv_iconst (v := (nI 0)) hx hb dX7_digit_59 (by decide) ?_
    exact end_I C0 hP hD hS (upd (upd g 4 (f_X7_isNext g T (nI 48) ((nI 48) + p0))) 3 ((g 3) + (nI 0))) (by simp only [f_X7_digit, if_pos c_2]) rfl dX7_digit_60
  · refine lv_iconst (v := (nI 1)) hx hb dX7_digit_26 (by decide) ?_
    refine lv_goto (tgt := 31) hx hb dX7_digit_27 (by decide) ?_
    refine lv_iadd hx hb dX7_digit_31 ?_
    refine va_put (D := G.1) (ci := 7) (v := .int ((g 3) + (nI 1))) (ty := .int) (C := RX7) (T := TX7) (N := 11) hx hb hts in_X7_digit_RX7 tyX7 tyX7_ok nmX7 hown hK.1 hP hD hS 0 rfl rfl 5 (by decide) (hts _ k_X7_digit_f111) (fun _ h9 => h9) rfl (by decide +kernel) rfl rfl (Nat.le_of_ble_eq_true rfl) dX7_digit_32 (fun H locs hP hD hS => ?_)
    have hP : va_P G.1 vwCl (MC G a (upd (upd g 4 (f_X7_isNext g T (nI 48) ((nI 48) + p0))) 3 ((g 3) + (nI 1))) M T Y) H := hP
    have hD : va_D A (MC G a (upd (upd g 4 (f_X7_isNext g T (nI 48) ((nI 48) + p0))) 3 ((g 3) + (nI 1))) M T Y) := hD
    refine lv_aload_n hx hb dX7_digit_35 rfl (lv_at hl 0 rfl) ?_
    refine va_get (D := G.1) (ci := 7) (v := .int (f_X7_isNext g T (nI 48) ((nI 48) + p0))) (C := RX7) (T := TX7) (N := 11) hx hb hts in_X7_digit_RX7 hown hK.1 hP 0 rfl rfl 6 (by decide) (hts _ k_X7_digit_f107) (fun _ h9 => h9) rfl dX7_digit_36 ?_
    refine lv_if_eq (tgt := 59) hx hb dX7_digit_39 (by decide) (fun c_4 => absurd c_4 c_2) (fun c_4 => ?_)
    refine lv_aload_n hx hb dX7_digit_42 rfl (lv_at hl 0 rfl) ?_
    refine va_get (D := G.1) (ci := 7) (v := .ref (a 2)) (C := RX7) (T := TX7) (N := 11) hx hb hts in_X7_digit_RX7 hown hK.1 hP 0 rfl rfl 3 (by decide) (hts _ k_X7_digit_f13) (fun _ h9 => h9) rfl dX7_digit_43 ?_
    refine lv_aload_n hx hb dX7_digit_46 rfl (lv_at hl 0 rfl) ?_
    refine va_get (D := G.1) (ci := 7) (v := .int ((g 3) + (nI 1))) (C := RX7) (T := TX7) (N := 11) hx hb hts in_X7_digit_RX7 hown hK.1 hP 0 rfl rfl 5 (by decide) (hts _ k_X7_digit_f111) (fun _ h9 => h9) rfl dX7_digit_47 ?_
    refine lv_iconst (v := (nI 1)) hx hb dX7_digit_50 (by decide) ?_
    refine lv_isub hx hb dX7_digit_51 ?_
    refine va_cald (f := T) hx hb hK.1 hP 2 1 rfl rfl (vinBack (isNextIn c_2 h3 h2)) dX7_digit_52 ?_
    refine lv_bipush (v := (nI 48)) hx hb dX7_digit_53 (by decide) ?_
    refine lv_isub hx hb dX7_digit_55 ?_
    refine lv_goto (tgt := 60) hx hb dX7_digit_56 (by decide) ?_
    exact end_I C0 hP hD hS (upd (upd g 4 (f_X7_isNext g T (nI 48) ((nI 48) + p0))) 3 ((g 3) + (nI 1))) (by simp only [f_X7_digit, if_neg c_2]) rfl dX7_digit_60

def s_X7_number_14 (T : (Nat → Int32)) : Nat → (Nat → Int32) → Int32 → Int32 × (Nat → Int32)
  | 0, _, _ => (0, fun _ => 0)
  | n + 1, g_14, z =>
    if (f_X7_isNext g_14 T (nI 48) (nI 57)) = 0 then
      (z, g_14)
    else
      if (nI 200) < ((((nI 10) * z) + (T (g_14 3).toNatClampNeg)) - (nI 48)) then
        (z, g_14)
      else
        s_X7_number_14 T n (upd g_14 3 ((g_14 3) + (nI 1))) ((((nI 10) * z) + (T (g_14 3).toNatClampNeg)) - (nI 48))
def f_X7_number (g : (Nat → Int32)) (T : (Nat → Int32)) : Int32 × (Nat → Int32) :=
  s_X7_number_14 T 81 (upd g 4 (f_X7_isNext g T (nI 49) (nI 57))) (nI 0)
set_option maxRecDepth 20000 in
theorem k_X7_number_f107 : Cond.fieldLink RX7 107 "SteamRationsModel" "isRight" "Z" ∈ wsX7_number := by decide +kernel
set_option maxRecDepth 20000 in
theorem k_X7_number_f111 : Cond.fieldLink RX7 111 "SteamRationsModel" "at" "I" ∈ wsX7_number := by decide +kernel
set_option maxRecDepth 20000 in
theorem k_X7_number_f13 : Cond.fieldLink RX7 13 "SteamRationsModel" "text" "[C" ∈ wsX7_number := by decide +kernel
set_option maxRecDepth 20000 in
theorem in_X7_number_RX7 : ∀ w ∈ u_ws RX7 TX7 11, w ∈ wsX7_number := by decide +kernel
theorem cd_X7_number : yX7_number.cls = RX7 ∧ yX7_number.cls ≠ "java/lang/invoke/MethodHandle" ∧ yX7_number.cls ≠ "java/lang/invoke/VarHandle" ∧ (parseMethodDescriptor yX7_number.desc).map (fun d => d.parameters.length) = some 0 := by decide +kernel
set_option maxHeartbeats 4000000 in
set_option maxRecDepth 100000 in
theorem c_X7_number (l : Launch) (G : GG) (a : Nat → Nat) (g : (Nat → Int32)) (M : (Nat → Int32)) (T : (Nat → Int32)) (Y : (Nat → Int32)) (sz : Nat)  (h3 : ¬ g 3 < 0) (h2 : g 2 ≤ nI 80) : Met l yX7_number wsX7_number ({ frames := 2, cells := 0, slots := 0, locals := 44 }) (Pre G [.ref (a 0)] (MC G a g M T Y) sz) (PI G (va_A (MC G a g M T Y) sz) (fun r (u : (Nat → Int32)) => f_X7_number g T = (r, u)) (fun u : (Nat → Int32) => MC G a u M T Y)) 0 0 (va_A (MC G a g M T Y) sz) := by
  refine Met.walk (cc := cX7_number) (maxL := 2) (ret := (some .int)) (Qc := fun A => PI G A (fun r (u : (Nat → Int32)) => f_X7_number g T = (r, u)) (fun u : (Nat → Int32) => MC G a u M T Y)) (by decide) rfl (Nat.le_of_ble_eq_true rfl) ?_
  intro p e s m below meth c A H C0 _ hK hsz hP hD hA hS ls hl
  have hx := C0.1
  have hb := C0.2.1
  have hown : s.vm.findClass RX7 = some m.cls := C0.2.2.2.2.1
  have hml := C0.2.2.2.1
  have hts : ∀ w ∈ wsX7_number, w.before [.ref (a 0)].toArray s = true := C0.2.2.2.2.2.1
  have hl : lv_has ls 2 [(0, .ref (a 0))] := hl
  have h_X7_number_14 : ∀ (n : Nat) (g_14 : (Nat → Int32)) (z : Int32), 80 - (g_14 3).toNatClampNeg < n → (¬ g_14 3 < 0) → (g_14 2 ≤ nI 80) → f_X7_number g T = s_X7_number_14 T n g_14 z → ∀ (H : Heap) (locs : List Loc) (ls : Array Slot), va_P G.1 vwCl (MC G a g_14 M T Y) H → va_D A (MC G a g_14 M T Y) → va_S A s.heap H locs → lv_has ls 2 [(1, .int z), (0, .ref (a 0))] → W p l e ({ frames := 2, cells := 0, slots := 0, locals := 44 }) s m ([.ref (a 0)] : List Value).toArray below meth c H locs 0 0 (MQ below (PI G A (fun r (u : (Nat → Int32)) => f_X7_number g T = (r, u)) (fun u : (Nat → Int32) => MC G a u M T Y)) ([.ref (a 0)] : List Value).toArray s 0 0 A) (F0 m 14 ls []) := by
    intro n
    induction n with
    | zero =>
      intro g_14 z hm
      exact absurd hm (Nat.not_lt_zero _)
    | succ n ih =>
      intro g_14 z hm h3 h2 hE H locs ls hP hD hS hl
      refine lv_aload_n hx hb dX7_number_14 rfl (lv_at hl 1 rfl) ?_
      refine lv_bipush (v := (nI 48)) hx hb dX7_number_15 (by decide) ?_
      refine lv_bipush (v := (nI 57)) hx hb dX7_number_17 (by decide) ?_
      refine gcall_I (run_V (As := [.int (nI 48), .int (nI 57)]) (rest := []) C0 hK hP hD (c_X7_isNext l G a g_14 M T Y H.size (nI 48) (nI 57) h3 h2) (cwV 2 hts gX7_number_X7_isNext rfl rfl rfl cd_X7_isNext ⟨Nat.le_of_ble_eq_true rfl, Nat.le_of_ble_eq_true rfl⟩) [0, 1, 2, 3] rfl rfl 0 (ci := 7) rfl rfl rfl rfl hl.1 rfl (Nat.le_of_ble_eq_true rfl) dX7_number_19 ⟨Nat.le_of_ble_eq_true rfl, Nat.le_of_ble_eq_true rfl⟩) hP hD hS hA [0, 1, 2, 3] rfl rfl (fun _ => rfl) (fun r_2 _ H locs hw_2 hP hD hS => ?_)
      have hz_r_2 := hw_2.2
      have hw_2 := hw_2.1
      subst hw_2
      have hP : va_P G.1 vwCl (MC G a g_14 M T Y) H := hP
      have hD : va_D A (MC G a g_14 M T Y) := hD
      refine lv_if_eq (tgt := 79) hx hb dX7_number_22 (by decide) (fun c_3 => ?_) (fun c_3 => ?_)
      · refine lv_iload_n hx hb dX7_number_79 rfl (lv_at hl 0 rfl) ?_
        exact end_I C0 hP hD hS g_14 (hE.trans (by simp only [s_X7_number_14, if_pos c_3])) rfl dX7_number_80
      · have vi := isNextIn c_3 h3 h2
        have st := atStep vi
        refine lv_bipush (v := (nI 10)) hx hb dX7_number_25 (by decide) ?_
        refine lv_iload_n hx hb dX7_number_27 rfl (lv_at hl 0 rfl) ?_
        refine lv_imul hx hb dX7_number_28 ?_
        refine lv_aload_n hx hb dX7_number_29 rfl (lv_at hl 1 rfl) ?_
        refine va_get (D := G.1) (ci := 7) (v := .ref (a 2)) (C := RX7) (T := TX7) (N := 11) hx hb hts in_X7_number_RX7 hown hK.1 hP 0 rfl rfl 3 (by decide) (hts _ k_X7_number_f13) (fun _ h9 => h9) rfl dX7_number_30 ?_
        refine lv_aload_n hx hb dX7_number_33 rfl (lv_at hl 1 rfl) ?_
        refine va_get (D := G.1) (ci := 7) (v := .int (g_14 3)) (C := RX7) (T := TX7) (N := 11) hx hb hts in_X7_number_RX7 hown hK.1 hP 0 rfl rfl 5 (by decide) (hts _ k_X7_number_f111) (fun _ h9 => h9) rfl dX7_number_34 ?_
        refine va_cald (f := T) hx hb hK.1 hP 2 1 rfl rfl vi dX7_number_37 ?_
        refine lv_iadd hx hb dX7_number_38 ?_
        refine lv_bipush (v := (nI 48)) hx hb dX7_number_39 (by decide) ?_
        refine lv_isub hx hb dX7_number_41 ?_
        refine lv_sipush (v := (nI 200)) hx hb dX7_number_42 (by decide) ?_
        refine lv_icmp_gt (tgt := 79) hx hb dX7_number_45 (by decide) (fun c_4 => ?_) (fun c_4 => ?_)
        · refine lv_iload_n hx hb dX7_number_79 rfl (lv_at hl 0 rfl) ?_
          exact end_I C0 hP hD hS g_14 (hE.trans (by simp only [s_X7_number_14, if_neg c_3, if_pos c_4])) rfl dX7_number_80
        · refine lv_bipush (v := (nI 10)) hx hb dX7_number_48 (by decide) ?_
          refine lv_iload_n hx hb dX7_number_50 rfl (lv_at hl 0 rfl) ?_
          refine lv_imul hx hb dX7_number_51 ?_
          refine lv_aload_n hx hb dX7_number_52 rfl (lv_at hl 1 rfl) ?_
          refine va_get (D := G.1) (ci := 7) (v := .ref (a 2)) (C := RX7) (T := TX7) (N := 11) hx hb hts in_X7_number_RX7 hown hK.1 hP 0 rfl rfl 3 (by decide) (hts _ k_X7_number_f13) (fun _ h9 => h9) rfl dX7_number_53 ?_
          refine lv_aload_n hx hb dX7_number_56 rfl (lv_at hl 1 rfl) ?_
          refine va_get (D := G.1) (ci := 7) (v := .int (g_14 3)) (C := RX7) (T := TX7) (N := 11) hx hb hts in_X7_number_RX7 hown hK.1 hP 0 rfl rfl 5 (by decide) (hts _ k_X7_number_f111) (fun _ h9 => h9) rfl dX7_number_57 ?_
          refine va_cald (f := T) hx hb hK.1 hP 2 1 rfl rfl vi dX7_number_60 ?_
          refine lv_iadd hx hb dX7_number_61 ?_
          refine lv_bipush (v := (nI 48)) hx hb dX7_number_62 (by decide) ?_
          refine lv_isub hx hb dX7_number_64 ?_
          refine lv_istore_n (lv' := [(1, .int ((((nI 10) * z) + (T (g_14 3).toNatClampNeg)) - (nI 48))), (0, .ref (a 0))]) hx hb dX7_number_65 rfl hl (by decide) rfl (fun ls hl => ?_)
          refine lv_aload_n hx hb dX7_number_66 rfl (lv_at hl 1 rfl) ?_
          refine lv_dup hx hb dX7_number_67 rfl ?_
          refine va_get (D := G.1) (ci := 7) (v := .int (g_14 3)) (C := RX7) (T := TX7) (N := 11) hx hb hts in_X7_number_RX7 hown hK.1 hP 0 rfl rfl 5 (by decide) (hts _ k_X7_number_f111) (fun _ h9 => h9) rfl dX7_number_68 ?_
          refine lv_iconst (v := (nI 1)) hx hb dX7_number_71 (by decide) ?_
          refine lv_iadd hx hb dX7_number_72 ?_
          refine va_put (D := G.1) (ci := 7) (v := .int ((g_14 3) + (nI 1))) (ty := .int) (C := RX7) (T := TX7) (N := 11) hx hb hts in_X7_number_RX7 tyX7 tyX7_ok nmX7 hown hK.1 hP hD hS 0 rfl rfl 5 (by decide) (hts _ k_X7_number_f111) (fun _ h9 => h9) rfl (by decide +kernel) rfl rfl (Nat.le_of_ble_eq_true rfl) dX7_number_73 (fun H locs hP hD hS => ?_)
          have hP : va_P G.1 vwCl (MC G a (upd g_14 3 ((g_14 3) + (nI 1))) M T Y) H := hP
          have hD : va_D A (MC G a (upd g_14 3 ((g_14 3) + (nI 1))) M T Y) := hD
          refine lv_goto (tgt := 14) hx hb dX7_number_76 (by decide) ?_
          exact ih (upd g_14 3 ((g_14 3) + (nI 1))) ((((nI 10) * z) + (T (g_14 3).toNatClampNeg)) - (nI 48)) (by have a1 := st.2.1; have a2 := st.2.2; exact (show 80 - ((g_14 3) + nI 1).toNatClampNeg < n by omega)) st.1 h2 (hE.trans (by simp only [s_X7_number_14, if_neg c_3, if_neg c_4])) _ _ _ hP hD hS (lv_sub hl [0, 1] rfl)
  refine lv_aload_n hx hb dX7_number_0 rfl (lv_at hl 0 rfl) ?_
  refine lv_aload_n hx hb dX7_number_1 rfl (lv_at hl 0 rfl) ?_
  refine lv_bipush (v := (nI 49)) hx hb dX7_number_2 (by decide) ?_
  refine lv_bipush (v := (nI 57)) hx hb dX7_number_4 (by decide) ?_
  refine gcall_I (run_V (As := [.int (nI 49), .int (nI 57)]) (rest := [.ref (a 0)]) C0 hK hP hD (c_X7_isNext l G a g M T Y H.size (nI 49) (nI 57) h3 h2) (cwV 2 hts gX7_number_X7_isNext rfl rfl rfl cd_X7_isNext ⟨Nat.le_of_ble_eq_true rfl, Nat.le_of_ble_eq_true rfl⟩) [0, 1, 2, 3] rfl rfl 0 (ci := 7) rfl rfl rfl rfl hl.1 rfl (Nat.le_of_ble_eq_true rfl) dX7_number_6 ⟨Nat.le_of_ble_eq_true rfl, Nat.le_of_ble_eq_true rfl⟩) hP hD hS hA [0, 1, 2, 3] rfl rfl (fun _ => rfl) (fun r_1 _ H locs hw_1 hP hD hS => ?_)
  have hz_r_1 := hw_1.2
  have hw_1 := hw_1.1
  subst hw_1
  have hP : va_P G.1 vwCl (MC G a g M T Y) H := hP
  have hD : va_D A (MC G a g M T Y) := hD
  refine va_put (D := G.1) (ci := 7) (v := .int (f_X7_isNext g T (nI 49) (nI 57))) (ty := .boolean) (C := RX7) (T := TX7) (N := 11) hx hb hts in_X7_number_RX7 tyX7 tyX7_ok nmX7 hown hK.1 hP hD hS 0 rfl rfl 6 (by decide) (hts _ k_X7_number_f107) (fun _ h9 => h9) rfl (by decide +kernel) (nar_bool hz_r_1) (fit_bool hz_r_1) (Nat.le_of_ble_eq_true rfl) dX7_number_9 (fun H locs hP hD hS => ?_)
  have hP : va_P G.1 vwCl (MC G a (upd g 4 (f_X7_isNext g T (nI 49) (nI 57))) M T Y) H := hP
  have hD : va_D A (MC G a (upd g 4 (f_X7_isNext g T (nI 49) (nI 57))) M T Y) := hD
  refine lv_iconst (v := (nI 0)) hx hb dX7_number_12 (by decide) ?_
  refine lv_istore_n (lv' := [(1, .int (nI 0)), (0, .ref (a 0))]) hx hb dX7_number_13 rfl hl (by decide) rfl (fun ls hl => ?_)
  exact h_X7_number_14 81 (upd g 4 (f_X7_isNext g T (nI 49) (nI 57))) (nI 0) (by omega) h3 h2 (by simp only [f_X7_number]) _ _ _ hP hD hS (lv_sub hl [0, 1] rfl)

/-- what reading does to the place: it never goes back, and only as far as there is text -/
def RdOK (g g' : Nat → Int32) : Prop := ¬ g' 3 < 0 ∧ g' 2 = g 2 ∧ g' 5 = g 5 ∧ (g 3).toNatClampNeg ≤ (g' 3).toNatClampNeg ∧ ((g 3).toNatClampNeg ≤ 80 → (g' 3).toNatClampNeg ≤ 80)
theorem digit_ok {g T g' : Nat → Int32} {p r : Int32} (h3 : ¬ g 3 < 0) (h2 : g 2 ≤ nI 80) (hw : f_X7_digit g T p = (r, g')) : RdOK g g' := by
  unfold f_X7_digit at hw
  by_cases c : f_X7_isNext g T (nI 48) (nI 48 + p) = 0
  · rw [if_pos c] at hw
    obtain ⟨-, rfl⟩ := Prod.mk.inj hw
    refine ⟨?_, rfl, rfl, ?_, ?_⟩
    · show ¬ g 3 + nI 0 < 0
      rw [nI0, Int32.add_zero]
      exact h3
    · show _ ≤ (g 3 + nI 0).toNatClampNeg
      rw [nI0, Int32.add_zero]
      exact Nat.le_refl _
    · show _ → (g 3 + nI 0).toNatClampNeg ≤ 80
      rw [nI0, Int32.add_zero]
      exact fun h => h
  · rw [if_neg c] at hw
    obtain ⟨-, rfl⟩ := Prod.mk.inj hw
    obtain ⟨s1, s2, s3⟩ := atStep (isNextIn c h3 h2)
    refine ⟨s1, rfl, rfl, ?_, ?_⟩
    · show _ ≤ (g 3 + nI 1).toNatClampNeg
      omega
    · show _ → (g 3 + nI 1).toNatClampNeg ≤ 80
      omega
theorem RdOK.tr {g g' g2 : Nat → Int32} (h : RdOK g g') (k : RdOK g' g2) : RdOK g g2 := ⟨k.1, k.2.1.trans h.2.1, k.2.2.1.trans h.2.2.1, Nat.le_trans h.2.2.2.1 k.2.2.2.1, fun z => k.2.2.2.2 (h.2.2.2.2 z)⟩
theorem num_loop {T : Nat → Int32} : ∀ (n : Nat) (g : Nat → Int32) (z : Int32), ¬ g 3 < 0 → g 2 ≤ nI 80 → 80 - (g 3).toNatClampNeg < n → RdOK g (s_X7_number_14 T n g z).2
  | 0, g, z, _, _, hn => absurd hn (Nat.not_lt_zero _)
  | n + 1, g, z, h3, h2, hn => by
    rw [s_X7_number_14]
    by_cases c : f_X7_isNext g T (nI 48) (nI 57) = 0
    · rw [if_pos c]
      exact ⟨h3, rfl, rfl, Nat.le_refl _, fun h => h⟩
    · rw [if_neg c]
      by_cases c2 : (nI 200) < ((((nI 10) * z) + (T (g 3).toNatClampNeg)) - (nI 48))
      · rw [if_pos c2]
        exact ⟨h3, rfl, rfl, Nat.le_refl _, fun h => h⟩
      · rw [if_neg c2]
        obtain ⟨s1, s2, s3⟩ := atStep (isNextIn c h3 h2)
        refine RdOK.tr (g' := upd g 3 (g 3 + nI 1)) ⟨s1, rfl, rfl, ?_, ?_⟩ (num_loop n _ _ s1 h2 ?_)
        · show _ ≤ (g 3 + nI 1).toNatClampNeg
          omega
        · show _ → (g 3 + nI 1).toNatClampNeg ≤ 80
          omega
        · show 80 - (g 3 + nI 1).toNatClampNeg < n
          omega
theorem number_ok {g T g' : Nat → Int32} {r : Int32} (h3 : ¬ g 3 < 0) (h2 : g 2 ≤ nI 80) (hw : f_X7_number g T = (r, g')) : RdOK g g' := by
  unfold f_X7_number at hw
  have h := num_loop (T := T) 81 (upd g 4 (f_X7_isNext g T (nI 49) (nI 57))) (nI 0) h3 h2 (by omega)
  rw [hw] at h
  exact h
