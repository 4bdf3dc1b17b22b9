theorem tries_keep {M v q : Nat → Int32} {a b p2 : Int32} {j : Nat} (hA : At M 0 v q) (hL : InvL v q) (ha : 0 ≤ a) (hb : 0 ≤ b) (hj : j < 276) : f_X7_tries M a b p2 j = M j := by
  unfold f_X7_tries
  rw [ticks_fr p2 (by omega) (TickOK.tries hA hL ha hb) (by omega) (by omega), pk_un (by omega), pk_un (by omega), cpy_fr (by omega)]

def f_X7_ifFires (M : (Nat → Int32)) (p0 : Int32) (p1 : Int32) (p2 : Int32) (p3 : Int32) : Int32 × (Nat → Int32) :=
  if (f_X7_in p0 (nI 0) (nI 5)) = 0 then
    ((-2), M)
  else
    if (f_X7_in p1 (nI 0) (nI 5)) = 0 then
      ((-2), M)
    else
      if (f_X7_in p2 (nI 1) (nI 200)) = 0 then
        ((-2), M)
      else
        if (f_X7_in p3 (nI 0) (nI 3)) = 0 then
          ((-2), M)
        else
          match f_X7_tries M p0 p1 p2 with
          | M_c9 =>
            if p3 = 0 then
              ((f_X7_more M_c9 41), M_c9)
            else
              if p3 = (nI 1) then
                ((f_X7_more M_c9 42), M_c9)
              else
                if p3 = (nI 2) then
                  ((f_X7_more M_c9 38), M_c9)
                else
                  (((f_X7_more M_c9 8) + (f_X7_more M_c9 9)), M_c9)
theorem cd_X7_ifFires : yX7_ifFires.cls = RX7 ∧ yX7_ifFires.cls ≠ "java/lang/invoke/MethodHandle" ∧ yX7_ifFires.cls ≠ "java/lang/invoke/VarHandle" ∧ (parseMethodDescriptor yX7_ifFires.desc).map (fun d => d.parameters.length) = some 4 := by decide +kernel
set_option maxHeartbeats 4000000 in
set_option maxRecDepth 100000 in
theorem c_X7_ifFires (l : Launch) (G : GG) (a : Nat → Nat) (g : (Nat → Int32)) (M : (Nat → Int32)) (T : (Nat → Int32)) (Y : (Nat → Int32)) (sz : Nat) (p0 : Int32) (p1 : Int32) (p2 : Int32) (p3 : Int32) (v : (Nat → Int32)) (q : (Nat → Int32)) (hAA : At M 0 v q) (hL : InvL v q) : Met l yX7_ifFires wsX7_ifFires ({ frames := 7, cells := 0, slots := 0, locals := 166 }) (Pre G [.ref (a 0), .int p0, .int p1, .int p2, .int p3] (MC G a g M T Y) sz) (PI G (va_A (MC G a g M T Y) sz) (fun r (u : (Nat → Int32)) => f_X7_ifFires M p0 p1 p2 p3 = (r, u)) (fun u : (Nat → Int32) => MC G a g u T Y)) 0 0 (va_A (MC G a g M T Y) sz) := by
  refine Met.walk (cc := cX7_ifFires) (maxL := 5) (ret := (some .int)) (Qc := fun A => PI G A (fun r (u : (Nat → Int32)) => f_X7_ifFires M p0 p1 p2 p3 = (r, u)) (fun u : (Nat → Int32) => MC G a g u T Y)) (by decide) rfl (Nat.le_of_ble_eq_true rfl) ?_
  intro p e s m below meth c A H C0 _ hK hsz hP hD hA hS ls hl
  have hx := C0.1
  have hb := C0.2.1
  have hown : s.vm.findClass RX7 = some m.cls := C0.2.2.2.2.1
  have hml := C0.2.2.2.1
  have hts : ∀ w ∈ wsX7_ifFires, w.before [.ref (a 0), .int p0, .int p1, .int p2, .int p3].toArray s = true := C0.2.2.2.2.2.1
  have hl : lv_has ls 5 [(0, .ref (a 0)), (1, .int p0), (2, .int p1), (3, .int p2), (4, .int p3)] := hl
  refine lv_iload_n hx hb dX7_ifFires_0 rfl (lv_at hl 1 rfl) ?_
  refine lv_iconst (v := (nI 0)) hx hb dX7_ifFires_1 (by decide) ?_
  refine lv_iconst (v := (nI 5)) hx hb dX7_ifFires_2 (by decide) ?_
  refine gcall_I (run_S (As := [.int p0, .int (nI 0), .int (nI 5)]) (rest := []) C0 hK hP hD (c_X7_in l G   H.size p0 (nI 0) (nI 5)) (va_cwS 3 hts gX7_ifFires_X7_in rfl rfl rfl cd2_X7_in ⟨Nat.le_of_ble_eq_true rfl, Nat.le_of_ble_eq_true rfl⟩) [] rfl rfl rfl hl.1 rfl (Nat.le_of_ble_eq_true rfl) dX7_ifFires_3 ⟨Nat.le_of_ble_eq_true rfl, Nat.le_of_ble_eq_true rfl⟩) hP hD hS hA [] rfl rfl (fun _ => rfl) (fun r_1 _ H locs hw_1 hP hD hS => ?_)
  have hz_r_1 := hw_1.2
  have hw_1 := hw_1.1
  subst hw_1
  have hP : va_P G.1 vwCl (MC G a g M T Y) H := hP
  have hD : va_D A (MC G a g M T Y) := hD
  refine lv_if_eq (tgt := 39) hx hb dX7_ifFires_6 (by decide) (fun c_2 => ?_) (fun c_2 => ?_)
  · refine lv_bipush (v := (-2)) hx hb dX7_ifFires_39 (by decide) ?_
    exact end_I C0 hP hD hS M (by simp only [f_X7_ifFires, if_pos c_2]) rfl dX7_ifFires_41
  · refine lv_iload_n hx hb dX7_ifFires_9 rfl (lv_at hl 2 rfl) ?_
    refine lv_iconst (v := (nI 0)) hx hb dX7_ifFires_10 (by decide) ?_
    refine lv_iconst (v := (nI 5)) hx hb dX7_ifFires_11 (by decide) ?_
    refine gcall_I (run_S (As := [.int p1, .int (nI 0), .int (nI 5)]) (rest := []) C0 hK hP hD (c_X7_in l G   H.size p1 (nI 0) (nI 5)) (va_cwS 3 hts gX7_ifFires_X7_in rfl rfl rfl cd2_X7_in ⟨Nat.le_of_ble_eq_true rfl, Nat.le_of_ble_eq_true rfl⟩) [] rfl rfl rfl hl.1 rfl (Nat.le_of_ble_eq_true rfl) dX7_ifFires_12 ⟨Nat.le_of_ble_eq_true rfl, Nat.le_of_ble_eq_true rfl⟩) hP hD hS hA [] rfl rfl (fun _ => rfl) (fun r_3 _ H locs hw_3 hP hD hS => ?_)
    have hz_r_3 := hw_3.2
    have hw_3 := hw_3.1
    subst hw_3
    have hP : va_P G.1 vwCl (MC G a g M T Y) H := hP
    have hD : va_D A (MC G a g M T Y) := hD
    refine lv_if_eq (tgt := 39) hx hb dX7_ifFires_15 (by decide) (fun c_4 => ?_) (fun c_4 => ?_)
    · refine lv_bipush (v := (-2)) hx hb dX7_ifFires_39 (by decide) ?_
      exact end_I C0 hP hD hS M (by simp only [f_X7_ifFires, if_neg c_2, if_pos c_4]) rfl dX7_ifFires_41
    · refine lv_iload_n hx hb dX7_ifFires_18 rfl (lv_at hl 3 rfl) ?_
      refine lv_iconst (v := (nI 1)) hx hb dX7_ifFires_19 (by decide) ?_
      refine lv_sipush (v := (nI 200)) hx hb dX7_ifFires_20 (by decide) ?_
      refine gcall_I (run_S (As := [.int p2, .int (nI 1), .int (nI 200)]) (rest := []) C0 hK hP hD (c_X7_in l G   H.size p2 (nI 1) (nI 200)) (va_cwS 3 hts gX7_ifFires_X7_in rfl rfl rfl cd2_X7_in ⟨Nat.le_of_ble_eq_true rfl, Nat.le_of_ble_eq_true rfl⟩) [] rfl rfl rfl hl.1 rfl (Nat.le_of_ble_eq_true rfl) dX7_ifFires_23 ⟨Nat.le_of_ble_eq_true rfl, Nat.le_of_ble_eq_true rfl⟩) hP hD hS hA [] rfl rfl (fun _ => rfl) (fun r_5 _ H locs hw_5 hP hD hS => ?_)
      have hz_r_5 := hw_5.2
      have hw_5 := hw_5.1
      subst hw_5
      have hP : va_P G.1 vwCl (MC G a g M T Y) H := hP
      have hD : va_D A (MC G a g M T Y) := hD
      refine lv_if_eq (tgt := 39) hx hb dX7_ifFires_26 (by decide) (fun c_6 => ?_) (fun c_6 => ?_)
      · refine lv_bipush (v := (-2)) hx hb dX7_ifFires_39 (by decide) ?_
        exact end_I C0 hP hD hS M (by simp only [f_X7_ifFires, if_neg c_2, if_neg c_4, if_pos c_6]) rfl dX7_ifFires_41
      · refine lv_iload hx hb dX7_ifFires_29 (lv_at hl 4 rfl) ?_
        refine lv_iconst (v := (nI 0)) hx hb dX7_ifFires_31 (by decide) ?_
        refine lv_iconst (v := (nI 3)) hx hb dX7_ifFires_32 (by decide) ?_
        refine gcall_I (run_S (As := [.int p3, .int (nI 0), .int (nI 3)]) (rest := []) C0 hK hP hD (c_X7_in l G   H.size p3 (nI 0) (nI 3)) (va_cwS 3 hts gX7_ifFires_X7_in rfl rfl rfl cd2_X7_in ⟨Nat.le_of_ble_eq_true rfl, Nat.le_of_ble_eq_true rfl⟩) [] rfl rfl rfl hl.1 rfl (Nat.le_of_ble_eq_true rfl) dX7_ifFires_33 ⟨Nat.le_of_ble_eq_true rfl, Nat.le_of_ble_eq_true rfl⟩) hP hD hS hA [] rfl rfl (fun _ => rfl) (fun r_7 _ H locs hw_7 hP hD hS => ?_)
        have hz_r_7 := hw_7.2
        have hw_7 := hw_7.1
        subst hw_7
        have hP : va_P G.1 vwCl (MC G a g M T Y) H := hP
        have hD : va_D A (MC G a g M T Y) := hD
        refine lv_if_ne (tgt := 42) hx hb dX7_ifFires_36 (by decide) (fun c_8 => ?_) (fun c_8 => ?_)
        · refine lv_aload_n hx hb dX7_ifFires_42 rfl (lv_at hl 0 rfl) ?_
          refine lv_iload_n hx hb dX7_ifFires_43 rfl (lv_at hl 1 rfl) ?_
          refine lv_iload_n hx hb dX7_ifFires_44 rfl (lv_at hl 2 rfl) ?_
          refine lv_iload_n hx hb dX7_ifFires_45 rfl (lv_at hl 3 rfl) ?_
          refine gcall_V (run_V (As := [.int p0, .int p1, .int p2]) (rest := []) C0 hK hP hD (c_X7_tries l G a g M T Y H.size p0 p1 p2 v q hAA hL (inGe c_2) (inGe c_4)) (cwV 3 hts gX7_ifFires_X7_tries rfl rfl rfl cd_X7_tries ⟨Nat.le_of_ble_eq_true rfl, Nat.le_of_ble_eq_true rfl⟩) [0, 1, 2, 3] rfl rfl 0 (ci := 7) rfl rfl rfl rfl hl.1 rfl (Nat.le_of_ble_eq_true rfl) dX7_ifFires_46 ⟨Nat.le_of_ble_eq_true rfl, Nat.le_of_ble_eq_true rfl⟩) hP hD hS hA [0, 1, 2, 3] rfl rfl (fun _ => rfl) (fun u_9 H locs hw_9 hP hD hS => ?_)
          obtain ⟨M_c9, rfl⟩ : ∃ z, z = u_9 := ⟨_, rfl⟩
          have hP : va_P G.1 vwCl (MC G a g M_c9 T Y) H := hP
          have hD : va_D A (MC G a g M_c9 T Y) := hD
          refine lv_iload hx hb dX7_ifFires_49 (lv_at hl 4 rfl) ?_
          refine lv_if_ne (tgt := 63) hx hb dX7_ifFires_51 (by decide) (fun c_10 => ?_) (fun c_10 => ?_)
          · refine lv_iload hx hb dX7_ifFires_63 (lv_at hl 4 rfl) ?_
            refine lv_iconst (v := (nI 1)) hx hb dX7_ifFires_65 (by decide) ?_
            refine lv_icmp_ne (tgt := 78) hx hb dX7_ifFires_66 (by decide) (fun c_11 => ?_) (fun c_11 => ?_)
            · refine lv_iload hx hb dX7_ifFires_78 (lv_at hl 4 rfl) ?_
              refine lv_iconst (v := (nI 2)) hx hb dX7_ifFires_80 (by decide) ?_
              refine lv_icmp_ne (tgt := 93) hx hb dX7_ifFires_81 (by decide) (fun c_12 => ?_) (fun c_12 => ?_)
              · refine lv_aload_n hx hb dX7_ifFires_93 rfl (lv_at hl 0 rfl) ?_
                refine lv_bipush (v := (nI 8)) hx hb dX7_ifFires_94 (by decide) ?_
                refine gcall_I (run_V (As := [.int (nI 8)]) (rest := []) C0 hK hP hD (c_X7_more l G a g M_c9 T Y H.size 8 (by omega)) (cwV 1 hts gX7_ifFires_X7_more rfl rfl rfl cd_X7_more ⟨Nat.le_of_ble_eq_true rfl, Nat.le_of_ble_eq_true rfl⟩) [0, 1, 2, 3] rfl rfl 0 (ci := 7) rfl rfl rfl rfl hl.1 rfl (Nat.le_of_ble_eq_true rfl) dX7_ifFires_96 ⟨Nat.le_of_ble_eq_true rfl, Nat.le_of_ble_eq_true rfl⟩) hP hD hS hA [0, 1, 2, 3] rfl rfl (fun _ => rfl) (fun r_13 _ H locs hw_13 hP hD hS => ?_)
                subst hw_13
                have hP : va_P G.1 vwCl (MC G a g M_c9 T Y) H := hP
                have hD : va_D A (MC G a g M_c9 T Y) := hD
                refine lv_aload_n hx hb dX7_ifFires_99 rfl (lv_at hl 0 rfl) ?_
                refine lv_bipush (v := (nI 9)) hx hb dX7_ifFires_100 (by decide) ?_
                refine gcall_I (run_V (As := [.int (nI 9)]) (rest := [.int (f_X7_more M_c9 8)]) C0 hK hP hD (c_X7_more l G a g M_c9 T Y H.size 9 (by omega)) (cwV 1 hts gX7_ifFires_X7_more rfl rfl rfl cd_X7_more ⟨Nat.le_of_ble_eq_true rfl, Nat.le_of_ble_eq_true rfl⟩) [0, 1, 2, 3] rfl rfl 0 (ci := 7) rfl rfl rfl rfl hl.1 rfl (Nat.le_of_ble_eq_true rfl) dX7_ifFires_102 ⟨Nat.le_of_ble_eq_true rfl, Nat.le_of_ble_eq_true rfl⟩) hP hD hS hA [0, 1, 2, 3] rfl rfl (fun _ => rfl) (fun r_14 _ H locs hw_14 hP hD hS => ?_)
                subst hw_14
                have hP : va_P G.1 vwCl (MC G a g M_c9 T Y) H := hP
                have hD : va_D A (MC G a g M_c9 T Y) := hD
                refine lv_iadd hx hb dX7_ifFires_105 ?_
                exact end_I C0 hP hD hS M_c9 (by simp only [f_X7_ifFires, if_neg c_2, if_neg c_4, if_neg c_6, if_neg c_8, hw_9, if_neg c_10, if_neg c_11, if_neg c_12]) rfl dX7_ifFires_106
              · refine lv_aload_n hx hb dX7_ifFires_84 rfl (lv_at hl 0 rfl) ?_
                refine lv_bipush (v := (nI 38)) hx hb dX7_ifFires_85 (by decide) ?_
                refine gcall_I (run_V (As := [.int (nI 38)]) (rest := []) C0 hK hP hD (c_X7_more l G a g M_c9 T Y H.size 38 (by omega)) (cwV 1 hts gX7_ifFires_X7_more rfl rfl rfl cd_X7_more ⟨Nat.le_of_ble_eq_true rfl, Nat.le_of_ble_eq_true rfl⟩) [0, 1, 2, 3] rfl rfl 0 (ci := 7) rfl rfl rfl rfl hl.1 rfl (Nat.le_of_ble_eq_true rfl) dX7_ifFires_87 ⟨Nat.le_of_ble_eq_true rfl, Nat.le_of_ble_eq_true rfl⟩) hP hD hS hA [0, 1, 2, 3] rfl rfl (fun _ => rfl) (fun r_15 _ H locs hw_15 hP hD hS => ?_)
                subst hw_15
                have hP : va_P G.1 vwCl (MC G a g M_c9 T Y) H := hP
                have hD : va_D A (MC G a g M_c9 T Y) := hD
                refine lv_goto (tgt := 106) hx hb dX7_ifFires_90 (by decide) ?_
                exact end_I C0 hP hD hS M_c9 (by simp only [f_X7_ifFires, if_neg c_2, if_neg c_4, if_neg c_6, if_neg c_8, hw_9, if_neg c_10, if_neg c_11, if_pos c_12]) rfl dX7_ifFires_106
            · refine lv_aload_n hx hb dX7_ifFires_69 rfl (lv_at hl 0 rfl) ?_
              refine lv_bipush (v := (nI 42)) hx hb dX7_ifFires_70 (by decide) ?_
              refine gcall_I (run_V (As := [.int (nI 42)]) (rest := []) C0 hK hP hD (c_X7_more l G a g M_c9 T Y H.size 42 (by omega)) (cwV 1 hts gX7_ifFires_X7_more rfl rfl rfl cd_X7_more ⟨Nat.le_of_ble_eq_true rfl, Nat.le_of_ble_eq_true rfl⟩) [0, 1, 2, 3] rfl rfl 0 (ci := 7) rfl rfl rfl rfl hl.1 rfl (Nat.le_of_ble_eq_true rfl) dX7_ifFires_72 ⟨Nat.le_of_ble_eq_true rfl, Nat.le_of_ble_eq_true rfl⟩) hP hD hS hA [0, 1, 2, 3] rfl rfl (fun _ => rfl) (fun r_16 _ H locs hw_16 hP hD hS => ?_)
              subst hw_16
              have hP : va_P G.1 vwCl (MC G a g M_c9 T Y) H := hP
              have hD : va_D A (MC G a g M_c9 T Y) := hD
              refine lv_goto (tgt := 106) hx hb dX7_ifFires_75 (by decide) ?_
              exact end_I C0 hP hD hS M_c9 (by simp only [f_X7_ifFires, if_neg c_2, if_neg c_4, if_neg c_6, if_neg c_8, hw_9, if_neg c_10, if_pos c_11]) rfl dX7_ifFires_106
          · refine lv_aload_n hx hb dX7_ifFires_54 rfl (lv_at hl 0 rfl) ?_
            refine lv_bipush (v := (nI 41)) hx hb dX7_ifFires_55 (by decide) ?_
            refine gcall_I (run_V (As := [.int (nI 41)]) (rest := []) C0 hK hP hD (c_X7_more l G a g M_c9 T Y H.size 41 (by omega)) (cwV 1 hts gX7_ifFires_X7_more rfl rfl rfl cd_X7_more ⟨Nat.le_of_ble_eq_true rfl, Nat.le_of_ble_eq_true rfl⟩) [0, 1, 2, 3] rfl rfl 0 (ci := 7) rfl rfl rfl rfl hl.1 rfl (Nat.le_of_ble_eq_true rfl) dX7_ifFires_57 ⟨Nat.le_of_ble_eq_true rfl, Nat.le_of_ble_eq_true rfl⟩) hP hD hS hA [0, 1, 2, 3] rfl rfl (fun _ => rfl) (fun r_17 _ H locs hw_17 hP hD hS => ?_)
            subst hw_17
            have hP : va_P G.1 vwCl (MC G a g M_c9 T Y) H := hP
            have hD : va_D A (MC G a g M_c9 T Y) := hD
            refine lv_goto (tgt := 106) hx hb dX7_ifFires_60 (by decide) ?_
            exact end_I C0 hP hD hS M_c9 (by simp only [f_X7_ifFires, if_neg c_2, if_neg c_4, if_neg c_6, if_neg c_8, hw_9, if_pos c_10]) rfl dX7_ifFires_106
        · refine lv_bipush (v := (-2)) hx hb dX7_ifFires_39 (by decide) ?_
          exact end_I C0 hP hD hS M (by simp only [f_X7_ifFires, if_neg c_2, if_neg c_4, if_neg c_6, if_pos c_8]) rfl dX7_ifFires_41

def s_X7_doneIn_9  : Nat → (Nat → Int32) → Nat → Int32 × (Nat → Int32)
  | 0, _, _ => (0, fun _ => 0)
  | n + 1, M_9, i =>
    if (f_X7_isDone M_9 276) = 0 then
      if (nI 400) ≤ (nI i) then
        ((-5), M_9)
      else
        match f_X7_ticks M_9 6 (nI 1) with
        | M_c9 =>
          s_X7_doneIn_9 n M_c9 (i + 1)
    else
      ((nI i), M_9)
def f_X7_doneIn (M : (Nat → Int32)) : Int32 × (Nat → Int32) :=
  s_X7_doneIn_9 401 (cpyM M 0 6 46) 0
theorem cd_X7_doneIn : yX7_doneIn.cls = RX7 ∧ yX7_doneIn.cls ≠ "java/lang/invoke/MethodHandle" ∧ yX7_doneIn.cls ≠ "java/lang/invoke/VarHandle" ∧ (parseMethodDescriptor yX7_doneIn.desc).map (fun d => d.parameters.length) = some 0 := by decide +kernel
set_option maxHeartbeats 4000000 in
set_option maxRecDepth 100000 in
theorem c_X7_doneIn (l : Launch) (G : GG) (a : Nat → Nat) (g : (Nat → Int32)) (M : (Nat → Int32)) (T : (Nat → Int32)) (Y : (Nat → Int32)) (sz : Nat) (v : (Nat → Int32)) (q : (Nat → Int32)) (hAA : At M 0 v q) (hL : InvL v q) : Met l yX7_doneIn wsX7_doneIn ({ frames := 6, cells := 0, slots := 0, locals := 143 }) (Pre G [.ref (a 0)] (MC G a g M T Y) sz) (PI G (va_A (MC G a g M T Y) sz) (fun r (u : (Nat → Int32)) => f_X7_doneIn M = (r, u)) (fun u : (Nat → Int32) => MC G a g u T Y)) 0 0 (va_A (MC G a g M T Y) sz) := by
  refine Met.walk (cc := cX7_doneIn) (maxL := 2) (ret := (some .int)) (Qc := fun A => PI G A (fun r (u : (Nat → Int32)) => f_X7_doneIn M = (r, u)) (fun u : (Nat → Int32) => MC G a g u T Y)) (by decide) rfl (Nat.le_of_ble_eq_true rfl) ?_
  intro p e s m below meth c A H C0 _ hK hsz hP hD hA hS ls hl
  have hx := C0.1
  have hb := C0.2.1
  have hown : s.vm.findClass RX7 = some m.cls := C0.2.2.2.2.1
  have hml := C0.2.2.2.1
  have hts : ∀ w ∈ wsX7_doneIn, w.before [.ref (a 0)].toArray s = true := C0.2.2.2.2.2.1
  have hl : lv_has ls 2 [(0, .ref (a 0))] := hl
  have h_X7_doneIn_9 : ∀ (n : Nat) (M_9 : (Nat → Int32)) (i : Nat), 400 - i < n → (i ≤ 400) → (TickOK M_9 6) → f_X7_doneIn M = s_X7_doneIn_9 n M_9 i → ∀ (H : Heap) (locs : List Loc) (ls : Array Slot), va_P G.1 vwCl (MC G a g M_9 T Y) H → va_D A (MC G a g M_9 T Y) → va_S A s.heap H locs → lv_has ls 2 [(1, .int (nI i)), (0, .ref (a 0))] → W p l e ({ frames := 6, cells := 0, slots := 0, locals := 143 }) s m ([.ref (a 0)] : List Value).toArray below meth c H locs 0 0 (MQ below (PI G A (fun r (u : (Nat → Int32)) => f_X7_doneIn M = (r, u)) (fun u : (Nat → Int32) => MC G a g u T Y)) ([.ref (a 0)] : List Value).toArray s 0 0 A) (F0 m 9 ls []) := by
    intro n
    induction n with
    | zero =>
      intro M_9 i hm
      exact absurd hm (Nat.not_lt_zero _)
    | succ n ih =>
      intro M_9 i hm hi hT hE H locs ls hP hD hS hl
      refine lv_aload_n hx hb dX7_doneIn_9 rfl (lv_at hl 1 rfl) ?_
      refine lv_sipush (v := (nI 276)) hx hb dX7_doneIn_10 (by decide) ?_
      refine gcall_I (run_V (As := [.int (nI 276)]) (rest := []) C0 hK hP hD (c_X7_isDone l G a g M_9 T Y H.size 276 (by omega)) (cwV 1 hts gX7_doneIn_X7_isDone rfl rfl rfl cd_X7_isDone ⟨Nat.le_of_ble_eq_true rfl, Nat.le_of_ble_eq_true rfl⟩) [0, 1, 2, 3] rfl rfl 0 (ci := 7) rfl rfl rfl rfl hl.1 rfl (Nat.le_of_ble_eq_true rfl) dX7_doneIn_13 ⟨Nat.le_of_ble_eq_true rfl, Nat.le_of_ble_eq_true rfl⟩) hP hD hS hA [0, 1, 2, 3] rfl rfl (fun _ => rfl) (fun r_2 _ H locs hw_2 hP hD hS => ?_)
      have hz_r_2 := hw_2.2
      have hw_2 := hw_2.1
      subst hw_2
      have hP : va_P G.1 vwCl (MC G a g M_9 T Y) H := hP
      have hD : va_D A (MC G a g M_9 T Y) := hD
      refine lv_if_ne (tgt := 39) hx hb dX7_doneIn_16 (by decide) (fun c_3 => ?_) (fun c_3 => ?_)
      · refine lv_aload_n hx hb dX7_doneIn_39 rfl (lv_at hl 1 rfl) ?_
        refine lv_sipush (v := (nI 276)) hx hb dX7_doneIn_40 (by decide) ?_
        refine gcall_I (run_V (As := [.int (nI 276)]) (rest := []) C0 hK hP hD (c_X7_isDone l G a g M_9 T Y H.size 276 (by omega)) (cwV 1 hts gX7_doneIn_X7_isDone rfl rfl rfl cd_X7_isDone ⟨Nat.le_of_ble_eq_true rfl, Nat.le_of_ble_eq_true rfl⟩) [0, 1, 2, 3] rfl rfl 0 (ci := 7) rfl rfl rfl rfl hl.1 rfl (Nat.le_of_ble_eq_true rfl) dX7_doneIn_43 ⟨Nat.le_of_ble_eq_true rfl, Nat.le_of_ble_eq_true rfl⟩) hP hD hS hA [0, 1, 2, 3] rfl rfl (fun _ => rfl) (fun r_4 _ H locs hw_4 hP hD hS => ?_)
        have hz_r_4 := hw_4.2
        have hw_4 := hw_4.1
        subst hw_4
        have hP : va_P G.1 vwCl (MC G a g M_9 T Y) H := hP
        have hD : va_D A (MC G a g M_9 T Y) := hD
        refine lv_if_eq (tgt := 53) hx hb dX7_doneIn_46 (by decide) (fun c_5 => absurd c_5 c_3) (fun c_5 => ?_)
        refine lv_iload_n hx hb dX7_doneIn_49 rfl (lv_at hl 0 rfl) ?_
        refine lv_goto (tgt := 55) hx hb dX7_doneIn_50 (by decide) ?_
        exact end_I C0 hP hD hS M_9 (hE.trans (by simp only [s_X7_doneIn_9, if_neg c_3])) rfl dX7_doneIn_55
      · refine lv_iload_n hx hb dX7_doneIn_19 rfl (lv_at hl 0 rfl) ?_
        refine lv_sipush (v := (nI 400)) hx hb dX7_doneIn_20 (by decide) ?_
        refine lv_icmp_ge (tgt := 39) hx hb dX7_doneIn_23 (by decide) (fun c_6 => ?_) (fun c_6 => ?_)
        · have c_6n : 400 ≤ i := (nI_leI (by omega) (by omega)).mp c_6
          refine lv_aload_n hx hb dX7_doneIn_39 rfl (lv_at hl 1 rfl) ?_
          refine lv_sipush (v := (nI 276)) hx hb dX7_doneIn_40 (by decide) ?_
          refine gcall_I (run_V (As := [.int (nI 276)]) (rest := []) C0 hK hP hD (c_X7_isDone l G a g M_9 T Y H.size 276 (by omega)) (cwV 1 hts gX7_doneIn_X7_isDone rfl rfl rfl cd_X7_isDone ⟨Nat.le_of_ble_eq_true rfl, Nat.le_of_ble_eq_true rfl⟩) [0, 1, 2, 3] rfl rfl 0 (ci := 7) rfl rfl rfl rfl hl.1 rfl (Nat.le_of_ble_eq_true rfl) dX7_doneIn_43 ⟨Nat.le_of_ble_eq_true rfl, Nat.le_of_ble_eq_true rfl⟩) hP hD hS hA [0, 1, 2, 3] rfl rfl (fun _ => rfl) (fun r_7 _ H locs hw_7 hP hD hS => ?_)
          have hz_r_7 := hw_7.2
          have hw_7 := hw_7.1
          subst hw_7
          have hP : va_P G.1 vwCl (MC G a g M_9 T Y) H := hP
          have hD : va_D A (MC G a g M_9 T Y) := hD
          refine lv_if_eq (tgt := 53) hx hb dX7_doneIn_46 (by decide) (fun c_8 => ?_) (fun c_8 => absurd c_3 c_8)
          refine lv_bipush (v := (-5)) hx hb dX7_doneIn_53 (by decide) ?_
          exact end_I C0 hP hD hS M_9 (hE.trans (by simp only [s_X7_doneIn_9, if_pos c_3, if_pos c_6])) rfl dX7_doneIn_55
        · have c_6n : ¬ (400 ≤ i) := fun z => c_6 ((nI_leI (by omega) (by omega)).mpr z)
          refine lv_aload_n hx hb dX7_doneIn_26 rfl (lv_at hl 1 rfl) ?_
          refine lv_bipush (v := (nI 6)) hx hb dX7_doneIn_27 (by decide) ?_
          refine lv_iconst (v := (nI 1)) hx hb dX7_doneIn_29 (by decide) ?_
          refine gcall_V (run_V (As := [.int (nI 6), .int (nI 1)]) (rest := []) C0 hK hP hD (c_X7_ticks l G a g M_9 T Y H.size 6 (nI 1) (by omega) hT) (cwV 2 hts gX7_doneIn_X7_ticks rfl rfl rfl cd_X7_ticks ⟨Nat.le_of_ble_eq_true rfl, Nat.le_of_ble_eq_true rfl⟩) [0, 1, 2, 3] rfl rfl 0 (ci := 7) rfl rfl rfl rfl hl.1 rfl (Nat.le_of_ble_eq_true rfl) dX7_doneIn_30 ⟨Nat.le_of_ble_eq_true rfl, Nat.le_of_ble_eq_true rfl⟩) hP hD hS hA [0, 1, 2, 3] rfl rfl (fun _ => rfl) (fun u_9 H locs hw_9 hP hD hS => ?_)
          obtain ⟨M_c9, rfl⟩ : ∃ z, z = u_9 := ⟨_, rfl⟩
          have hP : va_P G.1 vwCl (MC G a g M_c9 T Y) H := hP
          have hD : va_D A (MC G a g M_c9 T Y) := hD
          refine lv_iinc (v := (nI (i + 1))) (lv' := [(1, .int (nI (i + 1))), (0, .ref (a 0))]) hx hb dX7_doneIn_33 hl (k := 0) rfl (inc1 i) (by decide) rfl (fun ls hl => ?_)
          refine lv_goto (tgt := 9) hx hb dX7_doneIn_36 (by decide) ?_
          exact ih M_c9 (i + 1) (by omega) (by omega) (by rw [← hw_9]; exact TickOK.ticks _ (by omega) hT) (hE.trans (by simp only [s_X7_doneIn_9, if_pos c_3, if_neg c_6, hw_9])) _ _ _ hP hD hS (lv_sub hl [0, 1] rfl)
  refine lv_aload_n hx hb dX7_doneIn_0 rfl (lv_at hl 0 rfl) ?_
  refine lv_iconst (v := (nI 0)) hx hb dX7_doneIn_1 (by decide) ?_
  refine lv_bipush (v := (nI 6)) hx hb dX7_doneIn_2 (by decide) ?_
  refine gcall_V (run_V (As := [.int (nI 0), .int (nI 6)]) (rest := []) C0 hK hP hD (c_X7_copies l G a g M T Y H.size 0 6 (by omega) (by omega) (by omega)) (cwV 2 hts gX7_doneIn_X7_copies rfl rfl rfl cd_X7_copies ⟨Nat.le_of_ble_eq_true rfl, Nat.le_of_ble_eq_true rfl⟩) [0, 1, 2, 3] rfl rfl 0 (ci := 7) rfl rfl rfl rfl hl.1 rfl (Nat.le_of_ble_eq_true rfl) dX7_doneIn_4 ⟨Nat.le_of_ble_eq_true rfl, Nat.le_of_ble_eq_true rfl⟩) hP hD hS hA [0, 1, 2, 3] rfl rfl (fun _ => rfl) (fun u_1 H locs hw_1 hP hD hS => ?_)
  obtain ⟨M_c1, rfl⟩ : ∃ z, z = u_1 := ⟨_, rfl⟩
  simp only [f_X7_copies, Prod.mk.injEq] at hw_1
  obtain rfl := hw_1
  have hP : va_P G.1 vwCl (MC G a g (cpyM M 0 6 46) T Y) H := hP
  have hD : va_D A (MC G a g (cpyM M 0 6 46) T Y) := hD
  refine lv_iconst (v := (nI 0)) hx hb dX7_doneIn_7 (by decide) ?_
  refine lv_istore_n (lv' := [(1, .int (nI 0)), (0, .ref (a 0))]) hx hb dX7_doneIn_8 rfl hl (by decide) rfl (fun ls hl => ?_)
  exact h_X7_doneIn_9 401 (cpyM M 0 6 46) 0 (by omega) (by omega) (TickOK.c06 hAA hL) (by simp only [f_X7_doneIn]) _ _ _ hP hD hS (lv_sub hl [0, 1] rfl)

def s_X7_bestFires_23 (p0 : Int32) : Nat → (Nat → Int32) → Int32 → Int32 → Int32 → Nat → Int32 × (Nat → Int32)
  | 0, _, _, _, _, _ => (0, fun _ => 0)
  | n + 1, M_23, bb, bm, bc, k =>
    if (nI 36) ≤ (nI k) then
      (bb, M_23)
    else
      match f_X7_tries M_23 ((nI k) / (nI 6)) ((nI k) - (nI k) / (nI 6) * (nI 6)) p0 with
      | M_c4 =>
        if bm < (f_X7_more M_c4 41) then
          s_X7_bestFires_23 p0 n M_c4 (((nI 10) * ((nI k) / (nI 6))) + ((nI k) - (nI k) / (nI 6) * (nI 6))) (f_X7_more M_c4 41) (f_X7_more M_c4 38) (k + 1)
        else
          if (f_X7_more M_c4 41) = bm then
            if bc ≤ (f_X7_more M_c4 38) then
              s_X7_bestFires_23 p0 n M_c4 bb bm bc (k + 1)
            else
              s_X7_bestFires_23 p0 n M_c4 (((nI 10) * ((nI k) / (nI 6))) + ((nI k) - (nI k) / (nI 6) * (nI 6))) (f_X7_more M_c4 41) (f_X7_more M_c4 38) (k + 1)
          else
            s_X7_bestFires_23 p0 n M_c4 bb bm bc (k + 1)
def f_X7_bestFires (M : (Nat → Int32)) (p0 : Int32) : Int32 × (Nat → Int32) :=
  if (f_X7_in p0 (nI 1) (nI 100)) = 0 then
    ((-2), M)
  else
    s_X7_bestFires_23 p0 37 M (nI 0) (-1) (nI 0) 0
theorem cd_X7_bestFires : yX7_bestFires.cls = RX7 ∧ yX7_bestFires.cls ≠ "java/lang/invoke/MethodHandle" ∧ yX7_bestFires.cls ≠ "java/lang/invoke/VarHandle" ∧ (parseMethodDescriptor yX7_bestFires.desc).map (fun d => d.parameters.length) = some 1 := by decide +kernel
set_option maxHeartbeats 4000000 in
set_option maxRecDepth 100000 in
theorem c_X7_bestFires (l : Launch) (G : GG) (a : Nat → Nat) (g : (Nat → Int32)) (M : (Nat → Int32)) (T : (Nat → Int32)) (Y : (Nat → Int32)) (sz : Nat) (p0 : Int32) (v : (Nat → Int32)) (q : (Nat → Int32)) (hAA : At M 0 v q) (hL : InvL v q) : Met l yX7_bestFires wsX7_bestFires ({ frames := 7, cells := 0, slots := 0, locals := 166 }) (Pre G [.ref (a 0), .int p0] (MC G a g M T Y) sz) (PI G (va_A (MC G a g M T Y) sz) (fun r (u : (Nat → Int32)) => f_X7_bestFires M p0 = (r, u)) (fun u : (Nat → Int32) => MC G a g u T Y)) 0 0 (va_A (MC G a g M T Y) sz) := by
  refine Met.walk (cc := cX7_bestFires) (maxL := 8) (ret := (some .int)) (Qc := fun A => PI G A (fun r (u : (Nat → Int32)) => f_X7_bestFires M p0 = (r, u)) (fun u : (Nat → Int32) => MC G a g u T Y)) (by decide) rfl (Nat.le_of_ble_eq_true rfl) ?_
  intro p e s m below meth c A H C0 _ hK hsz hP hD hA hS ls hl
  have hx := C0.1
  have hb := C0.2.1
  have hown : s.vm.findClass RX7 = some m.cls := C0.2.2.2.2.1
  have hml := C0.2.2.2.1
  have hts : ∀ w ∈ wsX7_bestFires, w.before [.ref (a 0), .int p0].toArray s = true := C0.2.2.2.2.2.1
  have hl : lv_has ls 8 [(0, .ref (a 0)), (1, .int p0)] := hl
  have h_X7_bestFires_23 : ∀ (n : Nat) (M_23 : (Nat → Int32)) (bb : Int32) (bm : Int32) (bc : Int32) (k : Nat), 36 - k < n → (k ≤ 36) → (At M_23 0 v q) → f_X7_bestFires M p0 = s_X7_bestFires_23 p0 n M_23 bb bm bc k → ∀ (H : Heap) (locs : List Loc) (ls : Array Slot), va_P G.1 vwCl (MC G a g M_23 T Y) H → va_D A (MC G a g M_23 T Y) → va_S A s.heap H locs → lv_has ls 8 [(5, .int (nI k)), (4, .int bc), (3, .int bm), (2, .int bb), (0, .ref (a 0)), (1, .int p0)] → W p l e ({ frames := 7, cells := 0, slots := 0, locals := 166 }) s m ([.ref (a 0), .int p0] : List Value).toArray below meth c H locs 0 0 (MQ below (PI G A (fun r (u : (Nat → Int32)) => f_X7_bestFires M p0 = (r, u)) (fun u : (Nat → Int32) => MC G a g u T Y)) ([.ref (a 0), .int p0] : List Value).toArray s 0 0 A) (F0 m 23 ls []) := by
    intro n
    induction n with
    | zero =>
      intro M_23 bb bm bc k hm
      exact absurd hm (Nat.not_lt_zero _)
    | succ n ih =>
      intro M_23 bb bm bc k hm hi hA0 hE H locs ls hP hD hS hl
      refine lv_iload hx hb dX7_bestFires_23 (lv_at hl 0 rfl) ?_
      refine lv_bipush (v := (nI 36)) hx hb dX7_bestFires_25 (by decide) ?_
      refine lv_icmp_ge (tgt := 108) hx hb dX7_bestFires_27 (by decide) (fun c_3 => ?_) (fun c_3 => ?_)
      · have c_3n : 36 ≤ k := (nI_leI (by omega) (by omega)).mp c_3
        refine lv_iload_n hx hb dX7_bestFires_108 rfl (lv_at hl 3 rfl) ?_
        exact end_I C0 hP hD hS M_23 (hE.trans (by simp only [s_X7_bestFires_23, if_pos c_3])) rfl dX7_bestFires_109
      · have c_3n : ¬ (36 ≤ k) := fun z => c_3 ((nI_leI (by omega) (by omega)).mpr z)
        refine lv_aload_n hx hb dX7_bestFires_30 rfl (lv_at hl 4 rfl) ?_
        refine lv_iload hx hb dX7_bestFires_31 (lv_at hl 0 rfl) ?_
        refine lv_bipush (v := (nI 6)) hx hb dX7_bestFires_33 (by decide) ?_
        refine lv_idiv hx hb dX7_bestFires_35 (by decide) ?_
        refine lv_iload hx hb dX7_bestFires_36 (lv_at hl 0 rfl) ?_
        refine lv_bipush (v := (nI 6)) hx hb dX7_bestFires_38 (by decide) ?_
        refine lv_irem hx hb dX7_bestFires_40 (by decide) ?_
        refine lv_iload_n hx hb dX7_bestFires_41 rfl (lv_at hl 5 rfl) ?_
        refine gcall_V (run_V (As := [.int ((nI k) / (nI 6)), .int ((nI k) - (nI k) / (nI 6) * (nI 6)), .int p0]) (rest := []) C0 hK hP hD (c_X7_tries l G a g M_23 T Y H.size ((nI k) / (nI 6)) ((nI k) - (nI k) / (nI 6) * (nI 6)) p0 v q hA0 hL (by rw [div6 (by omega)]; exact nI_ge0 (by omega)) (by rw [rem6 (by omega)]; exact nI_ge0 (by omega))) (cwV 3 hts gX7_bestFires_X7_tries rfl rfl rfl cd_X7_tries ⟨Nat.le_of_ble_eq_true rfl, Nat.le_of_ble_eq_true rfl⟩) [0, 1, 2, 3] rfl rfl 0 (ci := 7) rfl rfl rfl rfl hl.1 rfl (Nat.le_of_ble_eq_true rfl) dX7_bestFires_42 ⟨Nat.le_of_ble_eq_true rfl, Nat.le_of_ble_eq_true rfl⟩) hP hD hS hA [0, 1, 2, 3] rfl rfl (fun _ => rfl) (fun u_4 H locs hw_4 hP hD hS => ?_)
        obtain ⟨M_c4, rfl⟩ : ∃ z, z = u_4 := ⟨_, rfl⟩
        have hP : va_P G.1 vwCl (MC G a g M_c4 T Y) H := hP
        have hD : va_D A (MC G a g M_c4 T Y) := hD
        refine lv_aload_n hx hb dX7_bestFires_45 rfl (lv_at hl 4 rfl) ?_
        refine lv_bipush (v := (nI 41)) hx hb dX7_bestFires_46 (by decide) ?_
        refine gcall_I (run_V (As := [.int (nI 41)]) (rest := []) C0 hK hP hD (c_X7_more l G a g M_c4 T Y H.size 41 (by omega)) (cwV 1 hts gX7_bestFires_X7_more rfl rfl rfl cd_X7_more ⟨Nat.le_of_ble_eq_true rfl, Nat.le_of_ble_eq_true rfl⟩) [0, 1, 2, 3] rfl rfl 0 (ci := 7) rfl rfl rfl rfl hl.1 rfl (Nat.le_of_ble_eq_true rfl) dX7_bestFires_48 ⟨Nat.le_of_ble_eq_true rfl, Nat.le_of_ble_eq_true rfl⟩) hP hD hS hA [0, 1, 2, 3] rfl rfl (fun _ => rfl) (fun r_5 _ H locs hw_5 hP hD hS => ?_)
        subst hw_5
        have hP : va_P G.1 vwCl (MC G a g M_c4 T Y) H := hP
        have hD : va_D A (MC G a g M_c4 T Y) := hD
        refine lv_istore (lv' := [(6, .int (f_X7_more M_c4 41)), (5, .int (nI k)), (4, .int bc), (3, .int bm), (2, .int bb), (0, .ref (a 0)), (1, .int p0)]) hx hb dX7_bestFires_51 hl (by decide) rfl (fun ls hl => ?_)
        refine lv_aload_n hx hb dX7_bestFires_53 rfl (lv_at hl 5 rfl) ?_
        refine lv_bipush (v := (nI 38)) hx hb dX7_bestFires_54 (by decide) ?_
        refine gcall_I (run_V (As := [.int (nI 38)]) (rest := []) C0 hK hP hD (c_X7_more l G a g M_c4 T Y H.size 38 (by omega)) (cwV 1 hts gX7_bestFires_X7_more rfl rfl rfl cd_X7_more ⟨Nat.le_of_ble_eq_true rfl, Nat.le_of_ble_eq_true rfl⟩) [0, 1, 2, 3] rfl rfl 0 (ci := 7) rfl rfl rfl rfl hl.1 rfl (Nat.le_of_ble_eq_true rfl) dX7_bestFires_56 ⟨Nat.le_of_ble_eq_true rfl, Nat.le_of_ble_eq_true rfl⟩) hP hD hS hA [0, 1, 2, 3] rfl rfl (fun _ => rfl) (fun r_6 _ H locs hw_6 hP hD hS => ?_)
        subst hw_6
        have hP : va_P G.1 vwCl (MC G a g M_c4 T Y) H := hP
        have hD : va_D A (MC G a g M_c4 T Y) := hD
        refine lv_istore (lv' := [(7, .int (f_X7_more M_c4 38)), (6, .int (f_X7_more M_c4 41)), (5, .int (nI k)), (4, .int bc), (3, .int bm), (2, .int bb), (0, .ref (a 0)), (1, .int p0)]) hx hb dX7_bestFires_59 hl (by decide) rfl (fun ls hl => ?_)
        refine lv_iload hx hb dX7_bestFires_61 (lv_at hl 1 rfl) ?_
        refine lv_iload_n hx hb dX7_bestFires_63 rfl (lv_at hl 4 rfl) ?_
        refine lv_icmp_gt (tgt := 80) hx hb dX7_bestFires_64 (by decide) (fun c_7 => ?_) (fun c_7 => ?_)
        · refine lv_bipush (v := (nI 10)) hx hb dX7_bestFires_80 (by decide) ?_
          refine lv_iload hx hb dX7_bestFires_82 (lv_at hl 2 rfl) ?_
          refine lv_bipush (v := (nI 6)) hx hb dX7_bestFires_84 (by decide) ?_
          refine lv_idiv hx hb dX7_bestFires_86 (by decide) ?_
          refine lv_imul hx hb dX7_bestFires_87 ?_
          refine lv_iload hx hb dX7_bestFires_88 (lv_at hl 2 rfl) ?_
          refine lv_bipush (v := (nI 6)) hx hb dX7_bestFires_90 (by decide) ?_
          refine lv_irem hx hb dX7_bestFires_92 (by decide) ?_
          refine lv_iadd hx hb dX7_bestFires_93 ?_
          refine lv_istore_n (lv' := [(2, .int (((nI 10) * ((nI k) / (nI 6))) + ((nI k) - (nI k) / (nI 6) * (nI 6)))), (7, .int (f_X7_more M_c4 38)), (6, .int (f_X7_more M_c4 41)), (5, .int (nI k)), (4, .int bc), (3, .int bm), (0, .ref (a 0)), (1, .int p0)]) hx hb dX7_bestFires_94 rfl hl (by decide) rfl (fun ls hl => ?_)
          refine lv_iload hx hb dX7_bestFires_95 (lv_at hl 2 rfl) ?_
          refine lv_istore_n (lv' := [(3, .int (f_X7_more M_c4 41)), (2, .int (((nI 10) * ((nI k) / (nI 6))) + ((nI k) - (nI k) / (nI 6) * (nI 6)))), (7, .int (f_X7_more M_c4 38)), (6, .int (f_X7_more M_c4 41)), (5, .int (nI k)), (4, .int bc), (0, .ref (a 0)), (1, .int p0)]) hx hb dX7_bestFires_97 rfl hl (by decide) rfl (fun ls hl => ?_)
          refine lv_iload hx hb dX7_bestFires_98 (lv_at hl 2 rfl) ?_
          refine lv_istore (lv' := [(4, .int (f_X7_more M_c4 38)), (3, .int (f_X7_more M_c4 41)), (2, .int (((nI 10) * ((nI k) / (nI 6))) + ((nI k) - (nI k) / (nI 6) * (nI 6)))), (7, .int (f_X7_more M_c4 38)), (6, .int (f_X7_more M_c4 41)), (5, .int (nI k)), (0, .ref (a 0)), (1, .int p0)]) hx hb dX7_bestFires_100 hl (by decide) rfl (fun ls hl => ?_)
          refine lv_iinc (v := (nI (k + 1))) (lv' := [(5, .int (nI (k + 1))), (4, .int (f_X7_more M_c4 38)), (3, .int (f_X7_more M_c4 41)), (2, .int (((nI 10) * ((nI k) / (nI 6))) + ((nI k) - (nI k) / (nI 6) * (nI 6)))), (7, .int (f_X7_more M_c4 38)), (6, .int (f_X7_more M_c4 41)), (0, .ref (a 0)), (1, .int p0)]) hx hb dX7_bestFires_102 hl (k := 5) rfl (inc1 k) (by decide) rfl (fun ls hl => ?_)
          refine lv_goto (tgt := 23) hx hb dX7_bestFires_105 (by decide) ?_
          exact ih M_c4 (((nI 10) * ((nI k) / (nI 6))) + ((nI k) - (nI k) / (nI 6) * (nI 6))) (f_X7_more M_c4 41) (f_X7_more M_c4 38) (k + 1) (by omega) (by omega) (hA0.fr (fun j h1 h2 => by rw [← hw_4]; exact tries_keep hA0 hL (by rw [div6 (by omega)]; exact nI_ge0 (by omega)) (by rw [rem6 (by omega)]; exact nI_ge0 (by omega)) (by omega))) (hE.trans (by simp only [s_X7_bestFires_23, if_neg c_3, hw_4, if_pos c_7])) _ _ _ hP hD hS (lv_sub hl [0, 1, 2, 3, 6, 7] rfl)
        · refine lv_iload hx hb dX7_bestFires_67 (lv_at hl 1 rfl) ?_
          refine lv_iload_n hx hb dX7_bestFires_69 rfl (lv_at hl 4 rfl) ?_
          refine lv_icmp_ne (tgt := 102) hx hb dX7_bestFires_70 (by decide) (fun c_8 => ?_) (fun c_8 => ?_)
          · refine lv_iinc (v := (nI (k + 1))) (lv' := [(5, .int (nI (k + 1))), (7, .int (f_X7_more M_c4 38)), (6, .int (f_X7_more M_c4 41)), (4, .int bc), (3, .int bm), (2, .int bb), (0, .ref (a 0)), (1, .int p0)]) hx hb dX7_bestFires_102 hl (k := 2) rfl (inc1 k) (by decide) rfl (fun ls hl => ?_)
            refine lv_goto (tgt := 23) hx hb dX7_bestFires_105 (by decide) ?_
            exact ih M_c4 bb bm bc (k + 1) (by omega) (by omega) (hA0.fr (fun j h1 h2 => by rw [← hw_4]; exact tries_keep hA0 hL (by rw [div6 (by omega)]; exact nI_ge0 (by omega)) (by rw [rem6 (by omega)]; exact nI_ge0 (by omega)) (by omega))) (hE.trans (by simp only [s_X7_bestFires_23, if_neg c_3, hw_4, if_neg c_7, if_neg c_8])) _ _ _ hP hD hS (lv_sub hl [0, 3, 4, 5, 6, 7] rfl)
          · refine lv_iload hx hb dX7_bestFires_73 (lv_at hl 0 rfl) ?_
            refine lv_iload hx hb dX7_bestFires_75 (lv_at hl 3 rfl) ?_
            refine lv_icmp_ge (tgt := 102) hx hb dX7_bestFires_77 (by decide) (fun c_9 => ?_) (fun c_9 => ?_)
            · refine lv_iinc (v := (nI (k + 1))) (lv' := [(5, .int (nI (k + 1))), (7, .int (f_X7_more M_c4 38)), (6, .int (f_X7_more M_c4 41)), (4, .int bc), (3, .int bm), (2, .int bb), (0, .ref (a 0)), (1, .int p0)]) hx hb dX7_bestFires_102 hl (k := 2) rfl (inc1 k) (by decide) rfl (fun ls hl => ?_)
              refine lv_goto (tgt := 23) hx hb dX7_bestFires_105 (by decide) ?_
              exact ih M_c4 bb bm bc (k + 1) (by omega) (by omega) (hA0.fr (fun j h1 h2 => by rw [← hw_4]; exact tries_keep hA0 hL (by rw [div6 (by omega)]; exact nI_ge0 (by omega)) (by rw [rem6 (by omega)]; exact nI_ge0 (by omega)) (by omega))) (hE.trans (by simp only [s_X7_bestFires_23, if_neg c_3, hw_4, if_neg c_7, if_pos c_8, if_pos c_9])) _ _ _ hP hD hS (lv_sub hl [0, 3, 4, 5, 6, 7] rfl)
            · refine lv_bipush (v := (nI 10)) hx hb dX7_bestFires_80 (by decide) ?_
              refine lv_iload hx hb dX7_bestFires_82 (lv_at hl 2 rfl) ?_
              refine lv_bipush (v := (nI 6)) hx hb dX7_bestFires_84 (by decide) ?_
              refine lv_idiv hx hb dX7_bestFires_86 (by decide) ?_
              refine lv_imul hx hb dX7_bestFires_87 ?_
              refine lv_iload hx hb dX7_bestFires_88 (lv_at hl 2 rfl) ?_
              refine lv_bipush (v := (nI 6)) hx hb dX7_bestFires_90 (by decide) ?_
              refine lv_irem hx hb dX7_bestFires_92 (by decide) ?_
              refine lv_iadd hx hb dX7_bestFires_93 ?_
              refine lv_istore_n (lv' := [(2, .int (((nI 10) * ((nI k) / (nI 6))) + ((nI k) - (nI k) / (nI 6) * (nI 6)))), (7, .int (f_X7_more M_c4 38)), (6, .int (f_X7_more M_c4 41)), (5, .int (nI k)), (4, .int bc), (3, .int bm), (0, .ref (a 0)), (1, .int p0)]) hx hb dX7_bestFires_94 rfl hl (by decide) rfl (fun ls hl => ?_)
              refine lv_iload hx hb dX7_bestFires_95 (lv_at hl 2 rfl) ?_
              refine lv_istore_n (lv' := [(3, .int (f_X7_more M_c4 41)), (2, .int (((nI 10) * ((nI k) / (nI 6))) + ((nI k) - (nI k) / (nI 6) * (nI 6)))), (7, .int (f_X7_more M_c4 38)), (6, .int (f_X7_more M_c4 41)), (5, .int (nI k)), (4, .int bc), (0, .ref (a 0)), (1, .int p0)]) hx hb dX7_bestFires_97 rfl hl (by decide) rfl (fun ls hl => ?_)
              refine lv_iload hx hb dX7_bestFires_98 (lv_at hl 2 rfl) ?_
              refine lv_istore (lv' := [(4, .int (f_X7_more M_c4 38)), (3, .int (f_X7_more M_c4 41)), (2, .int (((nI 10) * ((nI k) / (nI 6))) + ((nI k) - (nI k) / (nI 6) * (nI 6)))), (7, .int (f_X7_more M_c4 38)), (6, .int (f_X7_more M_c4 41)), (5, .int (nI k)), (0, .ref (a 0)), (1, .int p0)]) hx hb dX7_bestFires_100 hl (by decide) rfl (fun ls hl => ?_)
              refine lv_iinc (v := (nI (k + 1))) (lv' := [(5, .int (nI (k + 1))), (4, .int (f_X7_more M_c4 38)), (3, .int (f_X7_more M_c4 41)), (2, .int (((nI 10) * ((nI k) / (nI 6))) + ((nI k) - (nI k) / (nI 6) * (nI 6)))), (7, .int (f_X7_more M_c4 38)), (6, .int (f_X7_more M_c4 41)), (0, .ref (a 0)), (1, .int p0)]) hx hb dX7_bestFires_102 hl (k := 5) rfl (inc1 k) (by decide) rfl (fun ls hl => ?_)
              refine lv_goto (tgt := 23) hx hb dX7_bestFires_105 (by decide) ?_
              exact ih M_c4 (((nI 10) * ((nI k) / (nI 6))) + ((nI k) - (nI k) / (nI 6) * (nI 6))) (f_X7_more M_c4 41) (f_X7_more M_c4 38) (k + 1) (by omega) (by omega) (hA0.fr (fun j h1 h2 => by rw [← hw_4]; exact tries_keep hA0 hL (by rw [div6 (by omega)]; exact nI_ge0 (by omega)) (by rw [rem6 (by omega)]; exact nI_ge0 (by omega)) (by omega))) (hE.trans (by simp only [s_X7_bestFires_23, if_neg c_3, hw_4, if_neg c_7, if_pos c_8, if_neg c_9])) _ _ _ hP hD hS (lv_sub hl [0, 1, 2, 3, 6, 7] rfl)
  refine lv_iload_n hx hb dX7_bestFires_0 rfl (lv_at hl 1 rfl) ?_
  refine lv_iconst (v := (nI 1)) hx hb dX7_bestFires_1 (by decide) ?_
  refine lv_bipush (v := (nI 100)) hx hb dX7_bestFires_2 (by decide) ?_
  refine gcall_I (run_S (As := [.int p0, .int (nI 1), .int (nI 100)]) (rest := []) C0 hK hP hD (c_X7_in l G   H.size p0 (nI 1) (nI 100)) (va_cwS 3 hts gX7_bestFires_X7_in rfl rfl rfl cd2_X7_in ⟨Nat.le_of_ble_eq_true rfl, Nat.le_of_ble_eq_true rfl⟩) [] rfl rfl rfl hl.1 rfl (Nat.le_of_ble_eq_true rfl) dX7_bestFires_4 ⟨Nat.le_of_ble_eq_true rfl, Nat.le_of_ble_eq_true rfl⟩) hP hD hS hA [] rfl rfl (fun _ => rfl) (fun r_1 _ H locs hw_1 hP hD hS => ?_)
  have hz_r_1 := hw_1.2
  have hw_1 := hw_1.1
  subst hw_1
  have hP : va_P G.1 vwCl (MC G a g M T Y) H := hP
  have hD : va_D A (MC G a g M T Y) := hD
  refine lv_if_ne (tgt := 13) hx hb dX7_bestFires_7 (by decide) (fun c_2 => ?_) (fun c_2 => ?_)
  · refine lv_iconst (v := (nI 0)) hx hb dX7_bestFires_13 (by decide) ?_
    refine lv_istore_n (lv' := [(2, .int (nI 0)), (0, .ref (a 0)), (1, .int p0)]) hx hb dX7_bestFires_14 rfl hl (by decide) rfl (fun ls hl => ?_)
    refine lv_iconst (v := (-1)) hx hb dX7_bestFires_15 (by decide) ?_
    refine lv_istore_n (lv' := [(3, .int (-1)), (2, .int (nI 0)), (0, .ref (a 0)), (1, .int p0)]) hx hb dX7_bestFires_16 rfl hl (by decide) rfl (fun ls hl => ?_)
    refine lv_iconst (v := (nI 0)) hx hb dX7_bestFires_17 (by decide) ?_
    refine lv_istore (lv' := [(4, .int (nI 0)), (3, .int (-1)), (2, .int (nI 0)), (0, .ref (a 0)), (1, .int p0)]) hx hb dX7_bestFires_18 hl (by decide) rfl (fun ls hl => ?_)
    refine lv_iconst (v := (nI 0)) hx hb dX7_bestFires_20 (by decide) ?_
    refine lv_istore (lv' := [(5, .int (nI 0)), (4, .int (nI 0)), (3, .int (-1)), (2, .int (nI 0)), (0, .ref (a 0)), (1, .int p0)]) hx hb dX7_bestFires_21 hl (by decide) rfl (fun ls hl => ?_)
    exact h_X7_bestFires_23 37 M (nI 0) (-1) (nI 0) 0 (by omega) (by omega) hAA (by simp only [f_X7_bestFires, if_neg c_2]) _ _ _ hP hD hS (lv_sub hl [0, 1, 2, 3, 4, 5] rfl)
  · refine lv_bipush (v := (-2)) hx hb dX7_bestFires_10 (by decide) ?_
    exact end_I C0 hP hD hS M (by simp only [f_X7_bestFires, if_pos c_2]) rfl dX7_bestFires_12
